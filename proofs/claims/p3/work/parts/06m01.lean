-- methods told as propositions, and tied to the machine
def W_X13_addSymbol (n1 : Int) (n2 : Int) (σ : S0) (Q : S0 → Prop) : Prop :=
  (0 ≤ σ.1 6 ∧ σ.1 6 < 30400) ∧ (rg (σ.1 6 + 1) ∧ (0 ≤ σ.1 22 ∧ σ.1 22 < 1501) ∧ (∀ (x4 : Int), rg x4 → x4 = σ.2.1 15 (σ.1 22) → (rg (x4 + 1) ∧ Q (s_a (s_v (s_a (s_a σ 16 (σ.1 6) n1) 17 (σ.1 6) n2) 6 (σ.1 6 + 1)) 15 (σ.1 22) (x4 + 1)))))
set_option maxRecDepth 100000 in
set_option maxHeartbeats 4000000 in
theorem L_X13_addSymbol (l : Launch) (g : gG) (q : Nat → Nat) (lb : Nat) (hlb : lb < 2 ^ 31) {n1 : Int} {n2 : Int} {σ : S0} {Q : S0 → Prop} (r_n1 : rg n1) (r_n2 : rg n2) (hN : n_m σ) (hw : W_X13_addSymbol n1 n2 σ Q) (sz : Nat) : MetV l yX13_addSymbol cX13_addSymbol 3 { frames := 0, cells := 0, slots := 0, locals := 0 } g [.ref (q 0), .int (I n1), .int (I n2)] (MX g q lb σ) sz xT (p_V (MX g q lb) [6] [15, 16, 17] [] σ Q) 0 0 := by
  refine mkMet (Qc := fun A => QV g A (p_V (MX g q lb) [6] [15, 16, 17] [] σ Q)) (by decide) (Nat.le_of_ble_eq_true rfl) ?_
  intro p e s m below meth c A H ls hx hb hr hml hown hts hlk hnm hsz hP hK hNb hD hA hAe hS hX hl
  have hl : lv_has ls 3 [(0, .ref (q 0)), (1, .int (I n1)), (2, .int (I n2))] := hl
  have hB := hN
  have hF : f_r [6] [15, 16, 17] [] σ σ := f_0
  obtain ⟨locs, hlocs⟩ : ∃ z : List Loc, z = [] := ⟨_, rfl⟩
  rw [← hlocs] at hS ⊢
  refine lv_aload_n hx hb dX13_addSymbol_0 rfl (lv_at hl 0 rfl) ?_
  refine gfX13_texts hx hb hts hK hP hown (hts _ tw_2028) dX13_addSymbol_1 ?_
  refine lv_aload_n hx hb dX13_addSymbol_4 rfl (lv_at hl 0 rfl) ?_
  refine gfX13_textCount hx hb hts hK hP hown (hts _ tw_2030) (x := σ.1 6) rfl dX13_addSymbol_5 ?_
  refine lv_iload_n hx hb dX13_addSymbol_8 rfl (lv_at hl 1 rfl) ?_
  obtain ⟨c1, hw⟩ := hw
  refine sdMX13_texts hx hb hK hP hD hS c1 dX13_addSymbol_9 (fun H locs hP hD hS => ?_)
  have hN : n_m (s_a σ 16 (σ.1 6) n1) := n_a (k := 16) (j := σ.1 6) hN (r_n1 : rg n1)
  have hF : f_r [6] [15, 16, 17] [] σ (s_a σ 16 (σ.1 6) n1) := f_a hF (by decide)
  refine lv_aload_n hx hb dX13_addSymbol_10 rfl (lv_at hl 0 rfl) ?_
  refine gfX13_floats hx hb hts hK hP hown (hts _ tw_2029) dX13_addSymbol_11 ?_
  refine lv_aload_n hx hb dX13_addSymbol_14 rfl (lv_at hl 0 rfl) ?_
  refine gfX13_textCount hx hb hts hK hP hown (hts _ tw_2030) (x := σ.1 6) rfl dX13_addSymbol_15 ?_
  refine lv_iload_n hx hb dX13_addSymbol_18 rfl (lv_at hl 2 rfl) ?_
  refine sdMX13_floats hx hb hK hP hD hS c1 dX13_addSymbol_19 (fun H locs hP hD hS => ?_)
  have hN : n_m (s_a (s_a σ 16 (σ.1 6) n1) 17 (σ.1 6) n2) := n_a (k := 17) (j := σ.1 6) hN (r_n2 : rg n2)
  have hF : f_r [6] [15, 16, 17] [] σ (s_a (s_a σ 16 (σ.1 6) n1) 17 (σ.1 6) n2) := f_a hF (by decide)
  refine lv_aload_n hx hb dX13_addSymbol_20 rfl (lv_at hl 0 rfl) ?_
  refine lv_dup hx hb dX13_addSymbol_21 rfl ?_
  refine gfX13_textCount hx hb hts hK hP hown (hts _ tw_2030) (x := σ.1 6) rfl dX13_addSymbol_22 ?_
  refine lv_iconst (v := I 1) hx hb dX13_addSymbol_25 rfl ?_
  refine bi_iadd hx hb dX13_addSymbol_26 ?_
  obtain ⟨c2, hw⟩ := hw
  refine pfX13_textCount hx hb hts hK hP hD hS hown (hts _ tw_2030) dX13_addSymbol_27 (fun H locs hP hD hS => ?_)
  have hN : n_m (s_v (s_a (s_a σ 16 (σ.1 6) n1) 17 (σ.1 6) n2) 6 (σ.1 6 + 1)) := n_v (i := 6) hN (c2 : rg (σ.1 6 + 1))
  have hF : f_r [6] [15, 16, 17] [] σ (s_v (s_a (s_a σ 16 (σ.1 6) n1) 17 (σ.1 6) n2) 6 (σ.1 6 + 1)) := f_v hF (by decide)
  refine lv_aload_n hx hb dX13_addSymbol_30 rfl (lv_at hl 0 rfl) ?_
  refine gfX13_textSize hx hb hts hK hP hown (hts _ tw_2027) dX13_addSymbol_31 ?_
  refine lv_aload_n hx hb dX13_addSymbol_34 rfl (lv_at hl 0 rfl) ?_
  refine gfX13_now hx hb hts hK hP hown (hts _ tw_2068) (x := σ.1 22) rfl dX13_addSymbol_35 ?_
  refine lv_dup2_11 hx hb dX13_addSymbol_38 rfl rfl ?_
  obtain ⟨c3, hw⟩ := hw
  refine ldMX13_textSize hx hb hK hP hN c3 dX13_addSymbol_39 (fun x4 r_x4 e_x4 => ?_)
  replace hw := hw x4 r_x4 e_x4
  refine lv_iconst (v := I 1) hx hb dX13_addSymbol_40 rfl ?_
  refine bi_iadd hx hb dX13_addSymbol_41 ?_
  obtain ⟨c5, hw⟩ := hw
  refine sdMX13_textSize hx hb hK hP hD hS c3 dX13_addSymbol_42 (fun H locs hP hD hS => ?_)
  have hN : n_m (s_a (s_v (s_a (s_a σ 16 (σ.1 6) n1) 17 (σ.1 6) n2) 6 (σ.1 6 + 1)) 15 (σ.1 22) (x4 + 1)) := n_a (k := 15) (j := σ.1 22) hN (c5 : rg (x4 + 1))
  have hF : f_r [6] [15, 16, 17] [] σ (s_a (s_v (s_a (s_a σ 16 (σ.1 6) n1) 17 (σ.1 6) n2) 6 (σ.1 6 + 1)) 15 (σ.1 22) (x4 + 1)) := f_a hF (by decide)
  exact xrv hx hb hr hlk hP hK hD hS ⟨_, hN, hF, rfl, hw⟩ (Nat.le_of_ble_eq_true rfl) (Nat.le_of_ble_eq_true rfl) dX13_addSymbol_43
def W_X13_readFirst (σ : S0) (Q : S0 → Prop) : Prop :=
  ∀ (P38 : Int → Int → S0 → Prop) (P71 : S0 → Prop) (P79 : Int → Int → S0 → Prop) (P102 : S0 → Prop) (P111 : Int → Int → S0 → Prop) (P143 : Int → Int → Int → S0 → Prop),
  (∀ (u1 : Int) (k0 : Int) (τ : S0), ((τ.1 6 = 30000 → P71 τ) ∧ (¬ τ.1 6 = 30000 → (k0 = 0 → P79 u1 k0 τ) ∧ (¬ k0 = 0 → (0 ≤ u1 ∧ u1 < 1001) ∧ (∀ (x15 : Int), rg x15 → x15 = τ.2.1 12 u1 → ((¬ x15 = 0 → P79 u1 k0 τ) ∧ (x15 = 0 → (¬ τ.1 4 = 100 → P79 u1 k0 τ) ∧ (τ.1 4 = 100 → P71 τ))))))) → P38 u1 k0 τ) →
  (∀ (τ : S0), (∃ (Q18 : S0 → Prop), W_X13_failHere 5 τ Q18 ∧ ∀ (τ20 : S0), n_m τ20 → f_r [20, 21] [] [] τ τ20 → Q18 τ20 → (Q τ20)) → P71 τ) →
  (∀ (u1 : Int) (u2 : Int) (τ : S0), ((u1 = (-1) → P102 τ) ∧ (¬ u1 = (-1) → (0 ≤ u1 ∧ u1 < 1001) ∧ (∀ (x23 : Int), rg x23 → x23 = τ.2.1 8 u1 → ((x23 = 0 → P111 u1 u2 τ) ∧ (¬ x23 = 0 → ∀ (x25 : Int), rg x25 → x25 = τ.2.1 9 u1 → ((¬ x25 = 0 → P111 u1 u2 τ) ∧ (x25 = 0 → P102 τ))))))) → P79 u1 u2 τ) →
  (∀ (τ : S0), (∃ (Q27 : S0 → Prop), W_X13_failHere 9 τ Q27 ∧ ∀ (τ29 : S0), n_m τ29 → f_r [20, 21] [] [] τ τ29 → Q27 τ29 → (Q τ29)) → P102 τ) →
  (∀ (u1 : Int) (u2 : Int) (τ : S0), ((¬ u2 = 0 → (0 ≤ u1 ∧ u1 < 1001) ∧ (∀ (x32 : Int), rg x32 → x32 = τ.2.1 12 u1 → ((x32 = 0 → P143 u1 (τ.1 4) 1 τ) ∧ (¬ x32 = 0 → P143 u1 (τ.1 4) 0 τ)))) ∧ (u2 = 0 → ∃ (Q34 : S0 → Prop), W_X13_failHere 10 τ Q34 ∧ ∀ (τ36 : S0), n_m τ36 → f_r [20, 21] [] [] τ τ36 → Q34 τ36 → (Q τ36))) → P111 u1 u2 τ) →
  (∀ (u1 : Int) (k1 : Int) (k2 : Int) (τ : S0), (rg (k1 + k2) ∧ (0 ≤ u1 ∧ u1 < 1001) ∧ (∃ (Q39 : S0 → Prop), W_X13_addSymbol u1 (-1) (s_a (s_v τ 4 (k1 + k2)) 12 u1 1) Q39 ∧ ∀ (τ41 : S0), n_m τ41 → f_r [6] [15, 16, 17] [] (s_a (s_v τ 4 (k1 + k2)) 12 u1 1) τ41 → Q39 τ41 → (Q τ41))) → P143 u1 k1 k2 τ) →
  (σ.1 19 = 1 → ∃ (Q2 : Int → Prop), W_X13_symbolHere σ Q2 ∧ ∀ (x3 : Int), rg x3 → Q2 x3 → ((x3 = (-1) → P38 x3 0 σ) ∧ (¬ x3 = (-1) → (0 ≤ x3 ∧ x3 < 1001) ∧ (∀ (x7 : Int), rg x7 → x7 = σ.2.1 8 x3 → ((¬ x7 = 0 → P38 x3 0 σ) ∧ (x7 = 0 → P38 x3 1 σ)))))) ∧ (¬ σ.1 19 = 1 → ∃ (Q9 : S0 → Prop), W_X13_failHere 4 σ Q9 ∧ ∀ (τ11 : S0), n_m τ11 → f_r [20, 21] [] [] σ τ11 → Q9 τ11 → (Q τ11))
set_option maxRecDepth 100000 in
set_option maxHeartbeats 4000000 in
theorem L_X13_readFirst (l : Launch) (g : gG) (q : Nat → Nat) (lb : Nat) (hlb : lb < 2 ^ 31) {σ : S0} {Q : S0 → Prop} (hN : n_m σ) (hw : W_X13_readFirst σ Q) (sz : Nat) : MetV l yX13_readFirst cX13_readFirst 3 { frames := 3, cells := 0, slots := 0, locals := 71 } g [.ref (q 0)] (MX g q lb σ) sz xT (p_V (MX g q lb) [4, 6, 20, 21] [12, 15, 16, 17] [] σ Q) 0 0 := by
  refine mkMet (Qc := fun A => QV g A (p_V (MX g q lb) [4, 6, 20, 21] [12, 15, 16, 17] [] σ Q)) (by decide) (Nat.le_of_ble_eq_true rfl) ?_
  intro p e s m below meth c A H ls hx hb hr hml hown hts hlk hnm hsz hP hK hNb hD hA hAe hS hX hl
  have hl : lv_has ls 3 [(0, .ref (q 0))] := hl
  have hB := hN
  have hF : f_r [4, 6, 20, 21] [12, 15, 16, 17] [] σ σ := f_0
  obtain ⟨locs, hlocs⟩ : ∃ z : List Loc, z = [] := ⟨_, rfl⟩
  rw [← hlocs] at hS ⊢
  obtain ⟨P38, hP38⟩ : ∃ P : Int → Int → S0 → Prop, ∀ (u1 : Int) (k0 : Int) (τ : S0), (P u1 k0 τ ↔ (rg u1 → rg k0 → n_m τ → f_r [4, 6, 20, 21] [12, 15, 16, 17] [] σ τ → ∀ (H : Heap) (locs : List Loc) (ls : Array Slot), KP g (MX g q lb τ) H → va_D A (MX g q lb τ) → va_S A s.heap H locs → lv_has ls 3 [(0, .ref (q 0)), (1, .int (I u1))] → W p l e ({ frames := 3, cells := 0, slots := 0, locals := 71 }) s m [.ref (q 0)].toArray below meth c H locs 0 0 (MQ below (QV g A (p_V (MX g q lb) [4, 6, 20, 21] [12, 15, 16, 17] [] σ Q)) [.ref (q 0)].toArray s 0 0 A) (F0 m 38 ls [.int (I k0)]))) := ⟨_, fun _ _ _ => Iff.rfl⟩
  obtain ⟨P71, hP71⟩ : ∃ P : S0 → Prop, ∀ (τ : S0), (P τ ↔ (n_m τ → f_r [4, 6, 20, 21] [12, 15, 16, 17] [] σ τ → ∀ (H : Heap) (locs : List Loc) (ls : Array Slot), KP g (MX g q lb τ) H → va_D A (MX g q lb τ) → va_S A s.heap H locs → lv_has ls 3 [(0, .ref (q 0))] → W p l e ({ frames := 3, cells := 0, slots := 0, locals := 71 }) s m [.ref (q 0)].toArray below meth c H locs 0 0 (MQ below (QV g A (p_V (MX g q lb) [4, 6, 20, 21] [12, 15, 16, 17] [] σ Q)) [.ref (q 0)].toArray s 0 0 A) (F0 m 71 ls []))) := ⟨_, fun _ => Iff.rfl⟩
  obtain ⟨P79, hP79⟩ : ∃ P : Int → Int → S0 → Prop, ∀ (u1 : Int) (u2 : Int) (τ : S0), (P u1 u2 τ ↔ (rg u1 → rg u2 → n_m τ → f_r [4, 6, 20, 21] [12, 15, 16, 17] [] σ τ → ∀ (H : Heap) (locs : List Loc) (ls : Array Slot), KP g (MX g q lb τ) H → va_D A (MX g q lb τ) → va_S A s.heap H locs → lv_has ls 3 [(0, .ref (q 0)), (1, .int (I u1)), (2, .int (I u2))] → W p l e ({ frames := 3, cells := 0, slots := 0, locals := 71 }) s m [.ref (q 0)].toArray below meth c H locs 0 0 (MQ below (QV g A (p_V (MX g q lb) [4, 6, 20, 21] [12, 15, 16, 17] [] σ Q)) [.ref (q 0)].toArray s 0 0 A) (F0 m 79 ls []))) := ⟨_, fun _ _ _ => Iff.rfl⟩
  obtain ⟨P102, hP102⟩ : ∃ P : S0 → Prop, ∀ (τ : S0), (P τ ↔ (n_m τ → f_r [4, 6, 20, 21] [12, 15, 16, 17] [] σ τ → ∀ (H : Heap) (locs : List Loc) (ls : Array Slot), KP g (MX g q lb τ) H → va_D A (MX g q lb τ) → va_S A s.heap H locs → lv_has ls 3 [(0, .ref (q 0))] → W p l e ({ frames := 3, cells := 0, slots := 0, locals := 71 }) s m [.ref (q 0)].toArray below meth c H locs 0 0 (MQ below (QV g A (p_V (MX g q lb) [4, 6, 20, 21] [12, 15, 16, 17] [] σ Q)) [.ref (q 0)].toArray s 0 0 A) (F0 m 102 ls []))) := ⟨_, fun _ => Iff.rfl⟩
  obtain ⟨P111, hP111⟩ : ∃ P : Int → Int → S0 → Prop, ∀ (u1 : Int) (u2 : Int) (τ : S0), (P u1 u2 τ ↔ (rg u1 → rg u2 → n_m τ → f_r [4, 6, 20, 21] [12, 15, 16, 17] [] σ τ → ∀ (H : Heap) (locs : List Loc) (ls : Array Slot), KP g (MX g q lb τ) H → va_D A (MX g q lb τ) → va_S A s.heap H locs → lv_has ls 3 [(0, .ref (q 0)), (1, .int (I u1)), (2, .int (I u2))] → W p l e ({ frames := 3, cells := 0, slots := 0, locals := 71 }) s m [.ref (q 0)].toArray below meth c H locs 0 0 (MQ below (QV g A (p_V (MX g q lb) [4, 6, 20, 21] [12, 15, 16, 17] [] σ Q)) [.ref (q 0)].toArray s 0 0 A) (F0 m 111 ls []))) := ⟨_, fun _ _ _ => Iff.rfl⟩
  obtain ⟨P143, hP143⟩ : ∃ P : Int → Int → Int → S0 → Prop, ∀ (u1 : Int) (k1 : Int) (k2 : Int) (τ : S0), (P u1 k1 k2 τ ↔ (rg u1 → rg k1 → rg k2 → n_m τ → f_r [4, 6, 20, 21] [12, 15, 16, 17] [] σ τ → ∀ (H : Heap) (locs : List Loc) (ls : Array Slot), KP g (MX g q lb τ) H → va_D A (MX g q lb τ) → va_S A s.heap H locs → lv_has ls 3 [(0, .ref (q 0)), (1, .int (I u1))] → W p l e ({ frames := 3, cells := 0, slots := 0, locals := 71 }) s m [.ref (q 0)].toArray below meth c H locs 0 0 (MQ below (QV g A (p_V (MX g q lb) [4, 6, 20, 21] [12, 15, 16, 17] [] σ Q)) [.ref (q 0)].toArray s 0 0 A) (F0 m 143 ls [.int (I k2), .int (I k1), .ref (q 0)]))) := ⟨_, fun _ _ _ _ => Iff.rfl⟩
  refine (fun hw => ?_) (hw P38 P71 P79 P102 P111 P143 ?_ ?_ ?_ ?_ ?_ ?_)
  ·
    refine lv_aload_n hx hb dX13_readFirst_0 rfl (lv_at hl 0 rfl) ?_
    refine gfX13_token hx hb hts hK hP hown (hts _ tw_2064) (x := σ.1 19) rfl dX13_readFirst_1 ?_
    refine lv_iconst (v := I 1) hx hb dX13_readFirst_4 rfl ?_
    refine bi_icmp_eq (tgt := 14) hx hb (hB.1 19) (by decide) dX13_readFirst_5 (by decide) (fun c1 => ?_) (fun c1 => ?_)
    ·
      replace hw := hw.1 c1
      refine lv_aload_n hx hb dX13_readFirst_14 rfl (lv_at hl 0 rfl) ?_
      obtain ⟨Q2, hc, hw⟩ := hw
      refine wc_i (X := MX g q lb) (va_runV (As := []) (rest := []) ⟨hx, hb, hml, hown, hts⟩ (L_X13_symbolHere l g q lb hlb  hN hc H.size) (cwV 0 hts (TB_V tw_2609 tw_2611 ts_117 tw_15 co_X13_symbolHere) rfl rfl rfl (by decide +kernel) ⟨Nat.le_of_ble_eq_true rfl, Nat.le_of_ble_eq_true rfl⟩) (preV (q0 := 0) (ci := 13) rfl xT_bl hP hK hNb hD rfl rfl xT_at) rfl rfl hl.1 rfl (lv_room (Nat.le_of_ble_eq_true rfl)) dX13_readFirst_15 ⟨Nat.le_of_ble_eq_true rfl, Nat.le_of_ble_eq_true rfl⟩) hP hD hS hA (fun x3 H locs r_x3 hq hP hD hS => ?_)
      replace hw := hw x3 r_x3 hq
      refine lv_istore_n (lv' := [(1, .int (I x3)), (0, .ref (q 0))]) hx hb dX13_readFirst_18 rfl hl (by decide) rfl (fun ls hl => ?_)
      refine lv_iload_n hx hb dX13_readFirst_19 rfl (lv_at hl 0 rfl) ?_
      refine lv_iconst (v := I (-1)) hx hb dX13_readFirst_20 rfl ?_
      refine bi_icmp_eq (tgt := 37) hx hb r_x3 (by decide) dX13_readFirst_21 (by decide) (fun c5 => ?_) (fun c5 => ?_)
      ·
        replace hw := hw.1 c5
        refine lv_iconst (v := I 0) hx hb dX13_readFirst_37 rfl ?_
        exact (hP38 _ _ _).mp hw r_x3 (by decide) hN hF H locs ls hP hD hS (lv_sub hl [1, 0] rfl)
      ·
        replace hw := hw.2 c5
        refine lv_aload_n hx hb dX13_readFirst_24 rfl (lv_at hl 1 rfl) ?_
        refine gfX13_isVariable hx hb hts hK hP hown (hts _ tw_2018) dX13_readFirst_25 ?_
        refine lv_iload_n hx hb dX13_readFirst_28 rfl (lv_at hl 0 rfl) ?_
        obtain ⟨c6, hw⟩ := hw
        refine ldMX13_isVariable hx hb hK hP hN c6 dX13_readFirst_29 (fun x7 r_x7 e_x7 => ?_)
        replace hw := hw x7 r_x7 e_x7
        refine bi_if_ne (tgt := 37) hx hb r_x7 dX13_readFirst_30 (by decide) (fun c8 => ?_) (fun c8 => ?_)
        ·
          replace hw := hw.1 c8
          refine lv_iconst (v := I 0) hx hb dX13_readFirst_37 rfl ?_
          exact (hP38 _ _ _).mp hw r_x3 (by decide) hN hF H locs ls hP hD hS (lv_sub hl [1, 0] rfl)
        ·
          replace hw := hw.2 c8
          refine lv_iconst (v := I 1) hx hb dX13_readFirst_33 rfl ?_
          refine lv_goto (tgt := 38) hx hb dX13_readFirst_34 (by decide) ?_
          exact (hP38 _ _ _).mp hw r_x3 (by decide) hN hF H locs ls hP hD hS (lv_sub hl [1, 0] rfl)
    ·
      replace hw := hw.2 c1
      refine lv_aload_n hx hb dX13_readFirst_8 rfl (lv_at hl 0 rfl) ?_
      refine lv_iconst (v := I 4) hx hb dX13_readFirst_9 rfl ?_
      obtain ⟨Q9, hc, hw⟩ := hw
      refine wc_V (X := MX g q lb) (va_runV (As := [.int (I 4)]) (rest := []) ⟨hx, hb, hml, hown, hts⟩ (L_X13_failHere l g q lb hlb (by decide) hN hc H.size) (cwV 1 hts (TB_V tw_2585 tw_2587 ts_114 tw_15 co_X13_failHere) rfl rfl rfl (by decide +kernel) ⟨Nat.le_of_ble_eq_true rfl, Nat.le_of_ble_eq_true rfl⟩) (preV (q0 := 0) (ci := 13) rfl xT_bl hP hK hNb hD rfl rfl xT_at) rfl rfl hl.1 rfl (lv_room (Nat.le_of_ble_eq_true rfl)) dX13_readFirst_10 ⟨Nat.le_of_ble_eq_true rfl, Nat.le_of_ble_eq_true rfl⟩) hP hD hS hA (fun τ11 H locs hN hf hq hP hD hS => ?_)
      replace hw := hw τ11 hN hf hq
      have hF : f_r [4, 6, 20, 21] [12, 15, 16, 17] [] σ τ11 := f_t hF hf (by decide) (by decide) (by decide)
      have hB := hN
      exact xrv hx hb hr hlk hP hK hD hS ⟨_, hN, hF, rfl, hw⟩ (Nat.le_of_ble_eq_true rfl) (Nat.le_of_ble_eq_true rfl) dX13_readFirst_13
  ·
    intro u1 k0 τ hw
    refine (hP38 _ _ _).mpr ?_
    intro r_u1 r_k0 hN hF H locs ls hP hD hS hl
    have hB := hN
    refine lv_istore_n (lv' := [(2, .int (I k0)), (0, .ref (q 0)), (1, .int (I u1))]) hx hb dX13_readFirst_38 rfl hl (by decide) rfl (fun ls hl => ?_)
    refine lv_aload_n hx hb dX13_readFirst_39 rfl (lv_at hl 1 rfl) ?_
    refine gfX13_textCount hx hb hts hK hP hown (hts _ tw_2030) (x := τ.1 6) rfl dX13_readFirst_40 ?_
    refine lv_sipush (v := I 30000) hx hb dX13_readFirst_43 (by decide) ?_
    refine bi_icmp_eq (tgt := 71) hx hb (hB.1 6) (by decide) dX13_readFirst_46 (by decide) (fun c12 => ?_) (fun c12 => ?_)
    ·
      replace hw := hw.1 c12
      exact (hP71 _).mp hw hN hF H locs ls hP hD hS (lv_sub hl [1] rfl)
    ·
      replace hw := hw.2 c12
      refine lv_iload_n hx hb dX13_readFirst_49 rfl (lv_at hl 0 rfl) ?_
      refine bi_if_eq (tgt := 79) hx hb r_k0 dX13_readFirst_50 (by decide) (fun c13 => ?_) (fun c13 => ?_)
      ·
        replace hw := hw.1 c13
        exact (hP79 _ _ _).mp hw r_u1 r_k0 hN hF H locs ls hP hD hS (lv_sub hl [1, 2, 0] rfl)
      ·
        replace hw := hw.2 c13
        refine lv_aload_n hx hb dX13_readFirst_53 rfl (lv_at hl 1 rfl) ?_
        refine gfX13_begins hx hb hts hK hP hown (hts _ tw_2022) dX13_readFirst_54 ?_
        refine lv_iload_n hx hb dX13_readFirst_57 rfl (lv_at hl 2 rfl) ?_
        obtain ⟨c14, hw⟩ := hw
        refine ldMX13_begins hx hb hK hP hN c14 dX13_readFirst_58 (fun x15 r_x15 e_x15 => ?_)
        replace hw := hw x15 r_x15 e_x15
        refine bi_if_ne (tgt := 79) hx hb r_x15 dX13_readFirst_59 (by decide) (fun c16 => ?_) (fun c16 => ?_)
        ·
          replace hw := hw.1 c16
          exact (hP79 _ _ _).mp hw r_u1 r_k0 hN hF H locs ls hP hD hS (lv_sub hl [1, 2, 0] rfl)
        ·
          replace hw := hw.2 c16
          refine lv_aload_n hx hb dX13_readFirst_62 rfl (lv_at hl 1 rfl) ?_
          refine gfX13_beginnings hx hb hts hK hP hown (hts _ tw_2023) (x := τ.1 4) rfl dX13_readFirst_63 ?_
          refine lv_bipush (v := I 100) hx hb dX13_readFirst_66 (by decide) ?_
          refine bi_icmp_ne (tgt := 79) hx hb (hB.1 4) (by decide) dX13_readFirst_68 (by decide) (fun c17 => ?_) (fun c17 => ?_)
          ·
            replace hw := hw.1 c17
            exact (hP79 _ _ _).mp hw r_u1 r_k0 hN hF H locs ls hP hD hS (lv_sub hl [1, 2, 0] rfl)
          ·
            replace hw := hw.2 c17
            exact (hP71 _).mp hw hN hF H locs ls hP hD hS (lv_sub hl [1] rfl)
  ·
    intro τ hw
    refine (hP71 _).mpr ?_
    intro hN hF H locs ls hP hD hS hl
    have hB := hN
    refine lv_aload_n hx hb dX13_readFirst_71 rfl (lv_at hl 0 rfl) ?_
    refine lv_iconst (v := I 5) hx hb dX13_readFirst_72 rfl ?_
    obtain ⟨Q18, hc, hw⟩ := hw
    refine wc_V (X := MX g q lb) (va_runV (As := [.int (I 5)]) (rest := []) ⟨hx, hb, hml, hown, hts⟩ (L_X13_failHere l g q lb hlb (by decide) hN hc H.size) (cwV 1 hts (TB_V tw_2585 tw_2587 ts_114 tw_15 co_X13_failHere) rfl rfl rfl (by decide +kernel) ⟨Nat.le_of_ble_eq_true rfl, Nat.le_of_ble_eq_true rfl⟩) (preV (q0 := 0) (ci := 13) rfl xT_bl hP hK hNb hD rfl rfl xT_at) rfl rfl hl.1 rfl (lv_room (Nat.le_of_ble_eq_true rfl)) dX13_readFirst_73 ⟨Nat.le_of_ble_eq_true rfl, Nat.le_of_ble_eq_true rfl⟩) hP hD hS hA (fun τ20 H locs hN hf hq hP hD hS => ?_)
    replace hw := hw τ20 hN hf hq
    have hF : f_r [4, 6, 20, 21] [12, 15, 16, 17] [] σ τ20 := f_t hF hf (by decide) (by decide) (by decide)
    have hB := hN
    refine lv_goto (tgt := 160) hx hb dX13_readFirst_76 (by decide) ?_
    exact xrv hx hb hr hlk hP hK hD hS ⟨_, hN, hF, rfl, hw⟩ (Nat.le_of_ble_eq_true rfl) (Nat.le_of_ble_eq_true rfl) dX13_readFirst_160
  ·
    intro u1 u2 τ hw
    refine (hP79 _ _ _).mpr ?_
    intro r_u1 r_u2 hN hF H locs ls hP hD hS hl
    have hB := hN
    refine lv_iload_n hx hb dX13_readFirst_79 rfl (lv_at hl 1 rfl) ?_
    refine lv_iconst (v := I (-1)) hx hb dX13_readFirst_80 rfl ?_
    refine bi_icmp_eq (tgt := 102) hx hb r_u1 (by decide) dX13_readFirst_81 (by decide) (fun c21 => ?_) (fun c21 => ?_)
    ·
      replace hw := hw.1 c21
      exact (hP102 _).mp hw hN hF H locs ls hP hD hS (lv_sub hl [0] rfl)
    ·
      replace hw := hw.2 c21
      refine lv_aload_n hx hb dX13_readFirst_84 rfl (lv_at hl 0 rfl) ?_
      refine gfX13_isVariable hx hb hts hK hP hown (hts _ tw_2018) dX13_readFirst_85 ?_
      refine lv_iload_n hx hb dX13_readFirst_88 rfl (lv_at hl 1 rfl) ?_
      obtain ⟨c22, hw⟩ := hw
      refine ldMX13_isVariable hx hb hK hP hN c22 dX13_readFirst_89 (fun x23 r_x23 e_x23 => ?_)
      replace hw := hw x23 r_x23 e_x23
      refine bi_if_eq (tgt := 111) hx hb r_x23 dX13_readFirst_90 (by decide) (fun c24 => ?_) (fun c24 => ?_)
      ·
        replace hw := hw.1 c24
        exact (hP111 _ _ _).mp hw r_u1 r_u2 hN hF H locs ls hP hD hS (lv_sub hl [0, 1, 2] rfl)
      ·
        replace hw := hw.2 c24
        refine lv_aload_n hx hb dX13_readFirst_93 rfl (lv_at hl 0 rfl) ?_
        refine gfX13_isActive hx hb hts hK hP hown (hts _ tw_2019) dX13_readFirst_94 ?_
        refine lv_iload_n hx hb dX13_readFirst_97 rfl (lv_at hl 1 rfl) ?_
        refine ldMX13_isActive hx hb hK hP hN c22 dX13_readFirst_98 (fun x25 r_x25 e_x25 => ?_)
        replace hw := hw x25 r_x25 e_x25
        refine bi_if_ne (tgt := 111) hx hb r_x25 dX13_readFirst_99 (by decide) (fun c26 => ?_) (fun c26 => ?_)
        ·
          replace hw := hw.1 c26
          exact (hP111 _ _ _).mp hw r_u1 r_u2 hN hF H locs ls hP hD hS (lv_sub hl [0, 1, 2] rfl)
        ·
          replace hw := hw.2 c26
          exact (hP102 _).mp hw hN hF H locs ls hP hD hS (lv_sub hl [0] rfl)
  ·
    intro τ hw
    refine (hP102 _).mpr ?_
    intro hN hF H locs ls hP hD hS hl
    have hB := hN
    refine lv_aload_n hx hb dX13_readFirst_102 rfl (lv_at hl 0 rfl) ?_
    refine lv_bipush (v := I 9) hx hb dX13_readFirst_103 (by decide) ?_
    obtain ⟨Q27, hc, hw⟩ := hw
    refine wc_V (X := MX g q lb) (va_runV (As := [.int (I 9)]) (rest := []) ⟨hx, hb, hml, hown, hts⟩ (L_X13_failHere l g q lb hlb (by decide) hN hc H.size) (cwV 1 hts (TB_V tw_2585 tw_2587 ts_114 tw_15 co_X13_failHere) rfl rfl rfl (by decide +kernel) ⟨Nat.le_of_ble_eq_true rfl, Nat.le_of_ble_eq_true rfl⟩) (preV (q0 := 0) (ci := 13) rfl xT_bl hP hK hNb hD rfl rfl xT_at) rfl rfl hl.1 rfl (lv_room (Nat.le_of_ble_eq_true rfl)) dX13_readFirst_105 ⟨Nat.le_of_ble_eq_true rfl, Nat.le_of_ble_eq_true rfl⟩) hP hD hS hA (fun τ29 H locs hN hf hq hP hD hS => ?_)
    replace hw := hw τ29 hN hf hq
    have hF : f_r [4, 6, 20, 21] [12, 15, 16, 17] [] σ τ29 := f_t hF hf (by decide) (by decide) (by decide)
    have hB := hN
    refine lv_goto (tgt := 160) hx hb dX13_readFirst_108 (by decide) ?_
    exact xrv hx hb hr hlk hP hK hD hS ⟨_, hN, hF, rfl, hw⟩ (Nat.le_of_ble_eq_true rfl) (Nat.le_of_ble_eq_true rfl) dX13_readFirst_160
  ·
    intro u1 u2 τ hw
    refine (hP111 _ _ _).mpr ?_
    intro r_u1 r_u2 hN hF H locs ls hP hD hS hl
    have hB := hN
    refine lv_iload_n hx hb dX13_readFirst_111 rfl (lv_at hl 2 rfl) ?_
    refine bi_if_ne (tgt := 124) hx hb r_u2 dX13_readFirst_112 (by decide) (fun c30 => ?_) (fun c30 => ?_)
    ·
      replace hw := hw.1 c30
      refine lv_aload_n hx hb dX13_readFirst_124 rfl (lv_at hl 0 rfl) ?_
      refine lv_dup hx hb dX13_readFirst_125 rfl ?_
      refine gfX13_beginnings hx hb hts hK hP hown (hts _ tw_2023) (x := τ.1 4) rfl dX13_readFirst_126 ?_
      refine lv_aload_n hx hb dX13_readFirst_129 rfl (lv_at hl 0 rfl) ?_
      refine gfX13_begins hx hb hts hK hP hown (hts _ tw_2022) dX13_readFirst_130 ?_
      refine lv_iload_n hx hb dX13_readFirst_133 rfl (lv_at hl 1 rfl) ?_
      obtain ⟨c31, hw⟩ := hw
      refine ldMX13_begins hx hb hK hP hN c31 dX13_readFirst_134 (fun x32 r_x32 e_x32 => ?_)
      replace hw := hw x32 r_x32 e_x32
      refine bi_if_eq (tgt := 142) hx hb r_x32 dX13_readFirst_135 (by decide) (fun c33 => ?_) (fun c33 => ?_)
      ·
        replace hw := hw.1 c33
        refine lv_iconst (v := I 1) hx hb dX13_readFirst_142 rfl ?_
        exact (hP143 _ _ _ _).mp hw r_u1 (hB.1 4) (by decide) hN hF H locs ls hP hD hS (lv_sub hl [0, 1] rfl)
      ·
        replace hw := hw.2 c33
        refine lv_iconst (v := I 0) hx hb dX13_readFirst_138 rfl ?_
        refine lv_goto (tgt := 143) hx hb dX13_readFirst_139 (by decide) ?_
        exact (hP143 _ _ _ _).mp hw r_u1 (hB.1 4) (by decide) hN hF H locs ls hP hD hS (lv_sub hl [0, 1] rfl)
    ·
      replace hw := hw.2 c30
      refine lv_aload_n hx hb dX13_readFirst_115 rfl (lv_at hl 0 rfl) ?_
      refine lv_bipush (v := I 10) hx hb dX13_readFirst_116 (by decide) ?_
      obtain ⟨Q34, hc, hw⟩ := hw
      refine wc_V (X := MX g q lb) (va_runV (As := [.int (I 10)]) (rest := []) ⟨hx, hb, hml, hown, hts⟩ (L_X13_failHere l g q lb hlb (by decide) hN hc H.size) (cwV 1 hts (TB_V tw_2585 tw_2587 ts_114 tw_15 co_X13_failHere) rfl rfl rfl (by decide +kernel) ⟨Nat.le_of_ble_eq_true rfl, Nat.le_of_ble_eq_true rfl⟩) (preV (q0 := 0) (ci := 13) rfl xT_bl hP hK hNb hD rfl rfl xT_at) rfl rfl hl.1 rfl (lv_room (Nat.le_of_ble_eq_true rfl)) dX13_readFirst_118 ⟨Nat.le_of_ble_eq_true rfl, Nat.le_of_ble_eq_true rfl⟩) hP hD hS hA (fun τ36 H locs hN hf hq hP hD hS => ?_)
      replace hw := hw τ36 hN hf hq
      have hF : f_r [4, 6, 20, 21] [12, 15, 16, 17] [] σ τ36 := f_t hF hf (by decide) (by decide) (by decide)
      have hB := hN
      refine lv_goto (tgt := 160) hx hb dX13_readFirst_121 (by decide) ?_
      exact xrv hx hb hr hlk hP hK hD hS ⟨_, hN, hF, rfl, hw⟩ (Nat.le_of_ble_eq_true rfl) (Nat.le_of_ble_eq_true rfl) dX13_readFirst_160
  ·
    intro u1 k1 k2 τ hw
    refine (hP143 _ _ _ _).mpr ?_
    intro r_u1 r_k1 r_k2 hN hF H locs ls hP hD hS hl
    have hB := hN
    refine bi_iadd hx hb dX13_readFirst_143 ?_
    obtain ⟨c37, hw⟩ := hw
    refine pfX13_beginnings hx hb hts hK hP hD hS hown (hts _ tw_2023) dX13_readFirst_144 (fun H locs hP hD hS => ?_)
    have hN : n_m (s_v τ 4 (k1 + k2)) := n_v (i := 4) hN (c37 : rg (k1 + k2))
    have hF : f_r [4, 6, 20, 21] [12, 15, 16, 17] [] σ (s_v τ 4 (k1 + k2)) := f_v hF (by decide)
    refine lv_aload_n hx hb dX13_readFirst_147 rfl (lv_at hl 0 rfl) ?_
    refine gfX13_begins hx hb hts hK hP hown (hts _ tw_2022) dX13_readFirst_148 ?_
    refine lv_iload_n hx hb dX13_readFirst_151 rfl (lv_at hl 1 rfl) ?_
    refine lv_iconst (v := I 1) hx hb dX13_readFirst_152 rfl ?_
    obtain ⟨c38, hw⟩ := hw
    refine sdMX13_begins hx hb hK hP hD hS c38 (by decide) dX13_readFirst_153 (fun H locs hP hD hS => ?_)
    have hN : n_m (s_a (s_v τ 4 (k1 + k2)) 12 u1 1) := n_a (k := 12) (j := u1) hN ((by decide) : rg 1)
    have hF : f_r [4, 6, 20, 21] [12, 15, 16, 17] [] σ (s_a (s_v τ 4 (k1 + k2)) 12 u1 1) := f_a hF (by decide)
    refine lv_aload_n hx hb dX13_readFirst_154 rfl (lv_at hl 0 rfl) ?_
    refine lv_iload_n hx hb dX13_readFirst_155 rfl (lv_at hl 1 rfl) ?_
    refine lv_iconst (v := I (-1)) hx hb dX13_readFirst_156 rfl ?_
    obtain ⟨Q39, hc, hw⟩ := hw
    refine wc_V (X := MX g q lb) (va_runV (As := [.int (I u1), .int (I (-1))]) (rest := []) ⟨hx, hb, hml, hown, hts⟩ (L_X13_addSymbol l g q lb hlb r_u1 (by decide) hN hc H.size) (cwV 2 hts (TB_V tw_2633 tw_2635 ts_123 tw_15 co_X13_addSymbol) rfl rfl rfl (by decide +kernel) ⟨Nat.le_of_ble_eq_true rfl, Nat.le_of_ble_eq_true rfl⟩) (preV (q0 := 0) (ci := 13) rfl xT_bl hP hK hNb hD rfl rfl xT_at) rfl rfl hl.1 rfl (lv_room (Nat.le_of_ble_eq_true rfl)) dX13_readFirst_157 ⟨Nat.le_of_ble_eq_true rfl, Nat.le_of_ble_eq_true rfl⟩) hP hD hS hA (fun τ41 H locs hN hf hq hP hD hS => ?_)
    replace hw := hw τ41 hN hf hq
    have hF : f_r [4, 6, 20, 21] [12, 15, 16, 17] [] σ τ41 := f_t hF hf (by decide) (by decide) (by decide)
    have hB := hN
    exact xrv hx hb hr hlk hP hK hD hS ⟨_, hN, hF, rfl, hw⟩ (Nat.le_of_ble_eq_true rfl) (Nat.le_of_ble_eq_true rfl) dX13_readFirst_160
def W_X13_finish (n1 : Int) (σ : S0) (Q : S0 → Prop) : Prop :=
  (0 ≤ σ.1 22 ∧ σ.1 22 < 1501) ∧ (rg (σ.1 5 + 1) ∧ Q (s_v (s_a σ 13 (σ.1 22) n1) 5 (σ.1 5 + 1)))
set_option maxRecDepth 100000 in
set_option maxHeartbeats 4000000 in
theorem L_X13_finish (l : Launch) (g : gG) (q : Nat → Nat) (lb : Nat) (hlb : lb < 2 ^ 31) {n1 : Int} {σ : S0} {Q : S0 → Prop} (r_n1 : rg n1) (hN : n_m σ) (hw : W_X13_finish n1 σ Q) (sz : Nat) : MetV l yX13_finish cX13_finish 2 { frames := 0, cells := 0, slots := 0, locals := 0 } g [.ref (q 0), .int (I n1)] (MX g q lb σ) sz xT (p_V (MX g q lb) [5] [13] [] σ Q) 0 0 := by
  refine mkMet (Qc := fun A => QV g A (p_V (MX g q lb) [5] [13] [] σ Q)) (by decide) (Nat.le_of_ble_eq_true rfl) ?_
  intro p e s m below meth c A H ls hx hb hr hml hown hts hlk hnm hsz hP hK hNb hD hA hAe hS hX hl
  have hl : lv_has ls 2 [(0, .ref (q 0)), (1, .int (I n1))] := hl
  have hB := hN
  have hF : f_r [5] [13] [] σ σ := f_0
  obtain ⟨locs, hlocs⟩ : ∃ z : List Loc, z = [] := ⟨_, rfl⟩
  rw [← hlocs] at hS ⊢
  refine lv_aload_n hx hb dX13_finish_0 rfl (lv_at hl 0 rfl) ?_
  refine gfX13_kindOf hx hb hts hK hP hown (hts _ tw_2025) dX13_finish_1 ?_
  refine lv_aload_n hx hb dX13_finish_4 rfl (lv_at hl 0 rfl) ?_
  refine gfX13_now hx hb hts hK hP hown (hts _ tw_2068) (x := σ.1 22) rfl dX13_finish_5 ?_
  refine lv_iload_n hx hb dX13_finish_8 rfl (lv_at hl 1 rfl) ?_
  obtain ⟨c1, hw⟩ := hw
  refine sdMX13_kindOf hx hb hK hP hD hS c1 dX13_finish_9 (fun H locs hP hD hS => ?_)
  have hN : n_m (s_a σ 13 (σ.1 22) n1) := n_a (k := 13) (j := σ.1 22) hN (r_n1 : rg n1)
  have hF : f_r [5] [13] [] σ (s_a σ 13 (σ.1 22) n1) := f_a hF (by decide)
  refine lv_aload_n hx hb dX13_finish_10 rfl (lv_at hl 0 rfl) ?_
  refine lv_dup hx hb dX13_finish_11 rfl ?_
  refine gfX13_statements hx hb hts hK hP hown (hts _ tw_2024) (x := σ.1 5) rfl dX13_finish_12 ?_
  refine lv_iconst (v := I 1) hx hb dX13_finish_15 rfl ?_
  refine bi_iadd hx hb dX13_finish_16 ?_
  obtain ⟨c2, hw⟩ := hw
  refine pfX13_statements hx hb hts hK hP hD hS hown (hts _ tw_2024) dX13_finish_17 (fun H locs hP hD hS => ?_)
  have hN : n_m (s_v (s_a σ 13 (σ.1 22) n1) 5 (σ.1 5 + 1)) := n_v (i := 5) hN (c2 : rg (σ.1 5 + 1))
  have hF : f_r [5] [13] [] σ (s_v (s_a σ 13 (σ.1 22) n1) 5 (σ.1 5 + 1)) := f_v hF (by decide)
  exact xrv hx hb hr hlk hP hK hD hS ⟨_, hN, hF, rfl, hw⟩ (Nat.le_of_ble_eq_true rfl) (Nat.le_of_ble_eq_true rfl) dX13_finish_20
def W_X13_activate (σ : S0) (Q : S0 → Prop) : Prop :=
  (0 ≤ σ.1 13 ∧ σ.1 13 < 1501) ∧ (rg (σ.1 13 + 1) ∧ Q (s_v (s_a σ 31 (σ.1 13) (σ.1 22)) 13 (σ.1 13 + 1)))
set_option maxRecDepth 100000 in
set_option maxHeartbeats 4000000 in
theorem L_X13_activate (l : Launch) (g : gG) (q : Nat → Nat) (lb : Nat) (hlb : lb < 2 ^ 31) {σ : S0} {Q : S0 → Prop} (hN : n_m σ) (hw : W_X13_activate σ Q) (sz : Nat) : MetV l yX13_activate cX13_activate 1 { frames := 0, cells := 0, slots := 0, locals := 0 } g [.ref (q 0)] (MX g q lb σ) sz xT (p_V (MX g q lb) [13] [31] [] σ Q) 0 0 := by
  refine mkMet (Qc := fun A => QV g A (p_V (MX g q lb) [13] [31] [] σ Q)) (by decide) (Nat.le_of_ble_eq_true rfl) ?_
  intro p e s m below meth c A H ls hx hb hr hml hown hts hlk hnm hsz hP hK hNb hD hA hAe hS hX hl
  have hl : lv_has ls 1 [(0, .ref (q 0))] := hl
  have hB := hN
  have hF : f_r [13] [31] [] σ σ := f_0
  obtain ⟨locs, hlocs⟩ : ∃ z : List Loc, z = [] := ⟨_, rfl⟩
  rw [← hlocs] at hS ⊢
  refine lv_aload_n hx hb dX13_activate_0 rfl (lv_at hl 0 rfl) ?_
  refine gfX13_activeHyps hx hb hts hK hP hown (hts _ tw_2051) dX13_activate_1 ?_
  refine lv_aload_n hx hb dX13_activate_4 rfl (lv_at hl 0 rfl) ?_
  refine gfX13_activeHypCount hx hb hts hK hP hown (hts _ tw_2052) (x := σ.1 13) rfl dX13_activate_5 ?_
  refine lv_aload_n hx hb dX13_activate_8 rfl (lv_at hl 0 rfl) ?_
  refine gfX13_now hx hb hts hK hP hown (hts _ tw_2068) (x := σ.1 22) rfl dX13_activate_9 ?_
  obtain ⟨c1, hw⟩ := hw
  refine sdMX13_activeHyps hx hb hK hP hD hS c1 dX13_activate_12 (fun H locs hP hD hS => ?_)
  have hN : n_m (s_a σ 31 (σ.1 13) (σ.1 22)) := n_a (k := 31) (j := σ.1 13) hN ((hB.1 22) : rg (σ.1 22))
  have hF : f_r [13] [31] [] σ (s_a σ 31 (σ.1 13) (σ.1 22)) := f_a hF (by decide)
  refine lv_aload_n hx hb dX13_activate_13 rfl (lv_at hl 0 rfl) ?_
  refine lv_dup hx hb dX13_activate_14 rfl ?_
  refine gfX13_activeHypCount hx hb hts hK hP hown (hts _ tw_2052) (x := σ.1 13) rfl dX13_activate_15 ?_
  refine lv_iconst (v := I 1) hx hb dX13_activate_18 rfl ?_
  refine bi_iadd hx hb dX13_activate_19 ?_
  obtain ⟨c2, hw⟩ := hw
  refine pfX13_activeHypCount hx hb hts hK hP hD hS hown (hts _ tw_2052) dX13_activate_20 (fun H locs hP hD hS => ?_)
  have hN : n_m (s_v (s_a σ 31 (σ.1 13) (σ.1 22)) 13 (σ.1 13 + 1)) := n_v (i := 13) hN (c2 : rg (σ.1 13 + 1))
  have hF : f_r [13] [31] [] σ (s_v (s_a σ 31 (σ.1 13) (σ.1 22)) 13 (σ.1 13 + 1)) := f_v hF (by decide)
  exact xrv hx hb hr hlk hP hK hD hS ⟨_, hN, hF, rfl, hw⟩ (Nat.le_of_ble_eq_true rfl) (Nat.le_of_ble_eq_true rfl) dX13_activate_23
def W_X13_readFloating (σ : S0) (Q : S0 → Prop) : Prop :=
  ∀ (P15 : S0 → Prop) (P47 : S0 → Prop) (P135 : Int → Int → S0 → Prop) (P158 : Int → Int → S0 → Prop) (P167 : Int → Int → S0 → Prop) (P211 : Int → Int → S0 → Prop) (P253 : Int → Int → S0 → Prop),
  (∀ (τ : S0), ((τ.1 20 ≤ 0 → ∃ (Q9 : S0 → Prop), W_X13_next τ Q9 ∧ ∀ (τ11 : S0), n_m τ11 → f_r [16, 17, 18, 19, 20, 21] [] [] τ τ11 → Q9 τ11 → ((¬ τ11.1 20 = 0 → P47 τ11) ∧ (τ11.1 20 = 0 → (τ11.1 19 = 1 → P47 τ11) ∧ (¬ τ11.1 19 = 1 → ∃ (Q14 : S0 → Prop), W_X13_failHere 4 τ11 Q14 ∧ ∀ (τ16 : S0), n_m τ16 → f_r [20, 21] [] [] τ11 τ16 → Q14 τ16 → (P47 τ16))))) ∧ (0 < τ.1 20 → Q τ)) → P15 τ) →
  (∀ (τ : S0), ((τ.1 20 ≤ 0 → ∃ (Q18 : Int → Prop), W_X13_symbolHere τ Q18 ∧ ∀ (x19 : Int), rg x19 → Q18 x19 → ((0 ≤ τ.1 22 ∧ τ.1 22 < 1501) ∧ (∀ (x22 : Int), rg x22 → x22 = τ.2.1 14 (τ.1 22) → ((0 ≤ x22 ∧ x22 < 30400) ∧ (∀ (x24 : Int), rg x24 → x24 = τ.2.1 16 x22 → ((¬ τ.1 6 = 30000 → (x19 = (-1) → P135 x19 x24 τ) ∧ (¬ x19 = (-1) → (0 ≤ x19 ∧ x19 < 1001) ∧ (∀ (x28 : Int), rg x28 → x28 = τ.2.1 8 x19 → ((x28 = 0 → P135 x19 x24 τ) ∧ (¬ x28 = 0 → ∀ (x30 : Int), rg x30 → x30 = τ.2.1 9 x19 → ((x30 = 0 → P135 x19 x24 τ) ∧ (¬ x30 = 0 → ∀ (x32 : Int), rg x32 → x32 = τ.2.1 11 x19 → ((x32 = (-1) → P135 x19 x24 τ) ∧ (¬ x32 = (-1) → ∃ (Q34 : S0 → Prop), W_X13_failHere 7 τ Q34 ∧ ∀ (τ36 : S0), n_m τ36 → f_r [20, 21] [] [] τ τ36 → Q34 τ36 → (P211 x19 x24 τ36)))))))))) ∧ (τ.1 6 = 30000 → ∃ (Q37 : S0 → Prop), W_X13_failHere 5 τ Q37 ∧ ∀ (τ39 : S0), n_m τ39 → f_r [20, 21] [] [] τ τ39 → Q37 τ39 → (P211 x19 x24 τ39)))))))) ∧ (0 < τ.1 20 → Q τ)) → P47 τ) →
  (∀ (u1 : Int) (u2 : Int) (τ : S0), ((u1 = (-1) → P158 u1 u2 τ) ∧ (¬ u1 = (-1) → (0 ≤ u1 ∧ u1 < 1001) ∧ (∀ (x42 : Int), rg x42 → x42 = τ.2.1 8 u1 → ((x42 = 0 → P167 u1 u2 τ) ∧ (¬ x42 = 0 → ∀ (x44 : Int), rg x44 → x44 = τ.2.1 9 u1 → ((¬ x44 = 0 → P167 u1 u2 τ) ∧ (x44 = 0 → P158 u1 u2 τ))))))) → P135 u1 u2 τ) →
  (∀ (u1 : Int) (u2 : Int) (τ : S0), (∃ (Q58 : S0 → Prop), W_X13_failHere 9 τ Q58 ∧ ∀ (τ60 : S0), n_m τ60 → f_r [20, 21] [] [] τ τ60 → Q58 τ60 → (P211 u1 u2 τ60)) → P158 u1 u2 τ) →
  (∀ (u1 : Int) (u2 : Int) (τ : S0), ((0 ≤ u1 ∧ u1 < 1001) ∧ (∀ (x62 : Int), rg x62 → x62 = τ.2.1 8 u1 → ((¬ x62 = 0 → ∀ (x64 : Int), rg x64 → x64 = τ.2.1 10 u1 → ((x64 = (-1) → P211 u1 u2 τ) ∧ (¬ x64 = (-1) → ∀ (x66 : Int), rg x66 → x66 = τ.2.1 10 u1 → ((x66 = u2 → P211 u1 u2 τ) ∧ (¬ x66 = u2 → ∃ (Q68 : S0 → Prop), W_X13_failHere 12 τ Q68 ∧ ∀ (τ70 : S0), n_m τ70 → f_r [20, 21] [] [] τ τ70 → Q68 τ70 → (P211 u1 u2 τ70)))))) ∧ (x62 = 0 → ∃ (Q71 : S0 → Prop), W_X13_failHere 10 τ Q71 ∧ ∀ (τ73 : S0), n_m τ73 → f_r [20, 21] [] [] τ τ73 → Q71 τ73 → (P211 u1 u2 τ73))))) → P167 u1 u2 τ) →
  (∀ (u1 : Int) (u2 : Int) (τ : S0), ((τ.1 20 ≤ 0 → ∃ (Q47 : S0 → Prop), W_X13_addSymbol u1 (τ.1 22) τ Q47 ∧ ∀ (τ49 : S0), n_m τ49 → f_r [6] [15, 16, 17] [] τ τ49 → Q47 τ49 → (∃ (Q50 : S0 → Prop), W_X13_next τ49 Q50 ∧ ∀ (τ52 : S0), n_m τ52 → f_r [16, 17, 18, 19, 20, 21] [] [] τ49 τ52 → Q50 τ52 → ((¬ τ52.1 20 = 0 → P253 u1 u2 τ52) ∧ (τ52.1 20 = 0 → (τ52.1 19 = 46 → P253 u1 u2 τ52) ∧ (¬ τ52.1 19 = 46 → ∃ (Q55 : S0 → Prop), W_X13_failHere 4 τ52 Q55 ∧ ∀ (τ57 : S0), n_m τ57 → f_r [20, 21] [] [] τ52 τ57 → Q55 τ57 → (P253 u1 u2 τ57)))))) ∧ (0 < τ.1 20 → Q τ)) → P211 u1 u2 τ) →
  (∀ (u1 : Int) (u2 : Int) (τ : S0), ((¬ τ.1 20 = 0 → Q τ) ∧ (τ.1 20 = 0 → (0 ≤ u1 ∧ u1 < 1001) ∧ (∃ (Q76 : S0 → Prop), W_X13_finish 0 (s_a (s_a τ 10 u1 u2) 11 u1 (τ.1 22)) Q76 ∧ ∀ (τ78 : S0), n_m τ78 → f_r [5] [13] [] (s_a (s_a τ 10 u1 u2) 11 u1 (τ.1 22)) τ78 → Q76 τ78 → (∃ (Q79 : S0 → Prop), W_X13_activate τ78 Q79 ∧ ∀ (τ81 : S0), n_m τ81 → f_r [13] [31] [] τ78 τ81 → Q79 τ81 → (Q τ81))))) → P253 u1 u2 τ) →
  ∃ (Q1 : S0 → Prop), W_X13_next σ Q1 ∧ ∀ (τ3 : S0), n_m τ3 → f_r [16, 17, 18, 19, 20, 21] [] [] σ τ3 → Q1 τ3 → ((¬ τ3.1 20 = 0 → P15 τ3) ∧ (τ3.1 20 = 0 → ∃ (Q5 : S0 → Prop), W_X13_readFirst τ3 Q5 ∧ ∀ (τ7 : S0), n_m τ7 → f_r [4, 6, 20, 21] [12, 15, 16, 17] [] τ3 τ7 → Q5 τ7 → (P15 τ7)))
set_option maxRecDepth 100000 in
set_option maxHeartbeats 4000000 in
theorem L_X13_readFloating (l : Launch) (g : gG) (q : Nat → Nat) (lb : Nat) (hlb : lb < 2 ^ 31) {σ : S0} {Q : S0 → Prop} (hN : n_m σ) (hw : W_X13_readFloating σ Q) (sz : Nat) : MetV l yX13_readFloating cX13_readFloating 3 { frames := 4, cells := 0, slots := 0, locals := 93 } g [.ref (q 0)] (MX g q lb σ) sz xT (p_V (MX g q lb) [4, 5, 6, 13, 16, 17, 18, 19, 20, 21] [10, 11, 12, 13, 15, 16, 17, 31] [] σ Q) 0 0 := by
  refine mkMet (Qc := fun A => QV g A (p_V (MX g q lb) [4, 5, 6, 13, 16, 17, 18, 19, 20, 21] [10, 11, 12, 13, 15, 16, 17, 31] [] σ Q)) (by decide) (Nat.le_of_ble_eq_true rfl) ?_
  intro p e s m below meth c A H ls hx hb hr hml hown hts hlk hnm hsz hP hK hNb hD hA hAe hS hX hl
  have hl : lv_has ls 3 [(0, .ref (q 0))] := hl
  have hB := hN
  have hF : f_r [4, 5, 6, 13, 16, 17, 18, 19, 20, 21] [10, 11, 12, 13, 15, 16, 17, 31] [] σ σ := f_0
  obtain ⟨locs, hlocs⟩ : ∃ z : List Loc, z = [] := ⟨_, rfl⟩
  rw [← hlocs] at hS ⊢
  obtain ⟨P15, hP15⟩ : ∃ P : S0 → Prop, ∀ (τ : S0), (P τ ↔ (n_m τ → f_r [4, 5, 6, 13, 16, 17, 18, 19, 20, 21] [10, 11, 12, 13, 15, 16, 17, 31] [] σ τ → ∀ (H : Heap) (locs : List Loc) (ls : Array Slot), KP g (MX g q lb τ) H → va_D A (MX g q lb τ) → va_S A s.heap H locs → lv_has ls 3 [(0, .ref (q 0))] → W p l e ({ frames := 4, cells := 0, slots := 0, locals := 93 }) s m [.ref (q 0)].toArray below meth c H locs 0 0 (MQ below (QV g A (p_V (MX g q lb) [4, 5, 6, 13, 16, 17, 18, 19, 20, 21] [10, 11, 12, 13, 15, 16, 17, 31] [] σ Q)) [.ref (q 0)].toArray s 0 0 A) (F0 m 15 ls []))) := ⟨_, fun _ => Iff.rfl⟩
  obtain ⟨P47, hP47⟩ : ∃ P : S0 → Prop, ∀ (τ : S0), (P τ ↔ (n_m τ → f_r [4, 5, 6, 13, 16, 17, 18, 19, 20, 21] [10, 11, 12, 13, 15, 16, 17, 31] [] σ τ → ∀ (H : Heap) (locs : List Loc) (ls : Array Slot), KP g (MX g q lb τ) H → va_D A (MX g q lb τ) → va_S A s.heap H locs → lv_has ls 3 [(0, .ref (q 0))] → W p l e ({ frames := 4, cells := 0, slots := 0, locals := 93 }) s m [.ref (q 0)].toArray below meth c H locs 0 0 (MQ below (QV g A (p_V (MX g q lb) [4, 5, 6, 13, 16, 17, 18, 19, 20, 21] [10, 11, 12, 13, 15, 16, 17, 31] [] σ Q)) [.ref (q 0)].toArray s 0 0 A) (F0 m 47 ls []))) := ⟨_, fun _ => Iff.rfl⟩
  obtain ⟨P135, hP135⟩ : ∃ P : Int → Int → S0 → Prop, ∀ (u1 : Int) (u2 : Int) (τ : S0), (P u1 u2 τ ↔ (rg u1 → rg u2 → n_m τ → f_r [4, 5, 6, 13, 16, 17, 18, 19, 20, 21] [10, 11, 12, 13, 15, 16, 17, 31] [] σ τ → ∀ (H : Heap) (locs : List Loc) (ls : Array Slot), KP g (MX g q lb τ) H → va_D A (MX g q lb τ) → va_S A s.heap H locs → lv_has ls 3 [(0, .ref (q 0)), (1, .int (I u1)), (2, .int (I u2))] → W p l e ({ frames := 4, cells := 0, slots := 0, locals := 93 }) s m [.ref (q 0)].toArray below meth c H locs 0 0 (MQ below (QV g A (p_V (MX g q lb) [4, 5, 6, 13, 16, 17, 18, 19, 20, 21] [10, 11, 12, 13, 15, 16, 17, 31] [] σ Q)) [.ref (q 0)].toArray s 0 0 A) (F0 m 135 ls []))) := ⟨_, fun _ _ _ => Iff.rfl⟩
  obtain ⟨P158, hP158⟩ : ∃ P : Int → Int → S0 → Prop, ∀ (u1 : Int) (u2 : Int) (τ : S0), (P u1 u2 τ ↔ (rg u1 → rg u2 → n_m τ → f_r [4, 5, 6, 13, 16, 17, 18, 19, 20, 21] [10, 11, 12, 13, 15, 16, 17, 31] [] σ τ → ∀ (H : Heap) (locs : List Loc) (ls : Array Slot), KP g (MX g q lb τ) H → va_D A (MX g q lb τ) → va_S A s.heap H locs → lv_has ls 3 [(0, .ref (q 0)), (1, .int (I u1)), (2, .int (I u2))] → W p l e ({ frames := 4, cells := 0, slots := 0, locals := 93 }) s m [.ref (q 0)].toArray below meth c H locs 0 0 (MQ below (QV g A (p_V (MX g q lb) [4, 5, 6, 13, 16, 17, 18, 19, 20, 21] [10, 11, 12, 13, 15, 16, 17, 31] [] σ Q)) [.ref (q 0)].toArray s 0 0 A) (F0 m 158 ls []))) := ⟨_, fun _ _ _ => Iff.rfl⟩
  obtain ⟨P167, hP167⟩ : ∃ P : Int → Int → S0 → Prop, ∀ (u1 : Int) (u2 : Int) (τ : S0), (P u1 u2 τ ↔ (rg u1 → rg u2 → n_m τ → f_r [4, 5, 6, 13, 16, 17, 18, 19, 20, 21] [10, 11, 12, 13, 15, 16, 17, 31] [] σ τ → ∀ (H : Heap) (locs : List Loc) (ls : Array Slot), KP g (MX g q lb τ) H → va_D A (MX g q lb τ) → va_S A s.heap H locs → lv_has ls 3 [(0, .ref (q 0)), (1, .int (I u1)), (2, .int (I u2))] → W p l e ({ frames := 4, cells := 0, slots := 0, locals := 93 }) s m [.ref (q 0)].toArray below meth c H locs 0 0 (MQ below (QV g A (p_V (MX g q lb) [4, 5, 6, 13, 16, 17, 18, 19, 20, 21] [10, 11, 12, 13, 15, 16, 17, 31] [] σ Q)) [.ref (q 0)].toArray s 0 0 A) (F0 m 167 ls []))) := ⟨_, fun _ _ _ => Iff.rfl⟩
  obtain ⟨P211, hP211⟩ : ∃ P : Int → Int → S0 → Prop, ∀ (u1 : Int) (u2 : Int) (τ : S0), (P u1 u2 τ ↔ (rg u1 → rg u2 → n_m τ → f_r [4, 5, 6, 13, 16, 17, 18, 19, 20, 21] [10, 11, 12, 13, 15, 16, 17, 31] [] σ τ → ∀ (H : Heap) (locs : List Loc) (ls : Array Slot), KP g (MX g q lb τ) H → va_D A (MX g q lb τ) → va_S A s.heap H locs → lv_has ls 3 [(0, .ref (q 0)), (1, .int (I u1)), (2, .int (I u2))] → W p l e ({ frames := 4, cells := 0, slots := 0, locals := 93 }) s m [.ref (q 0)].toArray below meth c H locs 0 0 (MQ below (QV g A (p_V (MX g q lb) [4, 5, 6, 13, 16, 17, 18, 19, 20, 21] [10, 11, 12, 13, 15, 16, 17, 31] [] σ Q)) [.ref (q 0)].toArray s 0 0 A) (F0 m 211 ls []))) := ⟨_, fun _ _ _ => Iff.rfl⟩
  obtain ⟨P253, hP253⟩ : ∃ P : Int → Int → S0 → Prop, ∀ (u1 : Int) (u2 : Int) (τ : S0), (P u1 u2 τ ↔ (rg u1 → rg u2 → n_m τ → f_r [4, 5, 6, 13, 16, 17, 18, 19, 20, 21] [10, 11, 12, 13, 15, 16, 17, 31] [] σ τ → ∀ (H : Heap) (locs : List Loc) (ls : Array Slot), KP g (MX g q lb τ) H → va_D A (MX g q lb τ) → va_S A s.heap H locs → lv_has ls 3 [(0, .ref (q 0)), (1, .int (I u1)), (2, .int (I u2))] → W p l e ({ frames := 4, cells := 0, slots := 0, locals := 93 }) s m [.ref (q 0)].toArray below meth c H locs 0 0 (MQ below (QV g A (p_V (MX g q lb) [4, 5, 6, 13, 16, 17, 18, 19, 20, 21] [10, 11, 12, 13, 15, 16, 17, 31] [] σ Q)) [.ref (q 0)].toArray s 0 0 A) (F0 m 253 ls []))) := ⟨_, fun _ _ _ => Iff.rfl⟩
  refine (fun hw => ?_) (hw P15 P47 P135 P158 P167 P211 P253 ?_ ?_ ?_ ?_ ?_ ?_ ?_)
  ·
    refine lv_aload_n hx hb dX13_readFloating_0 rfl (lv_at hl 0 rfl) ?_
    obtain ⟨Q1, hc, hw⟩ := hw
    refine wc_V (X := MX g q lb) (va_runV (As := []) (rest := []) ⟨hx, hb, hml, hown, hts⟩ (L_X13_next l g q lb hlb  hN hc H.size) (cwV 0 hts (TB_V tw_2536 tw_2538 ts_104 tw_15 co_X13_next) rfl rfl rfl (by decide +kernel) ⟨Nat.le_of_ble_eq_true rfl, Nat.le_of_ble_eq_true rfl⟩) (preV (q0 := 0) (ci := 13) rfl xT_bl hP hK hNb hD rfl rfl xT_at) rfl rfl hl.1 rfl (lv_room (Nat.le_of_ble_eq_true rfl)) dX13_readFloating_1 ⟨Nat.le_of_ble_eq_true rfl, Nat.le_of_ble_eq_true rfl⟩) hP hD hS hA (fun τ3 H locs hN hf hq hP hD hS => ?_)
    replace hw := hw τ3 hN hf hq
    have hF : f_r [4, 5, 6, 13, 16, 17, 18, 19, 20, 21] [10, 11, 12, 13, 15, 16, 17, 31] [] σ τ3 := f_t hF hf (by decide) (by decide) (by decide)
    have hB := hN
    refine lv_aload_n hx hb dX13_readFloating_4 rfl (lv_at hl 0 rfl) ?_
    refine gfX13_fault hx hb hts hK hP hown (hts _ tw_2065) (x := τ3.1 20) rfl dX13_readFloating_5 ?_
    refine bi_if_ne (tgt := 15) hx hb (hB.1 20) dX13_readFloating_8 (by decide) (fun c4 => ?_) (fun c4 => ?_)
    ·
      replace hw := hw.1 c4
      exact (hP15 _).mp hw hN hF H locs ls hP hD hS (lv_sub hl [0] rfl)
    ·
      replace hw := hw.2 c4
      refine lv_aload_n hx hb dX13_readFloating_11 rfl (lv_at hl 0 rfl) ?_
      obtain ⟨Q5, hc, hw⟩ := hw
      refine wc_V (X := MX g q lb) (va_runV (As := []) (rest := []) ⟨hx, hb, hml, hown, hts⟩ (L_X13_readFirst l g q lb hlb  hN hc H.size) (cwV 0 hts (TB_V tw_2629 tw_2631 ts_122 tw_15 co_X13_readFirst) rfl rfl rfl (by decide +kernel) ⟨Nat.le_of_ble_eq_true rfl, Nat.le_of_ble_eq_true rfl⟩) (preV (q0 := 0) (ci := 13) rfl xT_bl hP hK hNb hD rfl rfl xT_at) rfl rfl hl.1 rfl (lv_room (Nat.le_of_ble_eq_true rfl)) dX13_readFloating_12 ⟨Nat.le_of_ble_eq_true rfl, Nat.le_of_ble_eq_true rfl⟩) hP hD hS hA (fun τ7 H locs hN hf hq hP hD hS => ?_)
      replace hw := hw τ7 hN hf hq
      have hF : f_r [4, 5, 6, 13, 16, 17, 18, 19, 20, 21] [10, 11, 12, 13, 15, 16, 17, 31] [] σ τ7 := f_t hF hf (by decide) (by decide) (by decide)
      have hB := hN
      exact (hP15 _).mp hw hN hF H locs ls hP hD hS (lv_sub hl [0] rfl)
  ·
    intro τ hw
    refine (hP15 _).mpr ?_
    intro hN hF H locs ls hP hD hS hl
    have hB := hN
    refine lv_aload_n hx hb dX13_readFloating_15 rfl (lv_at hl 0 rfl) ?_
    refine gfX13_fault hx hb hts hK hP hown (hts _ tw_2065) (x := τ.1 20) rfl dX13_readFloating_16 ?_
    refine bi_if_le (tgt := 23) hx hb (hB.1 20) dX13_readFloating_19 (by decide) (fun c8 => ?_) (fun c8 => ?_)
    ·
      replace hw := hw.1 c8
      refine lv_aload_n hx hb dX13_readFloating_23 rfl (lv_at hl 0 rfl) ?_
      obtain ⟨Q9, hc, hw⟩ := hw
      refine wc_V (X := MX g q lb) (va_runV (As := []) (rest := []) ⟨hx, hb, hml, hown, hts⟩ (L_X13_next l g q lb hlb  hN hc H.size) (cwV 0 hts (TB_V tw_2536 tw_2538 ts_104 tw_15 co_X13_next) rfl rfl rfl (by decide +kernel) ⟨Nat.le_of_ble_eq_true rfl, Nat.le_of_ble_eq_true rfl⟩) (preV (q0 := 0) (ci := 13) rfl xT_bl hP hK hNb hD rfl rfl xT_at) rfl rfl hl.1 rfl (lv_room (Nat.le_of_ble_eq_true rfl)) dX13_readFloating_24 ⟨Nat.le_of_ble_eq_true rfl, Nat.le_of_ble_eq_true rfl⟩) hP hD hS hA (fun τ11 H locs hN hf hq hP hD hS => ?_)
      replace hw := hw τ11 hN hf hq
      have hF : f_r [4, 5, 6, 13, 16, 17, 18, 19, 20, 21] [10, 11, 12, 13, 15, 16, 17, 31] [] σ τ11 := f_t hF hf (by decide) (by decide) (by decide)
      have hB := hN
      refine lv_aload_n hx hb dX13_readFloating_27 rfl (lv_at hl 0 rfl) ?_
      refine gfX13_fault hx hb hts hK hP hown (hts _ tw_2065) (x := τ11.1 20) rfl dX13_readFloating_28 ?_
      refine bi_if_ne (tgt := 47) hx hb (hB.1 20) dX13_readFloating_31 (by decide) (fun c12 => ?_) (fun c12 => ?_)
      ·
        replace hw := hw.1 c12
        exact (hP47 _).mp hw hN hF H locs ls hP hD hS (lv_sub hl [0] rfl)
      ·
        replace hw := hw.2 c12
        refine lv_aload_n hx hb dX13_readFloating_34 rfl (lv_at hl 0 rfl) ?_
        refine gfX13_token hx hb hts hK hP hown (hts _ tw_2064) (x := τ11.1 19) rfl dX13_readFloating_35 ?_
        refine lv_iconst (v := I 1) hx hb dX13_readFloating_38 rfl ?_
        refine bi_icmp_eq (tgt := 47) hx hb (hB.1 19) (by decide) dX13_readFloating_39 (by decide) (fun c13 => ?_) (fun c13 => ?_)
        ·
          replace hw := hw.1 c13
          exact (hP47 _).mp hw hN hF H locs ls hP hD hS (lv_sub hl [0] rfl)
        ·
          replace hw := hw.2 c13
          refine lv_aload_n hx hb dX13_readFloating_42 rfl (lv_at hl 0 rfl) ?_
          refine lv_iconst (v := I 4) hx hb dX13_readFloating_43 rfl ?_
          obtain ⟨Q14, hc, hw⟩ := hw
          refine wc_V (X := MX g q lb) (va_runV (As := [.int (I 4)]) (rest := []) ⟨hx, hb, hml, hown, hts⟩ (L_X13_failHere l g q lb hlb (by decide) hN hc H.size) (cwV 1 hts (TB_V tw_2585 tw_2587 ts_114 tw_15 co_X13_failHere) rfl rfl rfl (by decide +kernel) ⟨Nat.le_of_ble_eq_true rfl, Nat.le_of_ble_eq_true rfl⟩) (preV (q0 := 0) (ci := 13) rfl xT_bl hP hK hNb hD rfl rfl xT_at) rfl rfl hl.1 rfl (lv_room (Nat.le_of_ble_eq_true rfl)) dX13_readFloating_44 ⟨Nat.le_of_ble_eq_true rfl, Nat.le_of_ble_eq_true rfl⟩) hP hD hS hA (fun τ16 H locs hN hf hq hP hD hS => ?_)
          replace hw := hw τ16 hN hf hq
          have hF : f_r [4, 5, 6, 13, 16, 17, 18, 19, 20, 21] [10, 11, 12, 13, 15, 16, 17, 31] [] σ τ16 := f_t hF hf (by decide) (by decide) (by decide)
          have hB := hN
          exact (hP47 _).mp hw hN hF H locs ls hP hD hS (lv_sub hl [0] rfl)
    ·
      replace hw := hw.2 c8
      exact xrv hx hb hr hlk hP hK hD hS ⟨_, hN, hF, rfl, hw⟩ (Nat.le_of_ble_eq_true rfl) (Nat.le_of_ble_eq_true rfl) dX13_readFloating_22
  ·
    intro τ hw
    refine (hP47 _).mpr ?_
    intro hN hF H locs ls hP hD hS hl
    have hB := hN
    refine lv_aload_n hx hb dX13_readFloating_47 rfl (lv_at hl 0 rfl) ?_
    refine gfX13_fault hx hb hts hK hP hown (hts _ tw_2065) (x := τ.1 20) rfl dX13_readFloating_48 ?_
    refine bi_if_le (tgt := 55) hx hb (hB.1 20) dX13_readFloating_51 (by decide) (fun c17 => ?_) (fun c17 => ?_)
    ·
      replace hw := hw.1 c17
      refine lv_aload_n hx hb dX13_readFloating_55 rfl (lv_at hl 0 rfl) ?_
      obtain ⟨Q18, hc, hw⟩ := hw
      refine wc_i (X := MX g q lb) (va_runV (As := []) (rest := []) ⟨hx, hb, hml, hown, hts⟩ (L_X13_symbolHere l g q lb hlb  hN hc H.size) (cwV 0 hts (TB_V tw_2609 tw_2611 ts_117 tw_15 co_X13_symbolHere) rfl rfl rfl (by decide +kernel) ⟨Nat.le_of_ble_eq_true rfl, Nat.le_of_ble_eq_true rfl⟩) (preV (q0 := 0) (ci := 13) rfl xT_bl hP hK hNb hD rfl rfl xT_at) rfl rfl hl.1 rfl (lv_room (Nat.le_of_ble_eq_true rfl)) dX13_readFloating_56 ⟨Nat.le_of_ble_eq_true rfl, Nat.le_of_ble_eq_true rfl⟩) hP hD hS hA (fun x19 H locs r_x19 hq hP hD hS => ?_)
      replace hw := hw x19 r_x19 hq
      refine lv_istore_n (lv' := [(1, .int (I x19)), (0, .ref (q 0))]) hx hb dX13_readFloating_59 rfl hl (by decide) rfl (fun ls hl => ?_)
      refine lv_aload_n hx hb dX13_readFloating_60 rfl (lv_at hl 1 rfl) ?_
      refine gfX13_texts hx hb hts hK hP hown (hts _ tw_2028) dX13_readFloating_61 ?_
      refine lv_aload_n hx hb dX13_readFloating_64 rfl (lv_at hl 1 rfl) ?_
      refine gfX13_textAt hx hb hts hK hP hown (hts _ tw_2026) dX13_readFloating_65 ?_
      refine lv_aload_n hx hb dX13_readFloating_68 rfl (lv_at hl 1 rfl) ?_
      refine gfX13_now hx hb hts hK hP hown (hts _ tw_2068) (x := τ.1 22) rfl dX13_readFloating_69 ?_
      obtain ⟨c21, hw⟩ := hw
      refine ldMX13_textAt hx hb hK hP hN c21 dX13_readFloating_72 (fun x22 r_x22 e_x22 => ?_)
      replace hw := hw x22 r_x22 e_x22
      obtain ⟨c23, hw⟩ := hw
      refine ldMX13_texts hx hb hK hP hN c23 dX13_readFloating_73 (fun x24 r_x24 e_x24 => ?_)
      replace hw := hw x24 r_x24 e_x24
      refine lv_istore_n (lv' := [(2, .int (I x24)), (1, .int (I x19)), (0, .ref (q 0))]) hx hb dX13_readFloating_74 rfl hl (by decide) rfl (fun ls hl => ?_)
      refine lv_aload_n hx hb dX13_readFloating_75 rfl (lv_at hl 2 rfl) ?_
      refine gfX13_textCount hx hb hts hK hP hown (hts _ tw_2030) (x := τ.1 6) rfl dX13_readFloating_76 ?_
      refine lv_sipush (v := I 30000) hx hb dX13_readFloating_79 (by decide) ?_
      refine bi_icmp_ne (tgt := 93) hx hb (hB.1 6) (by decide) dX13_readFloating_82 (by decide) (fun c25 => ?_) (fun c25 => ?_)
      ·
        replace hw := hw.1 c25
        refine lv_iload_n hx hb dX13_readFloating_93 rfl (lv_at hl 1 rfl) ?_
        refine lv_iconst (v := I (-1)) hx hb dX13_readFloating_94 rfl ?_
        refine bi_icmp_eq (tgt := 135) hx hb r_x19 (by decide) dX13_readFloating_95 (by decide) (fun c26 => ?_) (fun c26 => ?_)
        ·
          replace hw := hw.1 c26
          exact (hP135 _ _ _).mp hw r_x19 r_x24 hN hF H locs ls hP hD hS (lv_sub hl [2, 1, 0] rfl)
        ·
          replace hw := hw.2 c26
          refine lv_aload_n hx hb dX13_readFloating_98 rfl (lv_at hl 2 rfl) ?_
          refine gfX13_isVariable hx hb hts hK hP hown (hts _ tw_2018) dX13_readFloating_99 ?_
          refine lv_iload_n hx hb dX13_readFloating_102 rfl (lv_at hl 1 rfl) ?_
          obtain ⟨c27, hw⟩ := hw
          refine ldMX13_isVariable hx hb hK hP hN c27 dX13_readFloating_103 (fun x28 r_x28 e_x28 => ?_)
          replace hw := hw x28 r_x28 e_x28
          refine bi_if_eq (tgt := 135) hx hb r_x28 dX13_readFloating_104 (by decide) (fun c29 => ?_) (fun c29 => ?_)
          ·
            replace hw := hw.1 c29
            exact (hP135 _ _ _).mp hw r_x19 r_x24 hN hF H locs ls hP hD hS (lv_sub hl [2, 1, 0] rfl)
          ·
            replace hw := hw.2 c29
            refine lv_aload_n hx hb dX13_readFloating_107 rfl (lv_at hl 2 rfl) ?_
            refine gfX13_isActive hx hb hts hK hP hown (hts _ tw_2019) dX13_readFloating_108 ?_
            refine lv_iload_n hx hb dX13_readFloating_111 rfl (lv_at hl 1 rfl) ?_
            refine ldMX13_isActive hx hb hK hP hN c27 dX13_readFloating_112 (fun x30 r_x30 e_x30 => ?_)
            replace hw := hw x30 r_x30 e_x30
            refine bi_if_eq (tgt := 135) hx hb r_x30 dX13_readFloating_113 (by decide) (fun c31 => ?_) (fun c31 => ?_)
            ·
              replace hw := hw.1 c31
              exact (hP135 _ _ _).mp hw r_x19 r_x24 hN hF H locs ls hP hD hS (lv_sub hl [2, 1, 0] rfl)
            ·
              replace hw := hw.2 c31
              refine lv_aload_n hx hb dX13_readFloating_116 rfl (lv_at hl 2 rfl) ?_
              refine gfX13_floatOf hx hb hts hK hP hown (hts _ tw_2021) dX13_readFloating_117 ?_
              refine lv_iload_n hx hb dX13_readFloating_120 rfl (lv_at hl 1 rfl) ?_
              refine ldMX13_floatOf hx hb hK hP hN c27 dX13_readFloating_121 (fun x32 r_x32 e_x32 => ?_)
              replace hw := hw x32 r_x32 e_x32
              refine lv_iconst (v := I (-1)) hx hb dX13_readFloating_122 rfl ?_
              refine bi_icmp_eq (tgt := 135) hx hb r_x32 (by decide) dX13_readFloating_123 (by decide) (fun c33 => ?_) (fun c33 => ?_)
              ·
                replace hw := hw.1 c33
                exact (hP135 _ _ _).mp hw r_x19 r_x24 hN hF H locs ls hP hD hS (lv_sub hl [2, 1, 0] rfl)
              ·
                replace hw := hw.2 c33
                refine lv_aload_n hx hb dX13_readFloating_126 rfl (lv_at hl 2 rfl) ?_
                refine lv_bipush (v := I 7) hx hb dX13_readFloating_127 (by decide) ?_
                obtain ⟨Q34, hc, hw⟩ := hw
                refine wc_V (X := MX g q lb) (va_runV (As := [.int (I 7)]) (rest := []) ⟨hx, hb, hml, hown, hts⟩ (L_X13_failHere l g q lb hlb (by decide) hN hc H.size) (cwV 1 hts (TB_V tw_2585 tw_2587 ts_114 tw_15 co_X13_failHere) rfl rfl rfl (by decide +kernel) ⟨Nat.le_of_ble_eq_true rfl, Nat.le_of_ble_eq_true rfl⟩) (preV (q0 := 0) (ci := 13) rfl xT_bl hP hK hNb hD rfl rfl xT_at) rfl rfl hl.1 rfl (lv_room (Nat.le_of_ble_eq_true rfl)) dX13_readFloating_129 ⟨Nat.le_of_ble_eq_true rfl, Nat.le_of_ble_eq_true rfl⟩) hP hD hS hA (fun τ36 H locs hN hf hq hP hD hS => ?_)
                replace hw := hw τ36 hN hf hq
                have hF : f_r [4, 5, 6, 13, 16, 17, 18, 19, 20, 21] [10, 11, 12, 13, 15, 16, 17, 31] [] σ τ36 := f_t hF hf (by decide) (by decide) (by decide)
                have hB := hN
                refine lv_goto (tgt := 211) hx hb dX13_readFloating_132 (by decide) ?_
                exact (hP211 _ _ _).mp hw r_x19 r_x24 hN hF H locs ls hP hD hS (lv_sub hl [2, 1, 0] rfl)
      ·
        replace hw := hw.2 c25
        refine lv_aload_n hx hb dX13_readFloating_85 rfl (lv_at hl 2 rfl) ?_
        refine lv_iconst (v := I 5) hx hb dX13_readFloating_86 rfl ?_
        obtain ⟨Q37, hc, hw⟩ := hw
        refine wc_V (X := MX g q lb) (va_runV (As := [.int (I 5)]) (rest := []) ⟨hx, hb, hml, hown, hts⟩ (L_X13_failHere l g q lb hlb (by decide) hN hc H.size) (cwV 1 hts (TB_V tw_2585 tw_2587 ts_114 tw_15 co_X13_failHere) rfl rfl rfl (by decide +kernel) ⟨Nat.le_of_ble_eq_true rfl, Nat.le_of_ble_eq_true rfl⟩) (preV (q0 := 0) (ci := 13) rfl xT_bl hP hK hNb hD rfl rfl xT_at) rfl rfl hl.1 rfl (lv_room (Nat.le_of_ble_eq_true rfl)) dX13_readFloating_87 ⟨Nat.le_of_ble_eq_true rfl, Nat.le_of_ble_eq_true rfl⟩) hP hD hS hA (fun τ39 H locs hN hf hq hP hD hS => ?_)
        replace hw := hw τ39 hN hf hq
        have hF : f_r [4, 5, 6, 13, 16, 17, 18, 19, 20, 21] [10, 11, 12, 13, 15, 16, 17, 31] [] σ τ39 := f_t hF hf (by decide) (by decide) (by decide)
        have hB := hN
        refine lv_goto (tgt := 211) hx hb dX13_readFloating_90 (by decide) ?_
        exact (hP211 _ _ _).mp hw r_x19 r_x24 hN hF H locs ls hP hD hS (lv_sub hl [2, 1, 0] rfl)
    ·
      replace hw := hw.2 c17
      exact xrv hx hb hr hlk hP hK hD hS ⟨_, hN, hF, rfl, hw⟩ (Nat.le_of_ble_eq_true rfl) (Nat.le_of_ble_eq_true rfl) dX13_readFloating_54
  ·
    intro u1 u2 τ hw
    refine (hP135 _ _ _).mpr ?_
    intro r_u1 r_u2 hN hF H locs ls hP hD hS hl
    have hB := hN
    refine lv_iload_n hx hb dX13_readFloating_135 rfl (lv_at hl 1 rfl) ?_
    refine lv_iconst (v := I (-1)) hx hb dX13_readFloating_136 rfl ?_
    refine bi_icmp_eq (tgt := 158) hx hb r_u1 (by decide) dX13_readFloating_137 (by decide) (fun c40 => ?_) (fun c40 => ?_)
    ·
      replace hw := hw.1 c40
      exact (hP158 _ _ _).mp hw r_u1 r_u2 hN hF H locs ls hP hD hS (lv_sub hl [0, 1, 2] rfl)
    ·
      replace hw := hw.2 c40
      refine lv_aload_n hx hb dX13_readFloating_140 rfl (lv_at hl 0 rfl) ?_
      refine gfX13_isVariable hx hb hts hK hP hown (hts _ tw_2018) dX13_readFloating_141 ?_
      refine lv_iload_n hx hb dX13_readFloating_144 rfl (lv_at hl 1 rfl) ?_
      obtain ⟨c41, hw⟩ := hw
      refine ldMX13_isVariable hx hb hK hP hN c41 dX13_readFloating_145 (fun x42 r_x42 e_x42 => ?_)
      replace hw := hw x42 r_x42 e_x42
      refine bi_if_eq (tgt := 167) hx hb r_x42 dX13_readFloating_146 (by decide) (fun c43 => ?_) (fun c43 => ?_)
      ·
        replace hw := hw.1 c43
        exact (hP167 _ _ _).mp hw r_u1 r_u2 hN hF H locs ls hP hD hS (lv_sub hl [0, 1, 2] rfl)
      ·
        replace hw := hw.2 c43
        refine lv_aload_n hx hb dX13_readFloating_149 rfl (lv_at hl 0 rfl) ?_
        refine gfX13_isActive hx hb hts hK hP hown (hts _ tw_2019) dX13_readFloating_150 ?_
        refine lv_iload_n hx hb dX13_readFloating_153 rfl (lv_at hl 1 rfl) ?_
        refine ldMX13_isActive hx hb hK hP hN c41 dX13_readFloating_154 (fun x44 r_x44 e_x44 => ?_)
        replace hw := hw x44 r_x44 e_x44
        refine bi_if_ne (tgt := 167) hx hb r_x44 dX13_readFloating_155 (by decide) (fun c45 => ?_) (fun c45 => ?_)
        ·
          replace hw := hw.1 c45
          exact (hP167 _ _ _).mp hw r_u1 r_u2 hN hF H locs ls hP hD hS (lv_sub hl [0, 1, 2] rfl)
        ·
          replace hw := hw.2 c45
          exact (hP158 _ _ _).mp hw r_u1 r_u2 hN hF H locs ls hP hD hS (lv_sub hl [0, 1, 2] rfl)
  ·
    intro u1 u2 τ hw
    refine (hP158 _ _ _).mpr ?_
    intro r_u1 r_u2 hN hF H locs ls hP hD hS hl
    have hB := hN
    refine lv_aload_n hx hb dX13_readFloating_158 rfl (lv_at hl 0 rfl) ?_
    refine lv_bipush (v := I 9) hx hb dX13_readFloating_159 (by decide) ?_
    obtain ⟨Q58, hc, hw⟩ := hw
    refine wc_V (X := MX g q lb) (va_runV (As := [.int (I 9)]) (rest := []) ⟨hx, hb, hml, hown, hts⟩ (L_X13_failHere l g q lb hlb (by decide) hN hc H.size) (cwV 1 hts (TB_V tw_2585 tw_2587 ts_114 tw_15 co_X13_failHere) rfl rfl rfl (by decide +kernel) ⟨Nat.le_of_ble_eq_true rfl, Nat.le_of_ble_eq_true rfl⟩) (preV (q0 := 0) (ci := 13) rfl xT_bl hP hK hNb hD rfl rfl xT_at) rfl rfl hl.1 rfl (lv_room (Nat.le_of_ble_eq_true rfl)) dX13_readFloating_161 ⟨Nat.le_of_ble_eq_true rfl, Nat.le_of_ble_eq_true rfl⟩) hP hD hS hA (fun τ60 H locs hN hf hq hP hD hS => ?_)
    replace hw := hw τ60 hN hf hq
    have hF : f_r [4, 5, 6, 13, 16, 17, 18, 19, 20, 21] [10, 11, 12, 13, 15, 16, 17, 31] [] σ τ60 := f_t hF hf (by decide) (by decide) (by decide)
    have hB := hN
    refine lv_goto (tgt := 211) hx hb dX13_readFloating_164 (by decide) ?_
    exact (hP211 _ _ _).mp hw r_u1 r_u2 hN hF H locs ls hP hD hS (lv_sub hl [0, 1, 2] rfl)
  ·
    intro u1 u2 τ hw
    refine (hP167 _ _ _).mpr ?_
    intro r_u1 r_u2 hN hF H locs ls hP hD hS hl
    have hB := hN
    refine lv_aload_n hx hb dX13_readFloating_167 rfl (lv_at hl 0 rfl) ?_
    refine gfX13_isVariable hx hb hts hK hP hown (hts _ tw_2018) dX13_readFloating_168 ?_
    refine lv_iload_n hx hb dX13_readFloating_171 rfl (lv_at hl 1 rfl) ?_
    obtain ⟨c61, hw⟩ := hw
    refine ldMX13_isVariable hx hb hK hP hN c61 dX13_readFloating_172 (fun x62 r_x62 e_x62 => ?_)
    replace hw := hw x62 r_x62 e_x62
    refine bi_if_ne (tgt := 185) hx hb r_x62 dX13_readFloating_173 (by decide) (fun c63 => ?_) (fun c63 => ?_)
    ·
      replace hw := hw.1 c63
      refine lv_aload_n hx hb dX13_readFloating_185 rfl (lv_at hl 0 rfl) ?_
      refine gfX13_typeOf hx hb hts hK hP hown (hts _ tw_2020) dX13_readFloating_186 ?_
      refine lv_iload_n hx hb dX13_readFloating_189 rfl (lv_at hl 1 rfl) ?_
      refine ldMX13_typeOf hx hb hK hP hN c61 dX13_readFloating_190 (fun x64 r_x64 e_x64 => ?_)
      replace hw := hw x64 r_x64 e_x64
      refine lv_iconst (v := I (-1)) hx hb dX13_readFloating_191 rfl ?_
      refine bi_icmp_eq (tgt := 211) hx hb r_x64 (by decide) dX13_readFloating_192 (by decide) (fun c65 => ?_) (fun c65 => ?_)
      ·
        replace hw := hw.1 c65
        exact (hP211 _ _ _).mp hw r_u1 r_u2 hN hF H locs ls hP hD hS (lv_sub hl [0, 1, 2] rfl)
      ·
        replace hw := hw.2 c65
        refine lv_aload_n hx hb dX13_readFloating_195 rfl (lv_at hl 0 rfl) ?_
        refine gfX13_typeOf hx hb hts hK hP hown (hts _ tw_2020) dX13_readFloating_196 ?_
        refine lv_iload_n hx hb dX13_readFloating_199 rfl (lv_at hl 1 rfl) ?_
        refine ldMX13_typeOf hx hb hK hP hN c61 dX13_readFloating_200 (fun x66 r_x66 e_x66 => ?_)
        replace hw := hw x66 r_x66 e_x66
        refine lv_iload_n hx hb dX13_readFloating_201 rfl (lv_at hl 2 rfl) ?_
        refine bi_icmp_eq (tgt := 211) hx hb r_x66 r_u2 dX13_readFloating_202 (by decide) (fun c67 => ?_) (fun c67 => ?_)
        ·
          replace hw := hw.1 c67
          exact (hP211 _ _ _).mp hw r_u1 r_u2 hN hF H locs ls hP hD hS (lv_sub hl [0, 1, 2] rfl)
        ·
          replace hw := hw.2 c67
          refine lv_aload_n hx hb dX13_readFloating_205 rfl (lv_at hl 0 rfl) ?_
          refine lv_bipush (v := I 12) hx hb dX13_readFloating_206 (by decide) ?_
          obtain ⟨Q68, hc, hw⟩ := hw
          refine wc_V (X := MX g q lb) (va_runV (As := [.int (I 12)]) (rest := []) ⟨hx, hb, hml, hown, hts⟩ (L_X13_failHere l g q lb hlb (by decide) hN hc H.size) (cwV 1 hts (TB_V tw_2585 tw_2587 ts_114 tw_15 co_X13_failHere) rfl rfl rfl (by decide +kernel) ⟨Nat.le_of_ble_eq_true rfl, Nat.le_of_ble_eq_true rfl⟩) (preV (q0 := 0) (ci := 13) rfl xT_bl hP hK hNb hD rfl rfl xT_at) rfl rfl hl.1 rfl (lv_room (Nat.le_of_ble_eq_true rfl)) dX13_readFloating_208 ⟨Nat.le_of_ble_eq_true rfl, Nat.le_of_ble_eq_true rfl⟩) hP hD hS hA (fun τ70 H locs hN hf hq hP hD hS => ?_)
          replace hw := hw τ70 hN hf hq
          have hF : f_r [4, 5, 6, 13, 16, 17, 18, 19, 20, 21] [10, 11, 12, 13, 15, 16, 17, 31] [] σ τ70 := f_t hF hf (by decide) (by decide) (by decide)
          have hB := hN
          exact (hP211 _ _ _).mp hw r_u1 r_u2 hN hF H locs ls hP hD hS (lv_sub hl [0, 1, 2] rfl)
    ·
      replace hw := hw.2 c63
      refine lv_aload_n hx hb dX13_readFloating_176 rfl (lv_at hl 0 rfl) ?_
      refine lv_bipush (v := I 10) hx hb dX13_readFloating_177 (by decide) ?_
      obtain ⟨Q71, hc, hw⟩ := hw
      refine wc_V (X := MX g q lb) (va_runV (As := [.int (I 10)]) (rest := []) ⟨hx, hb, hml, hown, hts⟩ (L_X13_failHere l g q lb hlb (by decide) hN hc H.size) (cwV 1 hts (TB_V tw_2585 tw_2587 ts_114 tw_15 co_X13_failHere) rfl rfl rfl (by decide +kernel) ⟨Nat.le_of_ble_eq_true rfl, Nat.le_of_ble_eq_true rfl⟩) (preV (q0 := 0) (ci := 13) rfl xT_bl hP hK hNb hD rfl rfl xT_at) rfl rfl hl.1 rfl (lv_room (Nat.le_of_ble_eq_true rfl)) dX13_readFloating_179 ⟨Nat.le_of_ble_eq_true rfl, Nat.le_of_ble_eq_true rfl⟩) hP hD hS hA (fun τ73 H locs hN hf hq hP hD hS => ?_)
      replace hw := hw τ73 hN hf hq
      have hF : f_r [4, 5, 6, 13, 16, 17, 18, 19, 20, 21] [10, 11, 12, 13, 15, 16, 17, 31] [] σ τ73 := f_t hF hf (by decide) (by decide) (by decide)
      have hB := hN
      refine lv_goto (tgt := 211) hx hb dX13_readFloating_182 (by decide) ?_
      exact (hP211 _ _ _).mp hw r_u1 r_u2 hN hF H locs ls hP hD hS (lv_sub hl [0, 1, 2] rfl)
  ·
    intro u1 u2 τ hw
    refine (hP211 _ _ _).mpr ?_
    intro r_u1 r_u2 hN hF H locs ls hP hD hS hl
    have hB := hN
    refine lv_aload_n hx hb dX13_readFloating_211 rfl (lv_at hl 0 rfl) ?_
    refine gfX13_fault hx hb hts hK hP hown (hts _ tw_2065) (x := τ.1 20) rfl dX13_readFloating_212 ?_
    refine bi_if_le (tgt := 219) hx hb (hB.1 20) dX13_readFloating_215 (by decide) (fun c46 => ?_) (fun c46 => ?_)
    ·
      replace hw := hw.1 c46
      refine lv_aload_n hx hb dX13_readFloating_219 rfl (lv_at hl 0 rfl) ?_
      refine lv_iload_n hx hb dX13_readFloating_220 rfl (lv_at hl 1 rfl) ?_
      refine lv_aload_n hx hb dX13_readFloating_221 rfl (lv_at hl 0 rfl) ?_
      refine gfX13_now hx hb hts hK hP hown (hts _ tw_2068) (x := τ.1 22) rfl dX13_readFloating_222 ?_
      obtain ⟨Q47, hc, hw⟩ := hw
      refine wc_V (X := MX g q lb) (va_runV (As := [.int (I u1), .int (I (τ.1 22))]) (rest := []) ⟨hx, hb, hml, hown, hts⟩ (L_X13_addSymbol l g q lb hlb r_u1 (hB.1 22) hN hc H.size) (cwV 2 hts (TB_V tw_2633 tw_2635 ts_123 tw_15 co_X13_addSymbol) rfl rfl rfl (by decide +kernel) ⟨Nat.le_of_ble_eq_true rfl, Nat.le_of_ble_eq_true rfl⟩) (preV (q0 := 0) (ci := 13) rfl xT_bl hP hK hNb hD rfl rfl xT_at) rfl rfl hl.1 rfl (lv_room (Nat.le_of_ble_eq_true rfl)) dX13_readFloating_225 ⟨Nat.le_of_ble_eq_true rfl, Nat.le_of_ble_eq_true rfl⟩) hP hD hS hA (fun τ49 H locs hN hf hq hP hD hS => ?_)
      replace hw := hw τ49 hN hf hq
      have hF : f_r [4, 5, 6, 13, 16, 17, 18, 19, 20, 21] [10, 11, 12, 13, 15, 16, 17, 31] [] σ τ49 := f_t hF hf (by decide) (by decide) (by decide)
      have hB := hN
      refine lv_aload_n hx hb dX13_readFloating_228 rfl (lv_at hl 0 rfl) ?_
      obtain ⟨Q50, hc, hw⟩ := hw
      refine wc_V (X := MX g q lb) (va_runV (As := []) (rest := []) ⟨hx, hb, hml, hown, hts⟩ (L_X13_next l g q lb hlb  hN hc H.size) (cwV 0 hts (TB_V tw_2536 tw_2538 ts_104 tw_15 co_X13_next) rfl rfl rfl (by decide +kernel) ⟨Nat.le_of_ble_eq_true rfl, Nat.le_of_ble_eq_true rfl⟩) (preV (q0 := 0) (ci := 13) rfl xT_bl hP hK hNb hD rfl rfl xT_at) rfl rfl hl.1 rfl (lv_room (Nat.le_of_ble_eq_true rfl)) dX13_readFloating_229 ⟨Nat.le_of_ble_eq_true rfl, Nat.le_of_ble_eq_true rfl⟩) hP hD hS hA (fun τ52 H locs hN hf hq hP hD hS => ?_)
      replace hw := hw τ52 hN hf hq
      have hF : f_r [4, 5, 6, 13, 16, 17, 18, 19, 20, 21] [10, 11, 12, 13, 15, 16, 17, 31] [] σ τ52 := f_t hF hf (by decide) (by decide) (by decide)
      have hB := hN
      refine lv_aload_n hx hb dX13_readFloating_232 rfl (lv_at hl 0 rfl) ?_
      refine gfX13_fault hx hb hts hK hP hown (hts _ tw_2065) (x := τ52.1 20) rfl dX13_readFloating_233 ?_
      refine bi_if_ne (tgt := 253) hx hb (hB.1 20) dX13_readFloating_236 (by decide) (fun c53 => ?_) (fun c53 => ?_)
      ·
        replace hw := hw.1 c53
        exact (hP253 _ _ _).mp hw r_u1 r_u2 hN hF H locs ls hP hD hS (lv_sub hl [0, 1, 2] rfl)
      ·
        replace hw := hw.2 c53
        refine lv_aload_n hx hb dX13_readFloating_239 rfl (lv_at hl 0 rfl) ?_
        refine gfX13_token hx hb hts hK hP hown (hts _ tw_2064) (x := τ52.1 19) rfl dX13_readFloating_240 ?_
        refine lv_bipush (v := I 46) hx hb dX13_readFloating_243 (by decide) ?_
        refine bi_icmp_eq (tgt := 253) hx hb (hB.1 19) (by decide) dX13_readFloating_245 (by decide) (fun c54 => ?_) (fun c54 => ?_)
        ·
          replace hw := hw.1 c54
          exact (hP253 _ _ _).mp hw r_u1 r_u2 hN hF H locs ls hP hD hS (lv_sub hl [0, 1, 2] rfl)
        ·
          replace hw := hw.2 c54
          refine lv_aload_n hx hb dX13_readFloating_248 rfl (lv_at hl 0 rfl) ?_
          refine lv_iconst (v := I 4) hx hb dX13_readFloating_249 rfl ?_
          obtain ⟨Q55, hc, hw⟩ := hw
          refine wc_V (X := MX g q lb) (va_runV (As := [.int (I 4)]) (rest := []) ⟨hx, hb, hml, hown, hts⟩ (L_X13_failHere l g q lb hlb (by decide) hN hc H.size) (cwV 1 hts (TB_V tw_2585 tw_2587 ts_114 tw_15 co_X13_failHere) rfl rfl rfl (by decide +kernel) ⟨Nat.le_of_ble_eq_true rfl, Nat.le_of_ble_eq_true rfl⟩) (preV (q0 := 0) (ci := 13) rfl xT_bl hP hK hNb hD rfl rfl xT_at) rfl rfl hl.1 rfl (lv_room (Nat.le_of_ble_eq_true rfl)) dX13_readFloating_250 ⟨Nat.le_of_ble_eq_true rfl, Nat.le_of_ble_eq_true rfl⟩) hP hD hS hA (fun τ57 H locs hN hf hq hP hD hS => ?_)
          replace hw := hw τ57 hN hf hq
          have hF : f_r [4, 5, 6, 13, 16, 17, 18, 19, 20, 21] [10, 11, 12, 13, 15, 16, 17, 31] [] σ τ57 := f_t hF hf (by decide) (by decide) (by decide)
          have hB := hN
          exact (hP253 _ _ _).mp hw r_u1 r_u2 hN hF H locs ls hP hD hS (lv_sub hl [0, 1, 2] rfl)
    ·
      replace hw := hw.2 c46
      exact xrv hx hb hr hlk hP hK hD hS ⟨_, hN, hF, rfl, hw⟩ (Nat.le_of_ble_eq_true rfl) (Nat.le_of_ble_eq_true rfl) dX13_readFloating_218
  ·
    intro u1 u2 τ hw
    refine (hP253 _ _ _).mpr ?_
    intro r_u1 r_u2 hN hF H locs ls hP hD hS hl
    have hB := hN
    refine lv_aload_n hx hb dX13_readFloating_253 rfl (lv_at hl 0 rfl) ?_
    refine gfX13_fault hx hb hts hK hP hown (hts _ tw_2065) (x := τ.1 20) rfl dX13_readFloating_254 ?_
    refine bi_if_ne (tgt := 286) hx hb (hB.1 20) dX13_readFloating_257 (by decide) (fun c74 => ?_) (fun c74 => ?_)
    ·
      replace hw := hw.1 c74
      exact xrv hx hb hr hlk hP hK hD hS ⟨_, hN, hF, rfl, hw⟩ (Nat.le_of_ble_eq_true rfl) (Nat.le_of_ble_eq_true rfl) dX13_readFloating_286
    ·
      replace hw := hw.2 c74
      refine lv_aload_n hx hb dX13_readFloating_260 rfl (lv_at hl 0 rfl) ?_
      refine gfX13_typeOf hx hb hts hK hP hown (hts _ tw_2020) dX13_readFloating_261 ?_
      refine lv_iload_n hx hb dX13_readFloating_264 rfl (lv_at hl 1 rfl) ?_
      refine lv_iload_n hx hb dX13_readFloating_265 rfl (lv_at hl 2 rfl) ?_
      obtain ⟨c75, hw⟩ := hw
      refine sdMX13_typeOf hx hb hK hP hD hS c75 dX13_readFloating_266 (fun H locs hP hD hS => ?_)
      have hN : n_m (s_a τ 10 u1 u2) := n_a (k := 10) (j := u1) hN (r_u2 : rg u2)
      have hF : f_r [4, 5, 6, 13, 16, 17, 18, 19, 20, 21] [10, 11, 12, 13, 15, 16, 17, 31] [] σ (s_a τ 10 u1 u2) := f_a hF (by decide)
      refine lv_aload_n hx hb dX13_readFloating_267 rfl (lv_at hl 0 rfl) ?_
      refine gfX13_floatOf hx hb hts hK hP hown (hts _ tw_2021) dX13_readFloating_268 ?_
      refine lv_iload_n hx hb dX13_readFloating_271 rfl (lv_at hl 1 rfl) ?_
      refine lv_aload_n hx hb dX13_readFloating_272 rfl (lv_at hl 0 rfl) ?_
      refine gfX13_now hx hb hts hK hP hown (hts _ tw_2068) (x := τ.1 22) rfl dX13_readFloating_273 ?_
      refine sdMX13_floatOf hx hb hK hP hD hS c75 dX13_readFloating_276 (fun H locs hP hD hS => ?_)
      have hN : n_m (s_a (s_a τ 10 u1 u2) 11 u1 (τ.1 22)) := n_a (k := 11) (j := u1) hN ((hB.1 22) : rg (τ.1 22))
      have hF : f_r [4, 5, 6, 13, 16, 17, 18, 19, 20, 21] [10, 11, 12, 13, 15, 16, 17, 31] [] σ (s_a (s_a τ 10 u1 u2) 11 u1 (τ.1 22)) := f_a hF (by decide)
      refine lv_aload_n hx hb dX13_readFloating_277 rfl (lv_at hl 0 rfl) ?_
      refine lv_iconst (v := I 0) hx hb dX13_readFloating_278 rfl ?_
      obtain ⟨Q76, hc, hw⟩ := hw
      refine wc_V (X := MX g q lb) (va_runV (As := [.int (I 0)]) (rest := []) ⟨hx, hb, hml, hown, hts⟩ (L_X13_finish l g q lb hlb (by decide) hN hc H.size) (cwV 1 hts (TB_V tw_2637 tw_2639 ts_124 tw_15 co_X13_finish) rfl rfl rfl (by decide +kernel) ⟨Nat.le_of_ble_eq_true rfl, Nat.le_of_ble_eq_true rfl⟩) (preV (q0 := 0) (ci := 13) rfl xT_bl hP hK hNb hD rfl rfl xT_at) rfl rfl hl.1 rfl (lv_room (Nat.le_of_ble_eq_true rfl)) dX13_readFloating_279 ⟨Nat.le_of_ble_eq_true rfl, Nat.le_of_ble_eq_true rfl⟩) hP hD hS hA (fun τ78 H locs hN hf hq hP hD hS => ?_)
      replace hw := hw τ78 hN hf hq
      have hF : f_r [4, 5, 6, 13, 16, 17, 18, 19, 20, 21] [10, 11, 12, 13, 15, 16, 17, 31] [] σ τ78 := f_t hF hf (by decide) (by decide) (by decide)
      have hB := hN
      refine lv_aload_n hx hb dX13_readFloating_282 rfl (lv_at hl 0 rfl) ?_
      obtain ⟨Q79, hc, hw⟩ := hw
      refine wc_V (X := MX g q lb) (va_runV (As := []) (rest := []) ⟨hx, hb, hml, hown, hts⟩ (L_X13_activate l g q lb hlb  hN hc H.size) (cwV 0 hts (TB_V tw_2641 tw_2643 ts_125 tw_15 co_X13_activate) rfl rfl rfl (by decide +kernel) ⟨Nat.le_of_ble_eq_true rfl, Nat.le_of_ble_eq_true rfl⟩) (preV (q0 := 0) (ci := 13) rfl xT_bl hP hK hNb hD rfl rfl xT_at) rfl rfl hl.1 rfl (lv_room (Nat.le_of_ble_eq_true rfl)) dX13_readFloating_283 ⟨Nat.le_of_ble_eq_true rfl, Nat.le_of_ble_eq_true rfl⟩) hP hD hS hA (fun τ81 H locs hN hf hq hP hD hS => ?_)
      replace hw := hw τ81 hN hf hq
      have hF : f_r [4, 5, 6, 13, 16, 17, 18, 19, 20, 21] [10, 11, 12, 13, 15, 16, 17, 31] [] σ τ81 := f_t hF hf (by decide) (by decide) (by decide)
      have hB := hN
      exact xrv hx hb hr hlk hP hK hD hS ⟨_, hN, hF, rfl, hw⟩ (Nat.le_of_ble_eq_true rfl) (Nat.le_of_ble_eq_true rfl) dX13_readFloating_286
def W_X13_readSymbols (n1 : Int) (σ : S0) (Q : S0 → Prop) : Prop :=
  ∀ (P15 : Int → S0 → Prop) (P26 : Int → S0 → Prop) (P85 : Int → S0 → Prop) (P116 : Int → S0 → Prop) (P125 : Int → Int → S0 → Prop) (P153 : Int → Int → S0 → Prop) (P174 : Int → Int → Int → S0 → Prop),
  (∀ (u1 : Int) (τ : S0), ((¬ τ.1 20 = 0 → P26 u1 τ) ∧ (τ.1 20 = 0 → ∃ (Q9 : S0 → Prop), W_X13_next τ Q9 ∧ ∀ (τ11 : S0), n_m τ11 → f_r [16, 17, 18, 19, 20, 21] [] [] τ τ11 → Q9 τ11 → (P26 u1 τ11))) → P15 u1 τ) →
  (∀ (u1 : Int) (τ : S0), ((¬ τ.1 20 = 0 → Q τ) ∧ (τ.1 20 = 0 → (τ.1 19 = u1 → Q τ) ∧ (¬ τ.1 19 = u1 → (τ.1 19 = 1 → ∃ (Q15 : Int → Prop), W_X13_symbolHere τ Q15 ∧ ∀ (x16 : Int), rg x16 → Q15 x16 → ((0 ≤ τ.1 22 ∧ τ.1 22 < 1501) ∧ (∀ (x19 : Int), rg x19 → x19 = τ.2.1 15 (τ.1 22) → ((x19 = 300 → P85 u1 τ) ∧ (¬ x19 = 300 → (¬ τ.1 6 = 30000 → (x16 = (-1) → P116 u1 τ) ∧ (¬ x16 = (-1) → (0 ≤ x16 ∧ x16 < 1001) ∧ (∀ (x24 : Int), rg x24 → x24 = τ.2.1 8 x16 → ((x24 = 0 → P125 u1 x16 τ) ∧ (¬ x24 = 0 → ∀ (x26 : Int), rg x26 → x26 = τ.2.1 9 x16 → ((¬ x26 = 0 → P125 u1 x16 τ) ∧ (x26 = 0 → P116 u1 τ))))))) ∧ (τ.1 6 = 30000 → P85 u1 τ)))))) ∧ (¬ τ.1 19 = 1 → ∃ (Q28 : S0 → Prop), W_X13_failHere 4 τ Q28 ∧ ∀ (τ30 : S0), n_m τ30 → f_r [20, 21] [] [] τ τ30 → Q28 τ30 → (Q τ30))))) → P26 u1 τ) →
  (∀ (u1 : Int) (τ : S0), (∃ (Q31 : S0 → Prop), W_X13_failHere 5 τ Q31 ∧ ∀ (τ33 : S0), n_m τ33 → f_r [20, 21] [] [] τ τ33 → Q31 τ33 → (P26 u1 τ33)) → P85 u1 τ) →
  (∀ (u1 : Int) (τ : S0), (∃ (Q34 : S0 → Prop), W_X13_failHere 9 τ Q34 ∧ ∀ (τ36 : S0), n_m τ36 → f_r [20, 21] [] [] τ τ36 → Q34 τ36 → (P26 u1 τ36)) → P116 u1 τ) →
  (∀ (u1 : Int) (u2 : Int) (τ : S0), ((0 ≤ u2 ∧ u2 < 1001) ∧ (∀ (x38 : Int), rg x38 → x38 = τ.2.1 8 u2 → ((x38 = 0 → P153 u1 u2 τ) ∧ (¬ x38 = 0 → ∀ (x40 : Int), rg x40 → x40 = τ.2.1 11 u2 → ((¬ x40 = (-1) → P153 u1 u2 τ) ∧ (x40 = (-1) → ∃ (Q42 : S0 → Prop), W_X13_failHere 11 τ Q42 ∧ ∀ (τ44 : S0), n_m τ44 → f_r [20, 21] [] [] τ τ44 → Q42 τ44 → (P26 u1 τ44))))))) → P125 u1 u2 τ) →
  (∀ (u1 : Int) (u2 : Int) (τ : S0), ((0 ≤ u2 ∧ u2 < 1001) ∧ (∀ (x46 : Int), rg x46 → x46 = τ.2.1 8 u2 → ((x46 = 0 → P174 u1 u2 (-1) τ) ∧ (¬ x46 = 0 → ∀ (x48 : Int), rg x48 → x48 = τ.2.1 11 u2 → (P174 u1 u2 x48 τ))))) → P153 u1 u2 τ) →
  (∀ (u1 : Int) (k1 : Int) (k2 : Int) (τ : S0), (∃ (Q49 : S0 → Prop), W_X13_addSymbol k1 k2 τ Q49 ∧ ∀ (τ51 : S0), n_m τ51 → f_r [6] [15, 16, 17] [] τ τ51 → Q49 τ51 → (∃ (Q52 : S0 → Prop), W_X13_next τ51 Q52 ∧ ∀ (τ54 : S0), n_m τ54 → f_r [16, 17, 18, 19, 20, 21] [] [] τ51 τ54 → Q52 τ54 → (P26 u1 τ54))) → P174 u1 k1 k2 τ) →
  ∃ (Q1 : S0 → Prop), W_X13_next σ Q1 ∧ ∀ (τ3 : S0), n_m τ3 → f_r [16, 17, 18, 19, 20, 21] [] [] σ τ3 → Q1 τ3 → ((¬ τ3.1 20 = 0 → P15 n1 τ3) ∧ (τ3.1 20 = 0 → ∃ (Q5 : S0 → Prop), W_X13_readFirst τ3 Q5 ∧ ∀ (τ7 : S0), n_m τ7 → f_r [4, 6, 20, 21] [12, 15, 16, 17] [] τ3 τ7 → Q5 τ7 → (P15 n1 τ7)))
set_option maxRecDepth 100000 in
set_option maxHeartbeats 4000000 in
theorem L_X13_readSymbols (l : Launch) (g : gG) (q : Nat → Nat) (lb : Nat) (hlb : lb < 2 ^ 31) {n1 : Int} {σ : S0} {Q : S0 → Prop} (r_n1 : rg n1) (hN : n_m σ) (hw : W_X13_readSymbols n1 σ Q) (sz : Nat) : MetV l yX13_readSymbols cX13_readSymbols 3 { frames := 4, cells := 0, slots := 0, locals := 93 } g [.ref (q 0), .int (I n1)] (MX g q lb σ) sz xT (p_V (MX g q lb) [4, 6, 16, 17, 18, 19, 20, 21] [12, 15, 16, 17] [] σ Q) 0 0 := by
  refine mkMet (Qc := fun A => QV g A (p_V (MX g q lb) [4, 6, 16, 17, 18, 19, 20, 21] [12, 15, 16, 17] [] σ Q)) (by decide) (Nat.le_of_ble_eq_true rfl) ?_
  intro p e s m below meth c A H ls hx hb hr hml hown hts hlk hnm hsz hP hK hNb hD hA hAe hS hX hl
  have hl : lv_has ls 3 [(0, .ref (q 0)), (1, .int (I n1))] := hl
  have hB := hN
  have hF : f_r [4, 6, 16, 17, 18, 19, 20, 21] [12, 15, 16, 17] [] σ σ := f_0
  obtain ⟨locs, hlocs⟩ : ∃ z : List Loc, z = [] := ⟨_, rfl⟩
  rw [← hlocs] at hS ⊢
  obtain ⟨P15, hP15⟩ : ∃ P : Int → S0 → Prop, ∀ (u1 : Int) (τ : S0), (P u1 τ ↔ (rg u1 → n_m τ → f_r [4, 6, 16, 17, 18, 19, 20, 21] [12, 15, 16, 17] [] σ τ → ∀ (H : Heap) (locs : List Loc) (ls : Array Slot), KP g (MX g q lb τ) H → va_D A (MX g q lb τ) → va_S A s.heap H locs → lv_has ls 3 [(0, .ref (q 0)), (1, .int (I u1))] → W p l e ({ frames := 4, cells := 0, slots := 0, locals := 93 }) s m [.ref (q 0), .int (I n1)].toArray below meth c H locs 0 0 (MQ below (QV g A (p_V (MX g q lb) [4, 6, 16, 17, 18, 19, 20, 21] [12, 15, 16, 17] [] σ Q)) [.ref (q 0), .int (I n1)].toArray s 0 0 A) (F0 m 15 ls []))) := ⟨_, fun _ _ => Iff.rfl⟩
  obtain ⟨P26, hP26⟩ : ∃ P : Int → S0 → Prop, ∀ (u1 : Int) (τ : S0), (P u1 τ ↔ (rg u1 → n_m τ → f_r [4, 6, 16, 17, 18, 19, 20, 21] [12, 15, 16, 17] [] σ τ → ∀ (H : Heap) (locs : List Loc) (ls : Array Slot), KP g (MX g q lb τ) H → va_D A (MX g q lb τ) → va_S A s.heap H locs → lv_has ls 3 [(0, .ref (q 0)), (1, .int (I u1))] → W p l e ({ frames := 4, cells := 0, slots := 0, locals := 93 }) s m [.ref (q 0), .int (I n1)].toArray below meth c H locs 0 0 (MQ below (QV g A (p_V (MX g q lb) [4, 6, 16, 17, 18, 19, 20, 21] [12, 15, 16, 17] [] σ Q)) [.ref (q 0), .int (I n1)].toArray s 0 0 A) (F0 m 26 ls []))) := ⟨_, fun _ _ => Iff.rfl⟩
  obtain ⟨P85, hP85⟩ : ∃ P : Int → S0 → Prop, ∀ (u1 : Int) (τ : S0), (P u1 τ ↔ (rg u1 → n_m τ → f_r [4, 6, 16, 17, 18, 19, 20, 21] [12, 15, 16, 17] [] σ τ → ∀ (H : Heap) (locs : List Loc) (ls : Array Slot), KP g (MX g q lb τ) H → va_D A (MX g q lb τ) → va_S A s.heap H locs → lv_has ls 3 [(0, .ref (q 0)), (1, .int (I u1))] → W p l e ({ frames := 4, cells := 0, slots := 0, locals := 93 }) s m [.ref (q 0), .int (I n1)].toArray below meth c H locs 0 0 (MQ below (QV g A (p_V (MX g q lb) [4, 6, 16, 17, 18, 19, 20, 21] [12, 15, 16, 17] [] σ Q)) [.ref (q 0), .int (I n1)].toArray s 0 0 A) (F0 m 85 ls []))) := ⟨_, fun _ _ => Iff.rfl⟩
  obtain ⟨P116, hP116⟩ : ∃ P : Int → S0 → Prop, ∀ (u1 : Int) (τ : S0), (P u1 τ ↔ (rg u1 → n_m τ → f_r [4, 6, 16, 17, 18, 19, 20, 21] [12, 15, 16, 17] [] σ τ → ∀ (H : Heap) (locs : List Loc) (ls : Array Slot), KP g (MX g q lb τ) H → va_D A (MX g q lb τ) → va_S A s.heap H locs → lv_has ls 3 [(0, .ref (q 0)), (1, .int (I u1))] → W p l e ({ frames := 4, cells := 0, slots := 0, locals := 93 }) s m [.ref (q 0), .int (I n1)].toArray below meth c H locs 0 0 (MQ below (QV g A (p_V (MX g q lb) [4, 6, 16, 17, 18, 19, 20, 21] [12, 15, 16, 17] [] σ Q)) [.ref (q 0), .int (I n1)].toArray s 0 0 A) (F0 m 116 ls []))) := ⟨_, fun _ _ => Iff.rfl⟩
  obtain ⟨P125, hP125⟩ : ∃ P : Int → Int → S0 → Prop, ∀ (u1 : Int) (u2 : Int) (τ : S0), (P u1 u2 τ ↔ (rg u1 → rg u2 → n_m τ → f_r [4, 6, 16, 17, 18, 19, 20, 21] [12, 15, 16, 17] [] σ τ → ∀ (H : Heap) (locs : List Loc) (ls : Array Slot), KP g (MX g q lb τ) H → va_D A (MX g q lb τ) → va_S A s.heap H locs → lv_has ls 3 [(0, .ref (q 0)), (1, .int (I u1)), (2, .int (I u2))] → W p l e ({ frames := 4, cells := 0, slots := 0, locals := 93 }) s m [.ref (q 0), .int (I n1)].toArray below meth c H locs 0 0 (MQ below (QV g A (p_V (MX g q lb) [4, 6, 16, 17, 18, 19, 20, 21] [12, 15, 16, 17] [] σ Q)) [.ref (q 0), .int (I n1)].toArray s 0 0 A) (F0 m 125 ls []))) := ⟨_, fun _ _ _ => Iff.rfl⟩
  obtain ⟨P153, hP153⟩ : ∃ P : Int → Int → S0 → Prop, ∀ (u1 : Int) (u2 : Int) (τ : S0), (P u1 u2 τ ↔ (rg u1 → rg u2 → n_m τ → f_r [4, 6, 16, 17, 18, 19, 20, 21] [12, 15, 16, 17] [] σ τ → ∀ (H : Heap) (locs : List Loc) (ls : Array Slot), KP g (MX g q lb τ) H → va_D A (MX g q lb τ) → va_S A s.heap H locs → lv_has ls 3 [(0, .ref (q 0)), (1, .int (I u1)), (2, .int (I u2))] → W p l e ({ frames := 4, cells := 0, slots := 0, locals := 93 }) s m [.ref (q 0), .int (I n1)].toArray below meth c H locs 0 0 (MQ below (QV g A (p_V (MX g q lb) [4, 6, 16, 17, 18, 19, 20, 21] [12, 15, 16, 17] [] σ Q)) [.ref (q 0), .int (I n1)].toArray s 0 0 A) (F0 m 153 ls []))) := ⟨_, fun _ _ _ => Iff.rfl⟩
  obtain ⟨P174, hP174⟩ : ∃ P : Int → Int → Int → S0 → Prop, ∀ (u1 : Int) (k1 : Int) (k2 : Int) (τ : S0), (P u1 k1 k2 τ ↔ (rg u1 → rg k1 → rg k2 → n_m τ → f_r [4, 6, 16, 17, 18, 19, 20, 21] [12, 15, 16, 17] [] σ τ → ∀ (H : Heap) (locs : List Loc) (ls : Array Slot), KP g (MX g q lb τ) H → va_D A (MX g q lb τ) → va_S A s.heap H locs → lv_has ls 3 [(0, .ref (q 0)), (1, .int (I u1))] → W p l e ({ frames := 4, cells := 0, slots := 0, locals := 93 }) s m [.ref (q 0), .int (I n1)].toArray below meth c H locs 0 0 (MQ below (QV g A (p_V (MX g q lb) [4, 6, 16, 17, 18, 19, 20, 21] [12, 15, 16, 17] [] σ Q)) [.ref (q 0), .int (I n1)].toArray s 0 0 A) (F0 m 174 ls [.int (I k2), .int (I k1), .ref (q 0)]))) := ⟨_, fun _ _ _ _ => Iff.rfl⟩
  refine (fun hw => ?_) (hw P15 P26 P85 P116 P125 P153 P174 ?_ ?_ ?_ ?_ ?_ ?_ ?_)
  ·
    refine lv_aload_n hx hb dX13_readSymbols_0 rfl (lv_at hl 0 rfl) ?_
    obtain ⟨Q1, hc, hw⟩ := hw
    refine wc_V (X := MX g q lb) (va_runV (As := []) (rest := []) ⟨hx, hb, hml, hown, hts⟩ (L_X13_next l g q lb hlb  hN hc H.size) (cwV 0 hts (TB_V tw_2536 tw_2538 ts_104 tw_15 co_X13_next) rfl rfl rfl (by decide +kernel) ⟨Nat.le_of_ble_eq_true rfl, Nat.le_of_ble_eq_true rfl⟩) (preV (q0 := 0) (ci := 13) rfl xT_bl hP hK hNb hD rfl rfl xT_at) rfl rfl hl.1 rfl (lv_room (Nat.le_of_ble_eq_true rfl)) dX13_readSymbols_1 ⟨Nat.le_of_ble_eq_true rfl, Nat.le_of_ble_eq_true rfl⟩) hP hD hS hA (fun τ3 H locs hN hf hq hP hD hS => ?_)
    replace hw := hw τ3 hN hf hq
    have hF : f_r [4, 6, 16, 17, 18, 19, 20, 21] [12, 15, 16, 17] [] σ τ3 := f_t hF hf (by decide) (by decide) (by decide)
    have hB := hN
    refine lv_aload_n hx hb dX13_readSymbols_4 rfl (lv_at hl 0 rfl) ?_
    refine gfX13_fault hx hb hts hK hP hown (hts _ tw_2065) (x := τ3.1 20) rfl dX13_readSymbols_5 ?_
    refine bi_if_ne (tgt := 15) hx hb (hB.1 20) dX13_readSymbols_8 (by decide) (fun c4 => ?_) (fun c4 => ?_)
    ·
      replace hw := hw.1 c4
      exact (hP15 _ _).mp hw r_n1 hN hF H locs ls hP hD hS (lv_sub hl [0, 1] rfl)
    ·
      replace hw := hw.2 c4
      refine lv_aload_n hx hb dX13_readSymbols_11 rfl (lv_at hl 0 rfl) ?_
      obtain ⟨Q5, hc, hw⟩ := hw
      refine wc_V (X := MX g q lb) (va_runV (As := []) (rest := []) ⟨hx, hb, hml, hown, hts⟩ (L_X13_readFirst l g q lb hlb  hN hc H.size) (cwV 0 hts (TB_V tw_2629 tw_2631 ts_122 tw_15 co_X13_readFirst) rfl rfl rfl (by decide +kernel) ⟨Nat.le_of_ble_eq_true rfl, Nat.le_of_ble_eq_true rfl⟩) (preV (q0 := 0) (ci := 13) rfl xT_bl hP hK hNb hD rfl rfl xT_at) rfl rfl hl.1 rfl (lv_room (Nat.le_of_ble_eq_true rfl)) dX13_readSymbols_12 ⟨Nat.le_of_ble_eq_true rfl, Nat.le_of_ble_eq_true rfl⟩) hP hD hS hA (fun τ7 H locs hN hf hq hP hD hS => ?_)
      replace hw := hw τ7 hN hf hq
      have hF : f_r [4, 6, 16, 17, 18, 19, 20, 21] [12, 15, 16, 17] [] σ τ7 := f_t hF hf (by decide) (by decide) (by decide)
      have hB := hN
      exact (hP15 _ _).mp hw r_n1 hN hF H locs ls hP hD hS (lv_sub hl [0, 1] rfl)
  ·
    intro u1 τ hw
    refine (hP15 _ _).mpr ?_
    intro r_u1 hN hF H locs ls hP hD hS hl
    have hB := hN
    refine lv_aload_n hx hb dX13_readSymbols_15 rfl (lv_at hl 0 rfl) ?_
    refine gfX13_fault hx hb hts hK hP hown (hts _ tw_2065) (x := τ.1 20) rfl dX13_readSymbols_16 ?_
    refine bi_if_ne (tgt := 26) hx hb (hB.1 20) dX13_readSymbols_19 (by decide) (fun c8 => ?_) (fun c8 => ?_)
    ·
      replace hw := hw.1 c8
      exact (hP26 _ _).mp hw r_u1 hN hF H locs ls hP hD hS (lv_sub hl [0, 1] rfl)
    ·
      replace hw := hw.2 c8
      refine lv_aload_n hx hb dX13_readSymbols_22 rfl (lv_at hl 0 rfl) ?_
      obtain ⟨Q9, hc, hw⟩ := hw
      refine wc_V (X := MX g q lb) (va_runV (As := []) (rest := []) ⟨hx, hb, hml, hown, hts⟩ (L_X13_next l g q lb hlb  hN hc H.size) (cwV 0 hts (TB_V tw_2536 tw_2538 ts_104 tw_15 co_X13_next) rfl rfl rfl (by decide +kernel) ⟨Nat.le_of_ble_eq_true rfl, Nat.le_of_ble_eq_true rfl⟩) (preV (q0 := 0) (ci := 13) rfl xT_bl hP hK hNb hD rfl rfl xT_at) rfl rfl hl.1 rfl (lv_room (Nat.le_of_ble_eq_true rfl)) dX13_readSymbols_23 ⟨Nat.le_of_ble_eq_true rfl, Nat.le_of_ble_eq_true rfl⟩) hP hD hS hA (fun τ11 H locs hN hf hq hP hD hS => ?_)
      replace hw := hw τ11 hN hf hq
      have hF : f_r [4, 6, 16, 17, 18, 19, 20, 21] [12, 15, 16, 17] [] σ τ11 := f_t hF hf (by decide) (by decide) (by decide)
      have hB := hN
      exact (hP26 _ _).mp hw r_u1 hN hF H locs ls hP hD hS (lv_sub hl [0, 1] rfl)
  ·
    intro u1 τ hw
    refine (hP26 _ _).mpr ?_
    intro r_u1 hN hF H locs ls hP hD hS hl
    have hB := hN
    refine lv_aload_n hx hb dX13_readSymbols_26 rfl (lv_at hl 0 rfl) ?_
    refine gfX13_fault hx hb hts hK hP hown (hts _ tw_2065) (x := τ.1 20) rfl dX13_readSymbols_27 ?_
    refine bi_if_ne (tgt := 184) hx hb (hB.1 20) dX13_readSymbols_30 (by decide) (fun c12 => ?_) (fun c12 => ?_)
    ·
      replace hw := hw.1 c12
      exact xrv hx hb hr hlk hP hK hD hS ⟨_, hN, hF, rfl, hw⟩ (Nat.le_of_ble_eq_true rfl) (Nat.le_of_ble_eq_true rfl) dX13_readSymbols_184
    ·
      replace hw := hw.2 c12
      refine lv_aload_n hx hb dX13_readSymbols_33 rfl (lv_at hl 0 rfl) ?_
      refine gfX13_token hx hb hts hK hP hown (hts _ tw_2064) (x := τ.1 19) rfl dX13_readSymbols_34 ?_
      refine lv_iload_n hx hb dX13_readSymbols_37 rfl (lv_at hl 1 rfl) ?_
      refine bi_icmp_eq (tgt := 184) hx hb (hB.1 19) r_u1 dX13_readSymbols_38 (by decide) (fun c13 => ?_) (fun c13 => ?_)
      ·
        replace hw := hw.1 c13
        exact xrv hx hb hr hlk hP hK hD hS ⟨_, hN, hF, rfl, hw⟩ (Nat.le_of_ble_eq_true rfl) (Nat.le_of_ble_eq_true rfl) dX13_readSymbols_184
      ·
        replace hw := hw.2 c13
        refine lv_aload_n hx hb dX13_readSymbols_41 rfl (lv_at hl 0 rfl) ?_
        refine gfX13_token hx hb hts hK hP hown (hts _ tw_2064) (x := τ.1 19) rfl dX13_readSymbols_42 ?_
        refine lv_iconst (v := I 1) hx hb dX13_readSymbols_45 rfl ?_
        refine bi_icmp_eq (tgt := 55) hx hb (hB.1 19) (by decide) dX13_readSymbols_46 (by decide) (fun c14 => ?_) (fun c14 => ?_)
        ·
          replace hw := hw.1 c14
          refine lv_aload_n hx hb dX13_readSymbols_55 rfl (lv_at hl 0 rfl) ?_
          obtain ⟨Q15, hc, hw⟩ := hw
          refine wc_i (X := MX g q lb) (va_runV (As := []) (rest := []) ⟨hx, hb, hml, hown, hts⟩ (L_X13_symbolHere l g q lb hlb  hN hc H.size) (cwV 0 hts (TB_V tw_2609 tw_2611 ts_117 tw_15 co_X13_symbolHere) rfl rfl rfl (by decide +kernel) ⟨Nat.le_of_ble_eq_true rfl, Nat.le_of_ble_eq_true rfl⟩) (preV (q0 := 0) (ci := 13) rfl xT_bl hP hK hNb hD rfl rfl xT_at) rfl rfl hl.1 rfl (lv_room (Nat.le_of_ble_eq_true rfl)) dX13_readSymbols_56 ⟨Nat.le_of_ble_eq_true rfl, Nat.le_of_ble_eq_true rfl⟩) hP hD hS hA (fun x16 H locs r_x16 hq hP hD hS => ?_)
          replace hw := hw x16 r_x16 hq
          refine lv_istore_n (lv' := [(2, .int (I x16)), (0, .ref (q 0)), (1, .int (I u1))]) hx hb dX13_readSymbols_59 rfl hl (by decide) rfl (fun ls hl => ?_)
          refine lv_aload_n hx hb dX13_readSymbols_60 rfl (lv_at hl 1 rfl) ?_
          refine gfX13_textSize hx hb hts hK hP hown (hts _ tw_2027) dX13_readSymbols_61 ?_
          refine lv_aload_n hx hb dX13_readSymbols_64 rfl (lv_at hl 1 rfl) ?_
          refine gfX13_now hx hb hts hK hP hown (hts _ tw_2068) (x := τ.1 22) rfl dX13_readSymbols_65 ?_
          obtain ⟨c18, hw⟩ := hw
          refine ldMX13_textSize hx hb hK hP hN c18 dX13_readSymbols_68 (fun x19 r_x19 e_x19 => ?_)
          replace hw := hw x19 r_x19 e_x19
          refine lv_sipush (v := I 300) hx hb dX13_readSymbols_69 (by decide) ?_
          refine bi_icmp_eq (tgt := 85) hx hb r_x19 (by decide) dX13_readSymbols_72 (by decide) (fun c20 => ?_) (fun c20 => ?_)
          ·
            replace hw := hw.1 c20
            exact (hP85 _ _).mp hw r_u1 hN hF H locs ls hP hD hS (lv_sub hl [1, 2] rfl)
          ·
            replace hw := hw.2 c20
            refine lv_aload_n hx hb dX13_readSymbols_75 rfl (lv_at hl 1 rfl) ?_
            refine gfX13_textCount hx hb hts hK hP hown (hts _ tw_2030) (x := τ.1 6) rfl dX13_readSymbols_76 ?_
            refine lv_sipush (v := I 30000) hx hb dX13_readSymbols_79 (by decide) ?_
            refine bi_icmp_ne (tgt := 93) hx hb (hB.1 6) (by decide) dX13_readSymbols_82 (by decide) (fun c21 => ?_) (fun c21 => ?_)
            ·
              replace hw := hw.1 c21
              refine lv_iload_n hx hb dX13_readSymbols_93 rfl (lv_at hl 0 rfl) ?_
              refine lv_iconst (v := I (-1)) hx hb dX13_readSymbols_94 rfl ?_
              refine bi_icmp_eq (tgt := 116) hx hb r_x16 (by decide) dX13_readSymbols_95 (by decide) (fun c22 => ?_) (fun c22 => ?_)
              ·
                replace hw := hw.1 c22
                exact (hP116 _ _).mp hw r_u1 hN hF H locs ls hP hD hS (lv_sub hl [1, 2] rfl)
              ·
                replace hw := hw.2 c22
                refine lv_aload_n hx hb dX13_readSymbols_98 rfl (lv_at hl 1 rfl) ?_
                refine gfX13_isVariable hx hb hts hK hP hown (hts _ tw_2018) dX13_readSymbols_99 ?_
                refine lv_iload_n hx hb dX13_readSymbols_102 rfl (lv_at hl 0 rfl) ?_
                obtain ⟨c23, hw⟩ := hw
                refine ldMX13_isVariable hx hb hK hP hN c23 dX13_readSymbols_103 (fun x24 r_x24 e_x24 => ?_)
                replace hw := hw x24 r_x24 e_x24
                refine bi_if_eq (tgt := 125) hx hb r_x24 dX13_readSymbols_104 (by decide) (fun c25 => ?_) (fun c25 => ?_)
                ·
                  replace hw := hw.1 c25
                  exact (hP125 _ _ _).mp hw r_u1 r_x16 hN hF H locs ls hP hD hS (lv_sub hl [1, 2, 0] rfl)
                ·
                  replace hw := hw.2 c25
                  refine lv_aload_n hx hb dX13_readSymbols_107 rfl (lv_at hl 1 rfl) ?_
                  refine gfX13_isActive hx hb hts hK hP hown (hts _ tw_2019) dX13_readSymbols_108 ?_
                  refine lv_iload_n hx hb dX13_readSymbols_111 rfl (lv_at hl 0 rfl) ?_
                  refine ldMX13_isActive hx hb hK hP hN c23 dX13_readSymbols_112 (fun x26 r_x26 e_x26 => ?_)
                  replace hw := hw x26 r_x26 e_x26
                  refine bi_if_ne (tgt := 125) hx hb r_x26 dX13_readSymbols_113 (by decide) (fun c27 => ?_) (fun c27 => ?_)
                  ·
                    replace hw := hw.1 c27
                    exact (hP125 _ _ _).mp hw r_u1 r_x16 hN hF H locs ls hP hD hS (lv_sub hl [1, 2, 0] rfl)
                  ·
                    replace hw := hw.2 c27
                    exact (hP116 _ _).mp hw r_u1 hN hF H locs ls hP hD hS (lv_sub hl [1, 2] rfl)
            ·
              replace hw := hw.2 c21
              exact (hP85 _ _).mp hw r_u1 hN hF H locs ls hP hD hS (lv_sub hl [1, 2] rfl)
        ·
          replace hw := hw.2 c14
          refine lv_aload_n hx hb dX13_readSymbols_49 rfl (lv_at hl 0 rfl) ?_
          refine lv_iconst (v := I 4) hx hb dX13_readSymbols_50 rfl ?_
          obtain ⟨Q28, hc, hw⟩ := hw
          refine wc_V (X := MX g q lb) (va_runV (As := [.int (I 4)]) (rest := []) ⟨hx, hb, hml, hown, hts⟩ (L_X13_failHere l g q lb hlb (by decide) hN hc H.size) (cwV 1 hts (TB_V tw_2585 tw_2587 ts_114 tw_15 co_X13_failHere) rfl rfl rfl (by decide +kernel) ⟨Nat.le_of_ble_eq_true rfl, Nat.le_of_ble_eq_true rfl⟩) (preV (q0 := 0) (ci := 13) rfl xT_bl hP hK hNb hD rfl rfl xT_at) rfl rfl hl.1 rfl (lv_room (Nat.le_of_ble_eq_true rfl)) dX13_readSymbols_51 ⟨Nat.le_of_ble_eq_true rfl, Nat.le_of_ble_eq_true rfl⟩) hP hD hS hA (fun τ30 H locs hN hf hq hP hD hS => ?_)
          replace hw := hw τ30 hN hf hq
          have hF : f_r [4, 6, 16, 17, 18, 19, 20, 21] [12, 15, 16, 17] [] σ τ30 := f_t hF hf (by decide) (by decide) (by decide)
          have hB := hN
          exact xrv hx hb hr hlk hP hK hD hS ⟨_, hN, hF, rfl, hw⟩ (Nat.le_of_ble_eq_true rfl) (Nat.le_of_ble_eq_true rfl) dX13_readSymbols_54
  ·
    intro u1 τ hw
    refine (hP85 _ _).mpr ?_
    intro r_u1 hN hF H locs ls hP hD hS hl
    have hB := hN
    refine lv_aload_n hx hb dX13_readSymbols_85 rfl (lv_at hl 0 rfl) ?_
    refine lv_iconst (v := I 5) hx hb dX13_readSymbols_86 rfl ?_
    obtain ⟨Q31, hc, hw⟩ := hw
    refine wc_V (X := MX g q lb) (va_runV (As := [.int (I 5)]) (rest := []) ⟨hx, hb, hml, hown, hts⟩ (L_X13_failHere l g q lb hlb (by decide) hN hc H.size) (cwV 1 hts (TB_V tw_2585 tw_2587 ts_114 tw_15 co_X13_failHere) rfl rfl rfl (by decide +kernel) ⟨Nat.le_of_ble_eq_true rfl, Nat.le_of_ble_eq_true rfl⟩) (preV (q0 := 0) (ci := 13) rfl xT_bl hP hK hNb hD rfl rfl xT_at) rfl rfl hl.1 rfl (lv_room (Nat.le_of_ble_eq_true rfl)) dX13_readSymbols_87 ⟨Nat.le_of_ble_eq_true rfl, Nat.le_of_ble_eq_true rfl⟩) hP hD hS hA (fun τ33 H locs hN hf hq hP hD hS => ?_)
    replace hw := hw τ33 hN hf hq
    have hF : f_r [4, 6, 16, 17, 18, 19, 20, 21] [12, 15, 16, 17] [] σ τ33 := f_t hF hf (by decide) (by decide) (by decide)
    have hB := hN
    refine lv_goto (tgt := 181) hx hb dX13_readSymbols_90 (by decide) ?_
    refine lv_goto (tgt := 26) hx hb dX13_readSymbols_181 (by decide) ?_
    exact (hP26 _ _).mp hw r_u1 hN hF H locs ls hP hD hS (lv_sub hl [0, 1] rfl)
  ·
    intro u1 τ hw
    refine (hP116 _ _).mpr ?_
    intro r_u1 hN hF H locs ls hP hD hS hl
    have hB := hN
    refine lv_aload_n hx hb dX13_readSymbols_116 rfl (lv_at hl 0 rfl) ?_
    refine lv_bipush (v := I 9) hx hb dX13_readSymbols_117 (by decide) ?_
    obtain ⟨Q34, hc, hw⟩ := hw
    refine wc_V (X := MX g q lb) (va_runV (As := [.int (I 9)]) (rest := []) ⟨hx, hb, hml, hown, hts⟩ (L_X13_failHere l g q lb hlb (by decide) hN hc H.size) (cwV 1 hts (TB_V tw_2585 tw_2587 ts_114 tw_15 co_X13_failHere) rfl rfl rfl (by decide +kernel) ⟨Nat.le_of_ble_eq_true rfl, Nat.le_of_ble_eq_true rfl⟩) (preV (q0 := 0) (ci := 13) rfl xT_bl hP hK hNb hD rfl rfl xT_at) rfl rfl hl.1 rfl (lv_room (Nat.le_of_ble_eq_true rfl)) dX13_readSymbols_119 ⟨Nat.le_of_ble_eq_true rfl, Nat.le_of_ble_eq_true rfl⟩) hP hD hS hA (fun τ36 H locs hN hf hq hP hD hS => ?_)
    replace hw := hw τ36 hN hf hq
    have hF : f_r [4, 6, 16, 17, 18, 19, 20, 21] [12, 15, 16, 17] [] σ τ36 := f_t hF hf (by decide) (by decide) (by decide)
    have hB := hN
    refine lv_goto (tgt := 181) hx hb dX13_readSymbols_122 (by decide) ?_
    refine lv_goto (tgt := 26) hx hb dX13_readSymbols_181 (by decide) ?_
    exact (hP26 _ _).mp hw r_u1 hN hF H locs ls hP hD hS (lv_sub hl [0, 1] rfl)
  ·
    intro u1 u2 τ hw
    refine (hP125 _ _ _).mpr ?_
    intro r_u1 r_u2 hN hF H locs ls hP hD hS hl
    have hB := hN
    refine lv_aload_n hx hb dX13_readSymbols_125 rfl (lv_at hl 0 rfl) ?_
    refine gfX13_isVariable hx hb hts hK hP hown (hts _ tw_2018) dX13_readSymbols_126 ?_
    refine lv_iload_n hx hb dX13_readSymbols_129 rfl (lv_at hl 2 rfl) ?_
    obtain ⟨c37, hw⟩ := hw
    refine ldMX13_isVariable hx hb hK hP hN c37 dX13_readSymbols_130 (fun x38 r_x38 e_x38 => ?_)
    replace hw := hw x38 r_x38 e_x38
    refine bi_if_eq (tgt := 153) hx hb r_x38 dX13_readSymbols_131 (by decide) (fun c39 => ?_) (fun c39 => ?_)
    ·
      replace hw := hw.1 c39
      exact (hP153 _ _ _).mp hw r_u1 r_u2 hN hF H locs ls hP hD hS (lv_sub hl [0, 1, 2] rfl)
    ·
      replace hw := hw.2 c39
      refine lv_aload_n hx hb dX13_readSymbols_134 rfl (lv_at hl 0 rfl) ?_
      refine gfX13_floatOf hx hb hts hK hP hown (hts _ tw_2021) dX13_readSymbols_135 ?_
      refine lv_iload_n hx hb dX13_readSymbols_138 rfl (lv_at hl 2 rfl) ?_
      refine ldMX13_floatOf hx hb hK hP hN c37 dX13_readSymbols_139 (fun x40 r_x40 e_x40 => ?_)
      replace hw := hw x40 r_x40 e_x40
      refine lv_iconst (v := I (-1)) hx hb dX13_readSymbols_140 rfl ?_
      refine bi_icmp_ne (tgt := 153) hx hb r_x40 (by decide) dX13_readSymbols_141 (by decide) (fun c41 => ?_) (fun c41 => ?_)
      ·
        replace hw := hw.1 c41
        exact (hP153 _ _ _).mp hw r_u1 r_u2 hN hF H locs ls hP hD hS (lv_sub hl [0, 1, 2] rfl)
      ·
        replace hw := hw.2 c41
        refine lv_aload_n hx hb dX13_readSymbols_144 rfl (lv_at hl 0 rfl) ?_
        refine lv_bipush (v := I 11) hx hb dX13_readSymbols_145 (by decide) ?_
        obtain ⟨Q42, hc, hw⟩ := hw
        refine wc_V (X := MX g q lb) (va_runV (As := [.int (I 11)]) (rest := []) ⟨hx, hb, hml, hown, hts⟩ (L_X13_failHere l g q lb hlb (by decide) hN hc H.size) (cwV 1 hts (TB_V tw_2585 tw_2587 ts_114 tw_15 co_X13_failHere) rfl rfl rfl (by decide +kernel) ⟨Nat.le_of_ble_eq_true rfl, Nat.le_of_ble_eq_true rfl⟩) (preV (q0 := 0) (ci := 13) rfl xT_bl hP hK hNb hD rfl rfl xT_at) rfl rfl hl.1 rfl (lv_room (Nat.le_of_ble_eq_true rfl)) dX13_readSymbols_147 ⟨Nat.le_of_ble_eq_true rfl, Nat.le_of_ble_eq_true rfl⟩) hP hD hS hA (fun τ44 H locs hN hf hq hP hD hS => ?_)
        replace hw := hw τ44 hN hf hq
        have hF : f_r [4, 6, 16, 17, 18, 19, 20, 21] [12, 15, 16, 17] [] σ τ44 := f_t hF hf (by decide) (by decide) (by decide)
        have hB := hN
        refine lv_goto (tgt := 181) hx hb dX13_readSymbols_150 (by decide) ?_
        refine lv_goto (tgt := 26) hx hb dX13_readSymbols_181 (by decide) ?_
        exact (hP26 _ _).mp hw r_u1 hN hF H locs ls hP hD hS (lv_sub hl [0, 1] rfl)
  ·
    intro u1 u2 τ hw
    refine (hP153 _ _ _).mpr ?_
    intro r_u1 r_u2 hN hF H locs ls hP hD hS hl
    have hB := hN
    refine lv_aload_n hx hb dX13_readSymbols_153 rfl (lv_at hl 0 rfl) ?_
    refine lv_iload_n hx hb dX13_readSymbols_154 rfl (lv_at hl 2 rfl) ?_
    refine lv_aload_n hx hb dX13_readSymbols_155 rfl (lv_at hl 0 rfl) ?_
    refine gfX13_isVariable hx hb hts hK hP hown (hts _ tw_2018) dX13_readSymbols_156 ?_
    refine lv_iload_n hx hb dX13_readSymbols_159 rfl (lv_at hl 2 rfl) ?_
    obtain ⟨c45, hw⟩ := hw
    refine ldMX13_isVariable hx hb hK hP hN c45 dX13_readSymbols_160 (fun x46 r_x46 e_x46 => ?_)
    replace hw := hw x46 r_x46 e_x46
    refine bi_if_eq (tgt := 173) hx hb r_x46 dX13_readSymbols_161 (by decide) (fun c47 => ?_) (fun c47 => ?_)
    ·
      replace hw := hw.1 c47
      refine lv_iconst (v := I (-1)) hx hb dX13_readSymbols_173 rfl ?_
      exact (hP174 _ _ _ _).mp hw r_u1 r_u2 (by decide) hN hF H locs ls hP hD hS (lv_sub hl [0, 1] rfl)
    ·
      replace hw := hw.2 c47
      refine lv_aload_n hx hb dX13_readSymbols_164 rfl (lv_at hl 0 rfl) ?_
      refine gfX13_floatOf hx hb hts hK hP hown (hts _ tw_2021) dX13_readSymbols_165 ?_
      refine lv_iload_n hx hb dX13_readSymbols_168 rfl (lv_at hl 2 rfl) ?_
      refine ldMX13_floatOf hx hb hK hP hN c45 dX13_readSymbols_169 (fun x48 r_x48 e_x48 => ?_)
      replace hw := hw x48 r_x48 e_x48
      refine lv_goto (tgt := 174) hx hb dX13_readSymbols_170 (by decide) ?_
      exact (hP174 _ _ _ _).mp hw r_u1 r_u2 r_x48 hN hF H locs ls hP hD hS (lv_sub hl [0, 1] rfl)
  ·
    intro u1 k1 k2 τ hw
    refine (hP174 _ _ _ _).mpr ?_
    intro r_u1 r_k1 r_k2 hN hF H locs ls hP hD hS hl
    have hB := hN
    obtain ⟨Q49, hc, hw⟩ := hw
    refine wc_V (X := MX g q lb) (va_runV (As := [.int (I k1), .int (I k2)]) (rest := []) ⟨hx, hb, hml, hown, hts⟩ (L_X13_addSymbol l g q lb hlb r_k1 r_k2 hN hc H.size) (cwV 2 hts (TB_V tw_2633 tw_2635 ts_123 tw_15 co_X13_addSymbol) rfl rfl rfl (by decide +kernel) ⟨Nat.le_of_ble_eq_true rfl, Nat.le_of_ble_eq_true rfl⟩) (preV (q0 := 0) (ci := 13) rfl xT_bl hP hK hNb hD rfl rfl xT_at) rfl rfl hl.1 rfl (lv_room (Nat.le_of_ble_eq_true rfl)) dX13_readSymbols_174 ⟨Nat.le_of_ble_eq_true rfl, Nat.le_of_ble_eq_true rfl⟩) hP hD hS hA (fun τ51 H locs hN hf hq hP hD hS => ?_)
    replace hw := hw τ51 hN hf hq
    have hF : f_r [4, 6, 16, 17, 18, 19, 20, 21] [12, 15, 16, 17] [] σ τ51 := f_t hF hf (by decide) (by decide) (by decide)
    have hB := hN
    refine lv_aload_n hx hb dX13_readSymbols_177 rfl (lv_at hl 0 rfl) ?_
    obtain ⟨Q52, hc, hw⟩ := hw
    refine wc_V (X := MX g q lb) (va_runV (As := []) (rest := []) ⟨hx, hb, hml, hown, hts⟩ (L_X13_next l g q lb hlb  hN hc H.size) (cwV 0 hts (TB_V tw_2536 tw_2538 ts_104 tw_15 co_X13_next) rfl rfl rfl (by decide +kernel) ⟨Nat.le_of_ble_eq_true rfl, Nat.le_of_ble_eq_true rfl⟩) (preV (q0 := 0) (ci := 13) rfl xT_bl hP hK hNb hD rfl rfl xT_at) rfl rfl hl.1 rfl (lv_room (Nat.le_of_ble_eq_true rfl)) dX13_readSymbols_178 ⟨Nat.le_of_ble_eq_true rfl, Nat.le_of_ble_eq_true rfl⟩) hP hD hS hA (fun τ54 H locs hN hf hq hP hD hS => ?_)
    replace hw := hw τ54 hN hf hq
    have hF : f_r [4, 6, 16, 17, 18, 19, 20, 21] [12, 15, 16, 17] [] σ τ54 := f_t hF hf (by decide) (by decide) (by decide)
    have hB := hN
    refine lv_goto (tgt := 26) hx hb dX13_readSymbols_181 (by decide) ?_
    exact (hP26 _ _).mp hw r_u1 hN hF H locs ls hP hD hS (lv_sub hl [0, 1] rfl)
def W_X13_markOf (n1 : Int) (σ : S0) (Q : S0 → Prop) : Prop :=
  ∀ (P7 : Int → Int → S0 → Prop),
  (∀ (u1 : Int) (u2 : Int) (τ : S0), ((0 ≤ u1 ∧ u1 < 1501) ∧ (∀ (x4 : Int), rg x4 → x4 = τ.2.1 14 u1 → (∀ (x5 : Int), rg x5 → x5 = τ.2.1 15 u1 → (rg (x4 + x5) ∧ ((x4 + x5) ≤ u2 → Q τ) ∧ (u2 < (x4 + x5) → (0 ≤ u2 ∧ u2 < 30400) ∧ (∀ (x9 : Int), rg x9 → x9 = τ.2.1 16 u2 → ((0 ≤ x9 ∧ x9 < 1001) ∧ (rg (u2 + 1) ∧ P7 u1 (u2 + 1) (s_a τ 38 x9 1))))))))) → P7 u1 u2 τ) →
  (0 ≤ n1 ∧ n1 < 1501) ∧ (∀ (x2 : Int), rg x2 → x2 = σ.2.1 14 n1 → (P7 n1 x2 σ))
set_option maxRecDepth 100000 in
set_option maxHeartbeats 4000000 in
theorem L_X13_markOf (l : Launch) (g : gG) (q : Nat → Nat) (lb : Nat) (hlb : lb < 2 ^ 31) {n1 : Int} {σ : S0} {Q : S0 → Prop} (r_n1 : rg n1) (hN : n_m σ) (hw : W_X13_markOf n1 σ Q) (sz : Nat) : MetV l yX13_markOf cX13_markOf 3 { frames := 0, cells := 0, slots := 0, locals := 0 } g [.ref (q 0), .int (I n1)] (MX g q lb σ) sz xT (p_V (MX g q lb) [] [38] [] σ Q) 0 0 := by
  refine mkMet (Qc := fun A => QV g A (p_V (MX g q lb) [] [38] [] σ Q)) (by decide) (Nat.le_of_ble_eq_true rfl) ?_
  intro p e s m below meth c A H ls hx hb hr hml hown hts hlk hnm hsz hP hK hNb hD hA hAe hS hX hl
  have hl : lv_has ls 3 [(0, .ref (q 0)), (1, .int (I n1))] := hl
  have hB := hN
  have hF : f_r [] [38] [] σ σ := f_0
  obtain ⟨locs, hlocs⟩ : ∃ z : List Loc, z = [] := ⟨_, rfl⟩
  rw [← hlocs] at hS ⊢
  obtain ⟨P7, hP7⟩ : ∃ P : Int → Int → S0 → Prop, ∀ (u1 : Int) (u2 : Int) (τ : S0), (P u1 u2 τ ↔ (rg u1 → rg u2 → n_m τ → f_r [] [38] [] σ τ → ∀ (H : Heap) (locs : List Loc) (ls : Array Slot), KP g (MX g q lb τ) H → va_D A (MX g q lb τ) → va_S A s.heap H locs → lv_has ls 3 [(0, .ref (q 0)), (1, .int (I u1)), (2, .int (I u2))] → W p l e ({ frames := 0, cells := 0, slots := 0, locals := 0 }) s m [.ref (q 0), .int (I n1)].toArray below meth c H locs 0 0 (MQ below (QV g A (p_V (MX g q lb) [] [38] [] σ Q)) [.ref (q 0), .int (I n1)].toArray s 0 0 A) (F0 m 7 ls []))) := ⟨_, fun _ _ _ => Iff.rfl⟩
  refine (fun hw => ?_) (hw P7 ?_)
  ·
    refine lv_aload_n hx hb dX13_markOf_0 rfl (lv_at hl 0 rfl) ?_
    refine gfX13_textAt hx hb hts hK hP hown (hts _ tw_2026) dX13_markOf_1 ?_
    refine lv_iload_n hx hb dX13_markOf_4 rfl (lv_at hl 1 rfl) ?_
    obtain ⟨c1, hw⟩ := hw
    refine ldMX13_textAt hx hb hK hP hN c1 dX13_markOf_5 (fun x2 r_x2 e_x2 => ?_)
    replace hw := hw x2 r_x2 e_x2
    refine lv_istore_n (lv' := [(2, .int (I x2)), (0, .ref (q 0)), (1, .int (I n1))]) hx hb dX13_markOf_6 rfl hl (by decide) rfl (fun ls hl => ?_)
    exact (hP7 _ _ _).mp hw r_n1 r_x2 hN hF H locs ls hP hD hS (lv_sub hl [1, 2, 0] rfl)
  ·
    intro u1 u2 τ hw
    refine (hP7 _ _ _).mpr ?_
    intro r_u1 r_u2 hN hF H locs ls hP hD hS hl
    have hB := hN
    refine lv_iload_n hx hb dX13_markOf_7 rfl (lv_at hl 2 rfl) ?_
    refine lv_aload_n hx hb dX13_markOf_8 rfl (lv_at hl 0 rfl) ?_
    refine gfX13_textAt hx hb hts hK hP hown (hts _ tw_2026) dX13_markOf_9 ?_
    refine lv_iload_n hx hb dX13_markOf_12 rfl (lv_at hl 1 rfl) ?_
    obtain ⟨c3, hw⟩ := hw
    refine ldMX13_textAt hx hb hK hP hN c3 dX13_markOf_13 (fun x4 r_x4 e_x4 => ?_)
    replace hw := hw x4 r_x4 e_x4
    refine lv_aload_n hx hb dX13_markOf_14 rfl (lv_at hl 0 rfl) ?_
    refine gfX13_textSize hx hb hts hK hP hown (hts _ tw_2027) dX13_markOf_15 ?_
    refine lv_iload_n hx hb dX13_markOf_18 rfl (lv_at hl 1 rfl) ?_
    refine ldMX13_textSize hx hb hK hP hN c3 dX13_markOf_19 (fun x5 r_x5 e_x5 => ?_)
    replace hw := hw x5 r_x5 e_x5
    refine bi_iadd hx hb dX13_markOf_20 ?_
    obtain ⟨c6, hw⟩ := hw
    refine bi_icmp_ge (tgt := 42) hx hb r_u2 c6 dX13_markOf_21 (by decide) (fun c7 => ?_) (fun c7 => ?_)
    ·
      replace hw := hw.1 c7
      exact xrv hx hb hr hlk hP hK hD hS ⟨_, hN, hF, rfl, hw⟩ (Nat.le_of_ble_eq_true rfl) (Nat.le_of_ble_eq_true rfl) dX13_markOf_42
    ·
      replace hw := hw.2 c7
      refine lv_aload_n hx hb dX13_markOf_24 rfl (lv_at hl 0 rfl) ?_
      refine gfX13_isMarked hx hb hts hK hP hown (hts _ tw_2069) dX13_markOf_25 ?_
      refine lv_aload_n hx hb dX13_markOf_28 rfl (lv_at hl 0 rfl) ?_
      refine gfX13_texts hx hb hts hK hP hown (hts _ tw_2028) dX13_markOf_29 ?_
      refine lv_iload_n hx hb dX13_markOf_32 rfl (lv_at hl 2 rfl) ?_
      obtain ⟨c8, hw⟩ := hw
      refine ldMX13_texts hx hb hK hP hN c8 dX13_markOf_33 (fun x9 r_x9 e_x9 => ?_)
      replace hw := hw x9 r_x9 e_x9
      refine lv_iconst (v := I 1) hx hb dX13_markOf_34 rfl ?_
      obtain ⟨c10, hw⟩ := hw
      refine sdMX13_isMarked hx hb hK hP hD hS c10 (by decide) dX13_markOf_35 (fun H locs hP hD hS => ?_)
      have hN : n_m (s_a τ 38 x9 1) := n_a (k := 38) (j := x9) hN ((by decide) : rg 1)
      have hF : f_r [] [38] [] σ (s_a τ 38 x9 1) := f_a hF (by decide)
      refine lv_iinc (v := I (u2 + 1)) (lv' := [(2, .int (I (u2 + 1))), (0, .ref (q 0)), (1, .int (I u1))]) hx hb dX13_markOf_36 hl (k := 2) rfl (I_add _ _) (by decide) rfl (fun ls hl => ?_)
      refine lv_goto (tgt := 7) hx hb dX13_markOf_39 (by decide) ?_
      obtain ⟨c11, hw⟩ := hw
      exact (hP7 _ _ _).mp hw r_u1 c11 hN hF H locs ls hP hD hS (lv_sub hl [1, 2, 0] rfl)
def W_X13_makeFrame (σ : S0) (Q : S0 → Prop) : Prop :=
  ∀ (P2 : Int → S0 → Prop) (P33 : Int → S0 → Prop) (P74 : Int → S0 → Prop) (P120 : Int → Int → S0 → Prop) (P181 : Int → S0 → Prop),
  (∀ (u1 : Int) (τ : S0), ((τ.1 3 ≤ u1 → ∃ (Q2 : S0 → Prop), W_X13_markOf (τ.1 22) τ Q2 ∧ ∀ (τ4 : S0), n_m τ4 → f_r [] [38] [] τ τ4 → Q2 τ4 → (P33 0 τ4)) ∧ (u1 < τ.1 3 → (0 ≤ u1 ∧ u1 < 1001) ∧ (rg (u1 + 1) ∧ P2 (u1 + 1) (s_a τ 38 u1 0)))) → P2 u1 τ) →
  (∀ (u1 : Int) (τ : S0), ((τ.1 13 ≤ u1 → P74 0 τ) ∧ (u1 < τ.1 13 → (0 ≤ u1 ∧ u1 < 1501) ∧ (∀ (x9 : Int), rg x9 → x9 = τ.2.1 31 u1 → ((0 ≤ x9 ∧ x9 < 1501) ∧ (∀ (x11 : Int), rg x11 → x11 = τ.2.1 13 x9 → ((¬ x11 = 1 → rg (u1 + 1) ∧ P33 (u1 + 1) τ) ∧ (x11 = 1 → ∀ (x14 : Int), rg x14 → x14 = τ.2.1 31 u1 → (∃ (Q15 : S0 → Prop), W_X13_markOf x14 τ Q15 ∧ ∀ (τ17 : S0), n_m τ17 → f_r [] [38] [] τ τ17 → Q15 τ17 → (rg (u1 + 1) ∧ P33 (u1 + 1) τ17))))))))) → P33 u1 τ) →
  (∀ (u1 : Int) (τ : S0), ((τ.1 13 ≤ u1 → P181 0 τ) ∧ (u1 < τ.1 13 → (0 ≤ u1 ∧ u1 < 1501) ∧ (∀ (x21 : Int), rg x21 → x21 = τ.2.1 31 u1 → ((0 ≤ x21 ∧ x21 < 1501) ∧ (∀ (x23 : Int), rg x23 → x23 = τ.2.1 13 x21 → ((x23 = 1 → P120 u1 x21 τ) ∧ (¬ x23 = 1 → ∀ (x25 : Int), rg x25 → x25 = τ.2.1 14 x21 → ((0 ≤ (x25 + 1) ∧ (x25 + 1) < 30400) ∧ (∀ (x27 : Int), rg x27 → x27 = τ.2.1 16 (x25 + 1) → ((0 ≤ x27 ∧ x27 < 1001) ∧ (∀ (x29 : Int), rg x29 → x29 = τ.2.1 38 x27 → ((x29 = 0 → rg (u1 + 1) ∧ P74 (u1 + 1) τ) ∧ (¬ x29 = 0 → P120 u1 x21 τ))))))))))))) → P74 u1 τ) →
  (∀ (u1 : Int) (u2 : Int) (τ : S0), ((0 ≤ τ.1 22 ∧ τ.1 22 < 1501) ∧ (∀ (x57 : Int), rg x57 → x57 = τ.2.1 19 (τ.1 22) → ((¬ x57 = 60 → (0 ≤ τ.1 7 ∧ τ.1 7 < 90100) ∧ (rg (τ.1 7 + 1) ∧ ∀ (x61 : Int), rg x61 → x61 = τ.2.1 19 (τ.1 22) → (rg (x61 + 1) ∧ rg (u1 + 1) ∧ P74 (u1 + 1) (s_a (s_v (s_a τ 20 (τ.1 7) u2) 7 (τ.1 7 + 1)) 19 (τ.1 22) (x61 + 1))))) ∧ (x57 = 60 → ∃ (Q64 : S0 → Prop), W_X13_failHere 5 τ Q64 ∧ ∀ (τ66 : S0), n_m τ66 → f_r [20, 21] [] [] τ τ66 → Q64 τ66 → (Q τ66))))) → P120 u1 u2 τ) →
  (∀ (u1 : Int) (τ : S0), ((τ.1 14 ≤ u1 → Q τ) ∧ (u1 < τ.1 14 → (0 ≤ u1 ∧ u1 < 1001) ∧ (∀ (x34 : Int), rg x34 → x34 = τ.2.1 32 u1 → ((0 ≤ x34 ∧ x34 < 1001) ∧ (∀ (x36 : Int), rg x36 → x36 = τ.2.1 38 x34 → ((x36 = 0 → rg (u1 + 1) ∧ P181 (u1 + 1) τ) ∧ (¬ x36 = 0 → ∀ (x39 : Int), rg x39 → x39 = τ.2.1 33 u1 → ((0 ≤ x39 ∧ x39 < 1001) ∧ (∀ (x41 : Int), rg x41 → x41 = τ.2.1 38 x39 → ((x41 = 0 → rg (u1 + 1) ∧ P181 (u1 + 1) τ) ∧ (¬ x41 = 0 → (¬ τ.1 8 = 20000 → ∀ (x45 : Int), rg x45 → x45 = τ.2.1 32 u1 → ((0 ≤ τ.1 8 ∧ τ.1 8 < 20000) ∧ (∀ (x47 : Int), rg x47 → x47 = τ.2.1 33 u1 → (rg (τ.1 8 + 1) ∧ (0 ≤ τ.1 22 ∧ τ.1 22 < 1501) ∧ (∀ (x50 : Int), rg x50 → x50 = τ.2.1 22 (τ.1 22) → (rg (x50 + 1) ∧ rg (u1 + 1) ∧ P181 (u1 + 1) (s_a (s_v (s_a (s_a τ 23 (τ.1 8) x45) 24 (τ.1 8) x47) 8 (τ.1 8 + 1)) 22 (τ.1 22) (x50 + 1)))))))) ∧ (τ.1 8 = 20000 → ∃ (Q53 : S0 → Prop), W_X13_failHere 5 τ Q53 ∧ ∀ (τ55 : S0), n_m τ55 → f_r [20, 21] [] [] τ τ55 → Q53 τ55 → (Q τ55))))))))))))) → P181 u1 τ) →
  P2 0 σ
set_option maxRecDepth 100000 in
set_option maxHeartbeats 4000000 in
theorem L_X13_makeFrame (l : Launch) (g : gG) (q : Nat → Nat) (lb : Nat) (hlb : lb < 2 ^ 31) {σ : S0} {Q : S0 → Prop} (hN : n_m σ) (hw : W_X13_makeFrame σ Q) (sz : Nat) : MetV l yX13_makeFrame cX13_makeFrame 3 { frames := 2, cells := 0, slots := 0, locals := 43 } g [.ref (q 0)] (MX g q lb σ) sz xT (p_V (MX g q lb) [7, 8, 20, 21] [19, 20, 22, 23, 24, 38] [] σ Q) 0 0 := by
  refine mkMet (Qc := fun A => QV g A (p_V (MX g q lb) [7, 8, 20, 21] [19, 20, 22, 23, 24, 38] [] σ Q)) (by decide) (Nat.le_of_ble_eq_true rfl) ?_
  intro p e s m below meth c A H ls hx hb hr hml hown hts hlk hnm hsz hP hK hNb hD hA hAe hS hX hl
  have hl : lv_has ls 3 [(0, .ref (q 0))] := hl
  have hB := hN
  have hF : f_r [7, 8, 20, 21] [19, 20, 22, 23, 24, 38] [] σ σ := f_0
  obtain ⟨locs, hlocs⟩ : ∃ z : List Loc, z = [] := ⟨_, rfl⟩
  rw [← hlocs] at hS ⊢
  obtain ⟨P2, hP2⟩ : ∃ P : Int → S0 → Prop, ∀ (u1 : Int) (τ : S0), (P u1 τ ↔ (rg u1 → n_m τ → f_r [7, 8, 20, 21] [19, 20, 22, 23, 24, 38] [] σ τ → ∀ (H : Heap) (locs : List Loc) (ls : Array Slot), KP g (MX g q lb τ) H → va_D A (MX g q lb τ) → va_S A s.heap H locs → lv_has ls 3 [(0, .ref (q 0)), (1, .int (I u1))] → W p l e ({ frames := 2, cells := 0, slots := 0, locals := 43 }) s m [.ref (q 0)].toArray below meth c H locs 0 0 (MQ below (QV g A (p_V (MX g q lb) [7, 8, 20, 21] [19, 20, 22, 23, 24, 38] [] σ Q)) [.ref (q 0)].toArray s 0 0 A) (F0 m 2 ls []))) := ⟨_, fun _ _ => Iff.rfl⟩
  obtain ⟨P33, hP33⟩ : ∃ P : Int → S0 → Prop, ∀ (u1 : Int) (τ : S0), (P u1 τ ↔ (rg u1 → n_m τ → f_r [7, 8, 20, 21] [19, 20, 22, 23, 24, 38] [] σ τ → ∀ (H : Heap) (locs : List Loc) (ls : Array Slot), KP g (MX g q lb τ) H → va_D A (MX g q lb τ) → va_S A s.heap H locs → lv_has ls 3 [(0, .ref (q 0)), (1, .int (I u1))] → W p l e ({ frames := 2, cells := 0, slots := 0, locals := 43 }) s m [.ref (q 0)].toArray below meth c H locs 0 0 (MQ below (QV g A (p_V (MX g q lb) [7, 8, 20, 21] [19, 20, 22, 23, 24, 38] [] σ Q)) [.ref (q 0)].toArray s 0 0 A) (F0 m 33 ls []))) := ⟨_, fun _ _ => Iff.rfl⟩
  obtain ⟨P74, hP74⟩ : ∃ P : Int → S0 → Prop, ∀ (u1 : Int) (τ : S0), (P u1 τ ↔ (rg u1 → n_m τ → f_r [7, 8, 20, 21] [19, 20, 22, 23, 24, 38] [] σ τ → ∀ (H : Heap) (locs : List Loc) (ls : Array Slot), KP g (MX g q lb τ) H → va_D A (MX g q lb τ) → va_S A s.heap H locs → lv_has ls 3 [(0, .ref (q 0)), (1, .int (I u1))] → W p l e ({ frames := 2, cells := 0, slots := 0, locals := 43 }) s m [.ref (q 0)].toArray below meth c H locs 0 0 (MQ below (QV g A (p_V (MX g q lb) [7, 8, 20, 21] [19, 20, 22, 23, 24, 38] [] σ Q)) [.ref (q 0)].toArray s 0 0 A) (F0 m 74 ls []))) := ⟨_, fun _ _ => Iff.rfl⟩
  obtain ⟨P120, hP120⟩ : ∃ P : Int → Int → S0 → Prop, ∀ (u1 : Int) (u2 : Int) (τ : S0), (P u1 u2 τ ↔ (rg u1 → rg u2 → n_m τ → f_r [7, 8, 20, 21] [19, 20, 22, 23, 24, 38] [] σ τ → ∀ (H : Heap) (locs : List Loc) (ls : Array Slot), KP g (MX g q lb τ) H → va_D A (MX g q lb τ) → va_S A s.heap H locs → lv_has ls 3 [(0, .ref (q 0)), (1, .int (I u1)), (2, .int (I u2))] → W p l e ({ frames := 2, cells := 0, slots := 0, locals := 43 }) s m [.ref (q 0)].toArray below meth c H locs 0 0 (MQ below (QV g A (p_V (MX g q lb) [7, 8, 20, 21] [19, 20, 22, 23, 24, 38] [] σ Q)) [.ref (q 0)].toArray s 0 0 A) (F0 m 120 ls []))) := ⟨_, fun _ _ _ => Iff.rfl⟩
  obtain ⟨P181, hP181⟩ : ∃ P : Int → S0 → Prop, ∀ (u1 : Int) (τ : S0), (P u1 τ ↔ (rg u1 → n_m τ → f_r [7, 8, 20, 21] [19, 20, 22, 23, 24, 38] [] σ τ → ∀ (H : Heap) (locs : List Loc) (ls : Array Slot), KP g (MX g q lb τ) H → va_D A (MX g q lb τ) → va_S A s.heap H locs → lv_has ls 3 [(0, .ref (q 0)), (1, .int (I u1))] → W p l e ({ frames := 2, cells := 0, slots := 0, locals := 43 }) s m [.ref (q 0)].toArray below meth c H locs 0 0 (MQ below (QV g A (p_V (MX g q lb) [7, 8, 20, 21] [19, 20, 22, 23, 24, 38] [] σ Q)) [.ref (q 0)].toArray s 0 0 A) (F0 m 181 ls []))) := ⟨_, fun _ _ => Iff.rfl⟩
  refine (fun hw => ?_) (hw P2 P33 P74 P120 P181 ?_ ?_ ?_ ?_ ?_)
  ·
    refine lv_iconst (v := I 0) hx hb dX13_makeFrame_0 rfl ?_
    refine lv_istore_n (lv' := [(1, .int (I 0)), (0, .ref (q 0))]) hx hb dX13_makeFrame_1 rfl hl (by decide) rfl (fun ls hl => ?_)
    exact (hP2 _ _).mp hw (by decide) hN hF H locs ls hP hD hS (lv_sub hl [1, 0] rfl)
  ·
    intro u1 τ hw
    refine (hP2 _ _).mpr ?_
    intro r_u1 hN hF H locs ls hP hD hS hl
    have hB := hN
    refine lv_iload_n hx hb dX13_makeFrame_2 rfl (lv_at hl 1 rfl) ?_
    refine lv_aload_n hx hb dX13_makeFrame_3 rfl (lv_at hl 0 rfl) ?_
    refine gfX13_symbols hx hb hts hK hP hown (hts _ tw_2013) (x := τ.1 3) rfl dX13_makeFrame_4 ?_
    refine bi_icmp_ge (tgt := 23) hx hb r_u1 (hB.1 3) dX13_makeFrame_7 (by decide) (fun c1 => ?_) (fun c1 => ?_)
    ·
      replace hw := hw.1 c1
      refine lv_aload_n hx hb dX13_makeFrame_23 rfl (lv_at hl 0 rfl) ?_
      refine lv_aload_n hx hb dX13_makeFrame_24 rfl (lv_at hl 0 rfl) ?_
      refine gfX13_now hx hb hts hK hP hown (hts _ tw_2068) (x := τ.1 22) rfl dX13_makeFrame_25 ?_
      obtain ⟨Q2, hc, hw⟩ := hw
      refine wc_V (X := MX g q lb) (va_runV (As := [.int (I (τ.1 22))]) (rest := []) ⟨hx, hb, hml, hown, hts⟩ (L_X13_markOf l g q lb hlb (hB.1 22) hN hc H.size) (cwV 1 hts (TB_V tw_2661 tw_2663 ts_130 tw_15 co_X13_markOf) rfl rfl rfl (by decide +kernel) ⟨Nat.le_of_ble_eq_true rfl, Nat.le_of_ble_eq_true rfl⟩) (preV (q0 := 0) (ci := 13) rfl xT_bl hP hK hNb hD rfl rfl xT_at) rfl rfl hl.1 rfl (lv_room (Nat.le_of_ble_eq_true rfl)) dX13_makeFrame_28 ⟨Nat.le_of_ble_eq_true rfl, Nat.le_of_ble_eq_true rfl⟩) hP hD hS hA (fun τ4 H locs hN hf hq hP hD hS => ?_)
      replace hw := hw τ4 hN hf hq
      have hF : f_r [7, 8, 20, 21] [19, 20, 22, 23, 24, 38] [] σ τ4 := f_t hF hf (by decide) (by decide) (by decide)
      have hB := hN
      refine lv_iconst (v := I 0) hx hb dX13_makeFrame_31 rfl ?_
      refine lv_istore_n (lv' := [(1, .int (I 0)), (0, .ref (q 0))]) hx hb dX13_makeFrame_32 rfl hl (by decide) rfl (fun ls hl => ?_)
      exact (hP33 _ _).mp hw (by decide) hN hF H locs ls hP hD hS (lv_sub hl [1, 0] rfl)
    ·
      replace hw := hw.2 c1
      refine lv_aload_n hx hb dX13_makeFrame_10 rfl (lv_at hl 0 rfl) ?_
      refine gfX13_isMarked hx hb hts hK hP hown (hts _ tw_2069) dX13_makeFrame_11 ?_
      refine lv_iload_n hx hb dX13_makeFrame_14 rfl (lv_at hl 1 rfl) ?_
      refine lv_iconst (v := I 0) hx hb dX13_makeFrame_15 rfl ?_
      obtain ⟨c5, hw⟩ := hw
      refine sdMX13_isMarked hx hb hK hP hD hS c5 (by decide) dX13_makeFrame_16 (fun H locs hP hD hS => ?_)
      have hN : n_m (s_a τ 38 u1 0) := n_a (k := 38) (j := u1) hN ((by decide) : rg 0)
      have hF : f_r [7, 8, 20, 21] [19, 20, 22, 23, 24, 38] [] σ (s_a τ 38 u1 0) := f_a hF (by decide)
      refine lv_iinc (v := I (u1 + 1)) (lv' := [(1, .int (I (u1 + 1))), (0, .ref (q 0))]) hx hb dX13_makeFrame_17 hl (k := 1) rfl (I_add _ _) (by decide) rfl (fun ls hl => ?_)
      refine lv_goto (tgt := 2) hx hb dX13_makeFrame_20 (by decide) ?_
      obtain ⟨c6, hw⟩ := hw
      exact (hP2 _ _).mp hw c6 hN hF H locs ls hP hD hS (lv_sub hl [1, 0] rfl)
  ·
    intro u1 τ hw
    refine (hP33 _ _).mpr ?_
    intro r_u1 hN hF H locs ls hP hD hS hl
    have hB := hN
    refine lv_iload_n hx hb dX13_makeFrame_33 rfl (lv_at hl 1 rfl) ?_
    refine lv_aload_n hx hb dX13_makeFrame_34 rfl (lv_at hl 0 rfl) ?_
    refine gfX13_activeHypCount hx hb hts hK hP hown (hts _ tw_2052) (x := τ.1 13) rfl dX13_makeFrame_35 ?_
    refine bi_icmp_ge (tgt := 72) hx hb r_u1 (hB.1 13) dX13_makeFrame_38 (by decide) (fun c7 => ?_) (fun c7 => ?_)
    ·
      replace hw := hw.1 c7
      refine lv_iconst (v := I 0) hx hb dX13_makeFrame_72 rfl ?_
      refine lv_istore_n (lv' := [(1, .int (I 0)), (0, .ref (q 0))]) hx hb dX13_makeFrame_73 rfl hl (by decide) rfl (fun ls hl => ?_)
      exact (hP74 _ _).mp hw (by decide) hN hF H locs ls hP hD hS (lv_sub hl [1, 0] rfl)
    ·
      replace hw := hw.2 c7
      refine lv_aload_n hx hb dX13_makeFrame_41 rfl (lv_at hl 0 rfl) ?_
      refine gfX13_kindOf hx hb hts hK hP hown (hts _ tw_2025) dX13_makeFrame_42 ?_
      refine lv_aload_n hx hb dX13_makeFrame_45 rfl (lv_at hl 0 rfl) ?_
      refine gfX13_activeHyps hx hb hts hK hP hown (hts _ tw_2051) dX13_makeFrame_46 ?_
      refine lv_iload_n hx hb dX13_makeFrame_49 rfl (lv_at hl 1 rfl) ?_
      obtain ⟨c8, hw⟩ := hw
      refine ldMX13_activeHyps hx hb hK hP hN c8 dX13_makeFrame_50 (fun x9 r_x9 e_x9 => ?_)
      replace hw := hw x9 r_x9 e_x9
      obtain ⟨c10, hw⟩ := hw
      refine ldMX13_kindOf hx hb hK hP hN c10 dX13_makeFrame_51 (fun x11 r_x11 e_x11 => ?_)
      replace hw := hw x11 r_x11 e_x11
      refine lv_iconst (v := I 1) hx hb dX13_makeFrame_52 rfl ?_
      refine bi_icmp_ne (tgt := 66) hx hb r_x11 (by decide) dX13_makeFrame_53 (by decide) (fun c12 => ?_) (fun c12 => ?_)
      ·
        replace hw := hw.1 c12
        refine lv_iinc (v := I (u1 + 1)) (lv' := [(1, .int (I (u1 + 1))), (0, .ref (q 0))]) hx hb dX13_makeFrame_66 hl (k := 1) rfl (I_add _ _) (by decide) rfl (fun ls hl => ?_)
        refine lv_goto (tgt := 33) hx hb dX13_makeFrame_69 (by decide) ?_
        obtain ⟨c13, hw⟩ := hw
        exact (hP33 _ _).mp hw c13 hN hF H locs ls hP hD hS (lv_sub hl [1, 0] rfl)
      ·
        replace hw := hw.2 c12
        refine lv_aload_n hx hb dX13_makeFrame_56 rfl (lv_at hl 0 rfl) ?_
        refine lv_aload_n hx hb dX13_makeFrame_57 rfl (lv_at hl 0 rfl) ?_
        refine gfX13_activeHyps hx hb hts hK hP hown (hts _ tw_2051) dX13_makeFrame_58 ?_
        refine lv_iload_n hx hb dX13_makeFrame_61 rfl (lv_at hl 1 rfl) ?_
        refine ldMX13_activeHyps hx hb hK hP hN c8 dX13_makeFrame_62 (fun x14 r_x14 e_x14 => ?_)
        replace hw := hw x14 r_x14 e_x14
        obtain ⟨Q15, hc, hw⟩ := hw
        refine wc_V (X := MX g q lb) (va_runV (As := [.int (I x14)]) (rest := []) ⟨hx, hb, hml, hown, hts⟩ (L_X13_markOf l g q lb hlb r_x14 hN hc H.size) (cwV 1 hts (TB_V tw_2661 tw_2663 ts_130 tw_15 co_X13_markOf) rfl rfl rfl (by decide +kernel) ⟨Nat.le_of_ble_eq_true rfl, Nat.le_of_ble_eq_true rfl⟩) (preV (q0 := 0) (ci := 13) rfl xT_bl hP hK hNb hD rfl rfl xT_at) rfl rfl hl.1 rfl (lv_room (Nat.le_of_ble_eq_true rfl)) dX13_makeFrame_63 ⟨Nat.le_of_ble_eq_true rfl, Nat.le_of_ble_eq_true rfl⟩) hP hD hS hA (fun τ17 H locs hN hf hq hP hD hS => ?_)
        replace hw := hw τ17 hN hf hq
        have hF : f_r [7, 8, 20, 21] [19, 20, 22, 23, 24, 38] [] σ τ17 := f_t hF hf (by decide) (by decide) (by decide)
        have hB := hN
        refine lv_iinc (v := I (u1 + 1)) (lv' := [(1, .int (I (u1 + 1))), (0, .ref (q 0))]) hx hb dX13_makeFrame_66 hl (k := 1) rfl (I_add _ _) (by decide) rfl (fun ls hl => ?_)
        refine lv_goto (tgt := 33) hx hb dX13_makeFrame_69 (by decide) ?_
        obtain ⟨c18, hw⟩ := hw
        exact (hP33 _ _).mp hw c18 hN hF H locs ls hP hD hS (lv_sub hl [1, 0] rfl)
  ·
    intro u1 τ hw
    refine (hP74 _ _).mpr ?_
    intro r_u1 hN hF H locs ls hP hD hS hl
    have hB := hN
    refine lv_iload_n hx hb dX13_makeFrame_74 rfl (lv_at hl 1 rfl) ?_
    refine lv_aload_n hx hb dX13_makeFrame_75 rfl (lv_at hl 0 rfl) ?_
    refine gfX13_activeHypCount hx hb hts hK hP hown (hts _ tw_2052) (x := τ.1 13) rfl dX13_makeFrame_76 ?_
    refine bi_icmp_ge (tgt := 179) hx hb r_u1 (hB.1 13) dX13_makeFrame_79 (by decide) (fun c19 => ?_) (fun c19 => ?_)
    ·
      replace hw := hw.1 c19
      refine lv_iconst (v := I 0) hx hb dX13_makeFrame_179 rfl ?_
      refine lv_istore_n (lv' := [(1, .int (I 0)), (0, .ref (q 0))]) hx hb dX13_makeFrame_180 rfl hl (by decide) rfl (fun ls hl => ?_)
      exact (hP181 _ _).mp hw (by decide) hN hF H locs ls hP hD hS (lv_sub hl [1, 0] rfl)
    ·
      replace hw := hw.2 c19
      refine lv_aload_n hx hb dX13_makeFrame_82 rfl (lv_at hl 0 rfl) ?_
      refine gfX13_activeHyps hx hb hts hK hP hown (hts _ tw_2051) dX13_makeFrame_83 ?_
      refine lv_iload_n hx hb dX13_makeFrame_86 rfl (lv_at hl 1 rfl) ?_
      obtain ⟨c20, hw⟩ := hw
      refine ldMX13_activeHyps hx hb hK hP hN c20 dX13_makeFrame_87 (fun x21 r_x21 e_x21 => ?_)
      replace hw := hw x21 r_x21 e_x21
      refine lv_istore_n (lv' := [(2, .int (I x21)), (0, .ref (q 0)), (1, .int (I u1))]) hx hb dX13_makeFrame_88 rfl hl (by decide) rfl (fun ls hl => ?_)
      refine lv_aload_n hx hb dX13_makeFrame_89 rfl (lv_at hl 1 rfl) ?_
      refine gfX13_kindOf hx hb hts hK hP hown (hts _ tw_2025) dX13_makeFrame_90 ?_
      refine lv_iload_n hx hb dX13_makeFrame_93 rfl (lv_at hl 0 rfl) ?_
      obtain ⟨c22, hw⟩ := hw
      refine ldMX13_kindOf hx hb hK hP hN c22 dX13_makeFrame_94 (fun x23 r_x23 e_x23 => ?_)
      replace hw := hw x23 r_x23 e_x23
      refine lv_iconst (v := I 1) hx hb dX13_makeFrame_95 rfl ?_
      refine bi_icmp_eq (tgt := 120) hx hb r_x23 (by decide) dX13_makeFrame_96 (by decide) (fun c24 => ?_) (fun c24 => ?_)
      ·
        replace hw := hw.1 c24
        exact (hP120 _ _ _).mp hw r_u1 r_x21 hN hF H locs ls hP hD hS (lv_sub hl [1, 2, 0] rfl)
      ·
        replace hw := hw.2 c24
        refine lv_aload_n hx hb dX13_makeFrame_99 rfl (lv_at hl 1 rfl) ?_
        refine gfX13_isMarked hx hb hts hK hP hown (hts _ tw_2069) dX13_makeFrame_100 ?_
        refine lv_aload_n hx hb dX13_makeFrame_103 rfl (lv_at hl 1 rfl) ?_
        refine gfX13_texts hx hb hts hK hP hown (hts _ tw_2028) dX13_makeFrame_104 ?_
        refine lv_aload_n hx hb dX13_makeFrame_107 rfl (lv_at hl 1 rfl) ?_
        refine gfX13_textAt hx hb hts hK hP hown (hts _ tw_2026) dX13_makeFrame_108 ?_
        refine lv_iload_n hx hb dX13_makeFrame_111 rfl (lv_at hl 0 rfl) ?_
        refine ldMX13_textAt hx hb hK hP hN c22 dX13_makeFrame_112 (fun x25 r_x25 e_x25 => ?_)
        replace hw := hw x25 r_x25 e_x25
        refine lv_iconst (v := I 1) hx hb dX13_makeFrame_113 rfl ?_
        refine bi_iadd hx hb dX13_makeFrame_114 ?_
        obtain ⟨c26, hw⟩ := hw
        refine ldMX13_texts hx hb hK hP hN c26 dX13_makeFrame_115 (fun x27 r_x27 e_x27 => ?_)
        replace hw := hw x27 r_x27 e_x27
        obtain ⟨c28, hw⟩ := hw
        refine ldMX13_isMarked hx hb hK hP hN c28 dX13_makeFrame_116 (fun x29 r_x29 e_x29 => ?_)
        replace hw := hw x29 r_x29 e_x29
        refine bi_if_eq (tgt := 173) hx hb r_x29 dX13_makeFrame_117 (by decide) (fun c30 => ?_) (fun c30 => ?_)
        ·
          replace hw := hw.1 c30
          refine lv_iinc (v := I (u1 + 1)) (lv' := [(1, .int (I (u1 + 1))), (2, .int (I x21)), (0, .ref (q 0))]) hx hb dX13_makeFrame_173 hl (k := 2) rfl (I_add _ _) (by decide) rfl (fun ls hl => ?_)
          refine lv_goto (tgt := 74) hx hb dX13_makeFrame_176 (by decide) ?_
          obtain ⟨c31, hw⟩ := hw
          exact (hP74 _ _).mp hw c31 hN hF H locs ls hP hD hS (lv_sub hl [2, 0] rfl)
        ·
          replace hw := hw.2 c30
          exact (hP120 _ _ _).mp hw r_u1 r_x21 hN hF H locs ls hP hD hS (lv_sub hl [1, 2, 0] rfl)
  ·
    intro u1 u2 τ hw
    refine (hP120 _ _ _).mpr ?_
    intro r_u1 r_u2 hN hF H locs ls hP hD hS hl
    have hB := hN
    refine lv_aload_n hx hb dX13_makeFrame_120 rfl (lv_at hl 0 rfl) ?_
    refine gfX13_hypSize hx hb hts hK hP hown (hts _ tw_2032) dX13_makeFrame_121 ?_
    refine lv_aload_n hx hb dX13_makeFrame_124 rfl (lv_at hl 0 rfl) ?_
    refine gfX13_now hx hb hts hK hP hown (hts _ tw_2068) (x := τ.1 22) rfl dX13_makeFrame_125 ?_
    obtain ⟨c56, hw⟩ := hw
    refine ldMX13_hypSize hx hb hK hP hN c56 dX13_makeFrame_128 (fun x57 r_x57 e_x57 => ?_)
    replace hw := hw x57 r_x57 e_x57
    refine lv_bipush (v := I 60) hx hb dX13_makeFrame_129 (by decide) ?_
    refine bi_icmp_ne (tgt := 140) hx hb r_x57 (by decide) dX13_makeFrame_131 (by decide) (fun c58 => ?_) (fun c58 => ?_)
    ·
      replace hw := hw.1 c58
      refine lv_aload_n hx hb dX13_makeFrame_140 rfl (lv_at hl 0 rfl) ?_
      refine gfX13_hyps hx hb hts hK hP hown (hts _ tw_2033) dX13_makeFrame_141 ?_
      refine lv_aload_n hx hb dX13_makeFrame_144 rfl (lv_at hl 0 rfl) ?_
      refine gfX13_hypCount hx hb hts hK hP hown (hts _ tw_2034) (x := τ.1 7) rfl dX13_makeFrame_145 ?_
      refine lv_iload_n hx hb dX13_makeFrame_148 rfl (lv_at hl 2 rfl) ?_
      obtain ⟨c59, hw⟩ := hw
      refine sdMX13_hyps hx hb hK hP hD hS c59 dX13_makeFrame_149 (fun H locs hP hD hS => ?_)
      have hN : n_m (s_a τ 20 (τ.1 7) u2) := n_a (k := 20) (j := τ.1 7) hN (r_u2 : rg u2)
      have hF : f_r [7, 8, 20, 21] [19, 20, 22, 23, 24, 38] [] σ (s_a τ 20 (τ.1 7) u2) := f_a hF (by decide)
      refine lv_aload_n hx hb dX13_makeFrame_150 rfl (lv_at hl 0 rfl) ?_
      refine lv_dup hx hb dX13_makeFrame_151 rfl ?_
      refine gfX13_hypCount hx hb hts hK hP hown (hts _ tw_2034) (x := τ.1 7) rfl dX13_makeFrame_152 ?_
      refine lv_iconst (v := I 1) hx hb dX13_makeFrame_155 rfl ?_
      refine bi_iadd hx hb dX13_makeFrame_156 ?_
      obtain ⟨c60, hw⟩ := hw
      refine pfX13_hypCount hx hb hts hK hP hD hS hown (hts _ tw_2034) dX13_makeFrame_157 (fun H locs hP hD hS => ?_)
      have hN : n_m (s_v (s_a τ 20 (τ.1 7) u2) 7 (τ.1 7 + 1)) := n_v (i := 7) hN (c60 : rg (τ.1 7 + 1))
      have hF : f_r [7, 8, 20, 21] [19, 20, 22, 23, 24, 38] [] σ (s_v (s_a τ 20 (τ.1 7) u2) 7 (τ.1 7 + 1)) := f_v hF (by decide)
      refine lv_aload_n hx hb dX13_makeFrame_160 rfl (lv_at hl 0 rfl) ?_
      refine gfX13_hypSize hx hb hts hK hP hown (hts _ tw_2032) dX13_makeFrame_161 ?_
      refine lv_aload_n hx hb dX13_makeFrame_164 rfl (lv_at hl 0 rfl) ?_
      refine gfX13_now hx hb hts hK hP hown (hts _ tw_2068) (x := τ.1 22) rfl dX13_makeFrame_165 ?_
      refine lv_dup2_11 hx hb dX13_makeFrame_168 rfl rfl ?_
      refine ldMX13_hypSize hx hb hK hP hN c56 dX13_makeFrame_169 (fun x61 r_x61 e_x61 => ?_)
      replace hw := hw x61 r_x61 e_x61
      refine lv_iconst (v := I 1) hx hb dX13_makeFrame_170 rfl ?_
      refine bi_iadd hx hb dX13_makeFrame_171 ?_
      obtain ⟨c62, hw⟩ := hw
      refine sdMX13_hypSize hx hb hK hP hD hS c56 dX13_makeFrame_172 (fun H locs hP hD hS => ?_)
      have hN : n_m (s_a (s_v (s_a τ 20 (τ.1 7) u2) 7 (τ.1 7 + 1)) 19 (τ.1 22) (x61 + 1)) := n_a (k := 19) (j := τ.1 22) hN (c62 : rg (x61 + 1))
      have hF : f_r [7, 8, 20, 21] [19, 20, 22, 23, 24, 38] [] σ (s_a (s_v (s_a τ 20 (τ.1 7) u2) 7 (τ.1 7 + 1)) 19 (τ.1 22) (x61 + 1)) := f_a hF (by decide)
      refine lv_iinc (v := I (u1 + 1)) (lv' := [(1, .int (I (u1 + 1))), (0, .ref (q 0)), (2, .int (I u2))]) hx hb dX13_makeFrame_173 hl (k := 1) rfl (I_add _ _) (by decide) rfl (fun ls hl => ?_)
      refine lv_goto (tgt := 74) hx hb dX13_makeFrame_176 (by decide) ?_
      obtain ⟨c63, hw⟩ := hw
      exact (hP74 _ _).mp hw c63 hN hF H locs ls hP hD hS (lv_sub hl [1, 0] rfl)
    ·
      replace hw := hw.2 c58
      refine lv_aload_n hx hb dX13_makeFrame_134 rfl (lv_at hl 0 rfl) ?_
      refine lv_iconst (v := I 5) hx hb dX13_makeFrame_135 rfl ?_
      obtain ⟨Q64, hc, hw⟩ := hw
      refine wc_V (X := MX g q lb) (va_runV (As := [.int (I 5)]) (rest := []) ⟨hx, hb, hml, hown, hts⟩ (L_X13_failHere l g q lb hlb (by decide) hN hc H.size) (cwV 1 hts (TB_V tw_2585 tw_2587 ts_114 tw_15 co_X13_failHere) rfl rfl rfl (by decide +kernel) ⟨Nat.le_of_ble_eq_true rfl, Nat.le_of_ble_eq_true rfl⟩) (preV (q0 := 0) (ci := 13) rfl xT_bl hP hK hNb hD rfl rfl xT_at) rfl rfl hl.1 rfl (lv_room (Nat.le_of_ble_eq_true rfl)) dX13_makeFrame_136 ⟨Nat.le_of_ble_eq_true rfl, Nat.le_of_ble_eq_true rfl⟩) hP hD hS hA (fun τ66 H locs hN hf hq hP hD hS => ?_)
      replace hw := hw τ66 hN hf hq
      have hF : f_r [7, 8, 20, 21] [19, 20, 22, 23, 24, 38] [] σ τ66 := f_t hF hf (by decide) (by decide) (by decide)
      have hB := hN
      exact xrv hx hb hr hlk hP hK hD hS ⟨_, hN, hF, rfl, hw⟩ (Nat.le_of_ble_eq_true rfl) (Nat.le_of_ble_eq_true rfl) dX13_makeFrame_139
  ·
    intro u1 τ hw
    refine (hP181 _ _).mpr ?_
    intro r_u1 hN hF H locs ls hP hD hS hl
    have hB := hN
    refine lv_iload_n hx hb dX13_makeFrame_181 rfl (lv_at hl 1 rfl) ?_
    refine lv_aload_n hx hb dX13_makeFrame_182 rfl (lv_at hl 0 rfl) ?_
    refine gfX13_apartCount hx hb hts hK hP hown (hts _ tw_2055) (x := τ.1 14) rfl dX13_makeFrame_183 ?_
    refine bi_icmp_ge (tgt := 292) hx hb r_u1 (hB.1 14) dX13_makeFrame_186 (by decide) (fun c32 => ?_) (fun c32 => ?_)
    ·
      replace hw := hw.1 c32
      exact xrv hx hb hr hlk hP hK hD hS ⟨_, hN, hF, rfl, hw⟩ (Nat.le_of_ble_eq_true rfl) (Nat.le_of_ble_eq_true rfl) dX13_makeFrame_292
    ·
      replace hw := hw.2 c32
      refine lv_aload_n hx hb dX13_makeFrame_189 rfl (lv_at hl 0 rfl) ?_
      refine gfX13_isMarked hx hb hts hK hP hown (hts _ tw_2069) dX13_makeFrame_190 ?_
      refine lv_aload_n hx hb dX13_makeFrame_193 rfl (lv_at hl 0 rfl) ?_
      refine gfX13_apartA hx hb hts hK hP hown (hts _ tw_2053) dX13_makeFrame_194 ?_
      refine lv_iload_n hx hb dX13_makeFrame_197 rfl (lv_at hl 1 rfl) ?_
      obtain ⟨c33, hw⟩ := hw
      refine ldMX13_apartA hx hb hK hP hN c33 dX13_makeFrame_198 (fun x34 r_x34 e_x34 => ?_)
      replace hw := hw x34 r_x34 e_x34
      obtain ⟨c35, hw⟩ := hw
      refine ldMX13_isMarked hx hb hK hP hN c35 dX13_makeFrame_199 (fun x36 r_x36 e_x36 => ?_)
      replace hw := hw x36 r_x36 e_x36
      refine bi_if_eq (tgt := 286) hx hb r_x36 dX13_makeFrame_200 (by decide) (fun c37 => ?_) (fun c37 => ?_)
      ·
        replace hw := hw.1 c37
        refine lv_iinc (v := I (u1 + 1)) (lv' := [(1, .int (I (u1 + 1))), (0, .ref (q 0))]) hx hb dX13_makeFrame_286 hl (k := 1) rfl (I_add _ _) (by decide) rfl (fun ls hl => ?_)
        refine lv_goto (tgt := 181) hx hb dX13_makeFrame_289 (by decide) ?_
        obtain ⟨c38, hw⟩ := hw
        exact (hP181 _ _).mp hw c38 hN hF H locs ls hP hD hS (lv_sub hl [1, 0] rfl)
      ·
        replace hw := hw.2 c37
        refine lv_aload_n hx hb dX13_makeFrame_203 rfl (lv_at hl 0 rfl) ?_
        refine gfX13_isMarked hx hb hts hK hP hown (hts _ tw_2069) dX13_makeFrame_204 ?_
        refine lv_aload_n hx hb dX13_makeFrame_207 rfl (lv_at hl 0 rfl) ?_
        refine gfX13_apartB hx hb hts hK hP hown (hts _ tw_2054) dX13_makeFrame_208 ?_
        refine lv_iload_n hx hb dX13_makeFrame_211 rfl (lv_at hl 1 rfl) ?_
        refine ldMX13_apartB hx hb hK hP hN c33 dX13_makeFrame_212 (fun x39 r_x39 e_x39 => ?_)
        replace hw := hw x39 r_x39 e_x39
        obtain ⟨c40, hw⟩ := hw
        refine ldMX13_isMarked hx hb hK hP hN c40 dX13_makeFrame_213 (fun x41 r_x41 e_x41 => ?_)
        replace hw := hw x41 r_x41 e_x41
        refine bi_if_eq (tgt := 286) hx hb r_x41 dX13_makeFrame_214 (by decide) (fun c42 => ?_) (fun c42 => ?_)
        ·
          replace hw := hw.1 c42
          refine lv_iinc (v := I (u1 + 1)) (lv' := [(1, .int (I (u1 + 1))), (0, .ref (q 0))]) hx hb dX13_makeFrame_286 hl (k := 1) rfl (I_add _ _) (by decide) rfl (fun ls hl => ?_)
          refine lv_goto (tgt := 181) hx hb dX13_makeFrame_289 (by decide) ?_
          obtain ⟨c43, hw⟩ := hw
          exact (hP181 _ _).mp hw c43 hN hF H locs ls hP hD hS (lv_sub hl [1, 0] rfl)
        ·
          replace hw := hw.2 c42
          refine lv_aload_n hx hb dX13_makeFrame_217 rfl (lv_at hl 0 rfl) ?_
          refine gfX13_pairCount hx hb hts hK hP hown (hts _ tw_2039) (x := τ.1 8) rfl dX13_makeFrame_218 ?_
          refine lv_sipush (v := I 20000) hx hb dX13_makeFrame_221 (by decide) ?_
          refine bi_icmp_ne (tgt := 233) hx hb (hB.1 8) (by decide) dX13_makeFrame_224 (by decide) (fun c44 => ?_) (fun c44 => ?_)
          ·
            replace hw := hw.1 c44
            refine lv_aload_n hx hb dX13_makeFrame_233 rfl (lv_at hl 0 rfl) ?_
            refine gfX13_pairA hx hb hts hK hP hown (hts _ tw_2037) dX13_makeFrame_234 ?_
            refine lv_aload_n hx hb dX13_makeFrame_237 rfl (lv_at hl 0 rfl) ?_
            refine gfX13_pairCount hx hb hts hK hP hown (hts _ tw_2039) (x := τ.1 8) rfl dX13_makeFrame_238 ?_
            refine lv_aload_n hx hb dX13_makeFrame_241 rfl (lv_at hl 0 rfl) ?_
            refine gfX13_apartA hx hb hts hK hP hown (hts _ tw_2053) dX13_makeFrame_242 ?_
            refine lv_iload_n hx hb dX13_makeFrame_245 rfl (lv_at hl 1 rfl) ?_
            refine ldMX13_apartA hx hb hK hP hN c33 dX13_makeFrame_246 (fun x45 r_x45 e_x45 => ?_)
            replace hw := hw x45 r_x45 e_x45
            obtain ⟨c46, hw⟩ := hw
            refine sdMX13_pairA hx hb hK hP hD hS c46 dX13_makeFrame_247 (fun H locs hP hD hS => ?_)
            have hN : n_m (s_a τ 23 (τ.1 8) x45) := n_a (k := 23) (j := τ.1 8) hN (r_x45 : rg x45)
            have hF : f_r [7, 8, 20, 21] [19, 20, 22, 23, 24, 38] [] σ (s_a τ 23 (τ.1 8) x45) := f_a hF (by decide)
            refine lv_aload_n hx hb dX13_makeFrame_248 rfl (lv_at hl 0 rfl) ?_
            refine gfX13_pairB hx hb hts hK hP hown (hts _ tw_2038) dX13_makeFrame_249 ?_
            refine lv_aload_n hx hb dX13_makeFrame_252 rfl (lv_at hl 0 rfl) ?_
            refine gfX13_pairCount hx hb hts hK hP hown (hts _ tw_2039) (x := τ.1 8) rfl dX13_makeFrame_253 ?_
            refine lv_aload_n hx hb dX13_makeFrame_256 rfl (lv_at hl 0 rfl) ?_
            refine gfX13_apartB hx hb hts hK hP hown (hts _ tw_2054) dX13_makeFrame_257 ?_
            refine lv_iload_n hx hb dX13_makeFrame_260 rfl (lv_at hl 1 rfl) ?_
            refine ldMX13_apartB hx hb hK hP hN c33 dX13_makeFrame_261 (fun x47 r_x47 e_x47 => ?_)
            replace hw := hw x47 r_x47 e_x47
            refine sdMX13_pairB hx hb hK hP hD hS c46 dX13_makeFrame_262 (fun H locs hP hD hS => ?_)
            have hN : n_m (s_a (s_a τ 23 (τ.1 8) x45) 24 (τ.1 8) x47) := n_a (k := 24) (j := τ.1 8) hN (r_x47 : rg x47)
            have hF : f_r [7, 8, 20, 21] [19, 20, 22, 23, 24, 38] [] σ (s_a (s_a τ 23 (τ.1 8) x45) 24 (τ.1 8) x47) := f_a hF (by decide)
            refine lv_aload_n hx hb dX13_makeFrame_263 rfl (lv_at hl 0 rfl) ?_
            refine lv_dup hx hb dX13_makeFrame_264 rfl ?_
            refine gfX13_pairCount hx hb hts hK hP hown (hts _ tw_2039) (x := τ.1 8) rfl dX13_makeFrame_265 ?_
            refine lv_iconst (v := I 1) hx hb dX13_makeFrame_268 rfl ?_
            refine bi_iadd hx hb dX13_makeFrame_269 ?_
            obtain ⟨c48, hw⟩ := hw
            refine pfX13_pairCount hx hb hts hK hP hD hS hown (hts _ tw_2039) dX13_makeFrame_270 (fun H locs hP hD hS => ?_)
            have hN : n_m (s_v (s_a (s_a τ 23 (τ.1 8) x45) 24 (τ.1 8) x47) 8 (τ.1 8 + 1)) := n_v (i := 8) hN (c48 : rg (τ.1 8 + 1))
            have hF : f_r [7, 8, 20, 21] [19, 20, 22, 23, 24, 38] [] σ (s_v (s_a (s_a τ 23 (τ.1 8) x45) 24 (τ.1 8) x47) 8 (τ.1 8 + 1)) := f_v hF (by decide)
            refine lv_aload_n hx hb dX13_makeFrame_273 rfl (lv_at hl 0 rfl) ?_
            refine gfX13_pairSize hx hb hts hK hP hown (hts _ tw_2036) dX13_makeFrame_274 ?_
            refine lv_aload_n hx hb dX13_makeFrame_277 rfl (lv_at hl 0 rfl) ?_
            refine gfX13_now hx hb hts hK hP hown (hts _ tw_2068) (x := τ.1 22) rfl dX13_makeFrame_278 ?_
            refine lv_dup2_11 hx hb dX13_makeFrame_281 rfl rfl ?_
            obtain ⟨c49, hw⟩ := hw
            refine ldMX13_pairSize hx hb hK hP hN c49 dX13_makeFrame_282 (fun x50 r_x50 e_x50 => ?_)
            replace hw := hw x50 r_x50 e_x50
            refine lv_iconst (v := I 1) hx hb dX13_makeFrame_283 rfl ?_
            refine bi_iadd hx hb dX13_makeFrame_284 ?_
            obtain ⟨c51, hw⟩ := hw
            refine sdMX13_pairSize hx hb hK hP hD hS c49 dX13_makeFrame_285 (fun H locs hP hD hS => ?_)
            have hN : n_m (s_a (s_v (s_a (s_a τ 23 (τ.1 8) x45) 24 (τ.1 8) x47) 8 (τ.1 8 + 1)) 22 (τ.1 22) (x50 + 1)) := n_a (k := 22) (j := τ.1 22) hN (c51 : rg (x50 + 1))
            have hF : f_r [7, 8, 20, 21] [19, 20, 22, 23, 24, 38] [] σ (s_a (s_v (s_a (s_a τ 23 (τ.1 8) x45) 24 (τ.1 8) x47) 8 (τ.1 8 + 1)) 22 (τ.1 22) (x50 + 1)) := f_a hF (by decide)
            refine lv_iinc (v := I (u1 + 1)) (lv' := [(1, .int (I (u1 + 1))), (0, .ref (q 0))]) hx hb dX13_makeFrame_286 hl (k := 1) rfl (I_add _ _) (by decide) rfl (fun ls hl => ?_)
            refine lv_goto (tgt := 181) hx hb dX13_makeFrame_289 (by decide) ?_
            obtain ⟨c52, hw⟩ := hw
            exact (hP181 _ _).mp hw c52 hN hF H locs ls hP hD hS (lv_sub hl [1, 0] rfl)
          ·
            replace hw := hw.2 c44
            refine lv_aload_n hx hb dX13_makeFrame_227 rfl (lv_at hl 0 rfl) ?_
            refine lv_iconst (v := I 5) hx hb dX13_makeFrame_228 rfl ?_
            obtain ⟨Q53, hc, hw⟩ := hw
            refine wc_V (X := MX g q lb) (va_runV (As := [.int (I 5)]) (rest := []) ⟨hx, hb, hml, hown, hts⟩ (L_X13_failHere l g q lb hlb (by decide) hN hc H.size) (cwV 1 hts (TB_V tw_2585 tw_2587 ts_114 tw_15 co_X13_failHere) rfl rfl rfl (by decide +kernel) ⟨Nat.le_of_ble_eq_true rfl, Nat.le_of_ble_eq_true rfl⟩) (preV (q0 := 0) (ci := 13) rfl xT_bl hP hK hNb hD rfl rfl xT_at) rfl rfl hl.1 rfl (lv_room (Nat.le_of_ble_eq_true rfl)) dX13_makeFrame_229 ⟨Nat.le_of_ble_eq_true rfl, Nat.le_of_ble_eq_true rfl⟩) hP hD hS hA (fun τ55 H locs hN hf hq hP hD hS => ?_)
            replace hw := hw τ55 hN hf hq
            have hF : f_r [7, 8, 20, 21] [19, 20, 22, 23, 24, 38] [] σ τ55 := f_t hF hf (by decide) (by decide) (by decide)
            have hB := hN
            exact xrv hx hb hr hlk hP hK hD hS ⟨_, hN, hF, rfl, hw⟩ (Nat.le_of_ble_eq_true rfl) (Nat.le_of_ble_eq_true rfl) dX13_makeFrame_232
def W_X13_isMandatory (n1 : Int) (n2 : Int) (σ : S0) (Q : Int → Prop) : Prop :=
  ∀ (P10 : Int → Int → Int → Int → Prop),
  (∀ (u1 : Int) (u2 : Int) (u3 : Int) (u4 : Int), ((0 ≤ u1 ∧ u1 < 1501) ∧ (∀ (x4 : Int), rg x4 → x4 = σ.2.1 18 u1 → (∀ (x5 : Int), rg x5 → x5 = σ.2.1 19 u1 → (rg (x4 + x5) ∧ ((x4 + x5) ≤ u4 → (0 ≤ u3 ∧ u3 ≤ 1) ∧ Q u3) ∧ (u4 < (x4 + x5) → (¬ u3 = 0 → rg (u4 + 1) ∧ P10 u1 u2 1 (u4 + 1)) ∧ (u3 = 0 → (0 ≤ u4 ∧ u4 < 90100) ∧ (∀ (x12 : Int), rg x12 → x12 = σ.2.1 20 u4 → ((¬ x12 = u2 → rg (u4 + 1) ∧ P10 u1 u2 0 (u4 + 1)) ∧ (x12 = u2 → rg (u4 + 1) ∧ P10 u1 u2 1 (u4 + 1)))))))))) → P10 u1 u2 u3 u4) →
  (0 ≤ n1 ∧ n1 < 1501) ∧ (∀ (x2 : Int), rg x2 → x2 = σ.2.1 18 n1 → (P10 n1 n2 0 x2))
set_option maxRecDepth 100000 in
set_option maxHeartbeats 4000000 in
theorem L_X13_isMandatory (l : Launch) (g : gG) (q : Nat → Nat) (lb : Nat) (hlb : lb < 2 ^ 31) {n1 : Int} {n2 : Int} {σ : S0} {Q : Int → Prop} (r_n1 : rg n1) (r_n2 : rg n2) (hN : n_m σ) (hw : W_X13_isMandatory n1 n2 σ Q) (sz : Nat) : MetI l yX13_isMandatory cX13_isMandatory 5 (some .boolean) { frames := 0, cells := 0, slots := 0, locals := 0 } g [.ref (q 0), .int (I n1), .int (I n2)] (MX g q lb σ) sz xT (p_i (MX g q lb) σ Q) 0 0 := by
  refine mkMet (Qc := fun A => QI g A (p_i (MX g q lb) σ Q)) (by decide) (Nat.le_of_ble_eq_true rfl) ?_
  intro p e s m below meth c A H ls hx hb hr hml hown hts hlk hnm hsz hP hK hNb hD hA hAe hS hX hl
  have hl : lv_has ls 5 [(0, .ref (q 0)), (1, .int (I n1)), (2, .int (I n2))] := hl
  have hB := hN
  obtain ⟨locs, hlocs⟩ : ∃ z : List Loc, z = [] := ⟨_, rfl⟩
  rw [← hlocs] at hS ⊢
  obtain ⟨P10, hP10⟩ : ∃ P : Int → Int → Int → Int → Prop, ∀ (u1 : Int) (u2 : Int) (u3 : Int) (u4 : Int), (P u1 u2 u3 u4 ↔ (rg u1 → rg u2 → rg u3 → rg u4 → ∀ (H : Heap) (locs : List Loc) (ls : Array Slot), KP g (MX g q lb σ) H → va_D A (MX g q lb σ) → va_S A s.heap H locs → lv_has ls 5 [(0, .ref (q 0)), (1, .int (I u1)), (2, .int (I u2)), (3, .int (I u3)), (4, .int (I u4))] → W p l e ({ frames := 0, cells := 0, slots := 0, locals := 0 }) s m [.ref (q 0), .int (I n1), .int (I n2)].toArray below meth c H locs 0 0 (MQ below (QI g A (p_i (MX g q lb) σ Q)) [.ref (q 0), .int (I n1), .int (I n2)].toArray s 0 0 A) (F0 m 10 ls []))) := ⟨_, fun _ _ _ _ => Iff.rfl⟩
  refine (fun hw => ?_) (hw P10 ?_)
  ·
    refine lv_iconst (v := I 0) hx hb dX13_isMandatory_0 rfl ?_
    refine lv_istore_n (lv' := [(3, .int (I 0)), (0, .ref (q 0)), (1, .int (I n1)), (2, .int (I n2))]) hx hb dX13_isMandatory_1 rfl hl (by decide) rfl (fun ls hl => ?_)
    refine lv_aload_n hx hb dX13_isMandatory_2 rfl (lv_at hl 1 rfl) ?_
    refine gfX13_hypAt hx hb hts hK hP hown (hts _ tw_2031) dX13_isMandatory_3 ?_
    refine lv_iload_n hx hb dX13_isMandatory_6 rfl (lv_at hl 2 rfl) ?_
    obtain ⟨c1, hw⟩ := hw
    refine ldMX13_hypAt hx hb hK hP hN c1 dX13_isMandatory_7 (fun x2 r_x2 e_x2 => ?_)
    replace hw := hw x2 r_x2 e_x2
    refine lv_istore (lv' := [(4, .int (I x2)), (3, .int (I 0)), (0, .ref (q 0)), (1, .int (I n1)), (2, .int (I n2))]) hx hb dX13_isMandatory_8 hl (by decide) rfl (fun ls hl => ?_)
    exact (hP10 _ _ _ _).mp hw r_n1 r_n2 (by decide) r_x2  H locs ls hP hD hS (lv_sub hl [2, 3, 4, 1, 0] rfl)
  ·
    intro u1 u2 u3 u4 hw
    refine (hP10 _ _ _ _).mpr ?_
    intro r_u1 r_u2 r_u3 r_u4 H locs ls hP hD hS hl
    refine lv_iload hx hb dX13_isMandatory_10 (lv_at hl 4 rfl) ?_
    refine lv_aload_n hx hb dX13_isMandatory_12 rfl (lv_at hl 0 rfl) ?_
    refine gfX13_hypAt hx hb hts hK hP hown (hts _ tw_2031) dX13_isMandatory_13 ?_
    refine lv_iload_n hx hb dX13_isMandatory_16 rfl (lv_at hl 1 rfl) ?_
    obtain ⟨c3, hw⟩ := hw
    refine ldMX13_hypAt hx hb hK hP hN c3 dX13_isMandatory_17 (fun x4 r_x4 e_x4 => ?_)
    replace hw := hw x4 r_x4 e_x4
    refine lv_aload_n hx hb dX13_isMandatory_18 rfl (lv_at hl 0 rfl) ?_
    refine gfX13_hypSize hx hb hts hK hP hown (hts _ tw_2032) dX13_isMandatory_19 ?_
    refine lv_iload_n hx hb dX13_isMandatory_22 rfl (lv_at hl 1 rfl) ?_
    refine ldMX13_hypSize hx hb hK hP hN c3 dX13_isMandatory_23 (fun x5 r_x5 e_x5 => ?_)
    replace hw := hw x5 r_x5 e_x5
    refine bi_iadd hx hb dX13_isMandatory_24 ?_
    obtain ⟨c6, hw⟩ := hw
    refine bi_icmp_ge (tgt := 55) hx hb r_u4 c6 dX13_isMandatory_25 (by decide) (fun c7 => ?_) (fun c7 => ?_)
    ·
      replace hw := hw.1 c7
      refine lv_iload_n hx hb dX13_isMandatory_55 rfl (lv_at hl 3 rfl) ?_
      obtain ⟨c8, hw⟩ := hw
      exact xrz hx hb hr (nzI c8.1 c8.2) hlk hP hK hD hS ⟨_, r_u3, rfl, rfl, hw⟩ (Nat.le_of_ble_eq_true rfl) (Nat.le_of_ble_eq_true rfl) dX13_isMandatory_56
    ·
      replace hw := hw.2 c7
      refine lv_iload_n hx hb dX13_isMandatory_28 rfl (lv_at hl 3 rfl) ?_
      refine bi_if_ne (tgt := 43) hx hb r_u3 dX13_isMandatory_29 (by decide) (fun c9 => ?_) (fun c9 => ?_)
      ·
        replace hw := hw.1 c9
        refine lv_iconst (v := I 1) hx hb dX13_isMandatory_43 rfl ?_
        refine lv_goto (tgt := 48) hx hb dX13_isMandatory_44 (by decide) ?_
        refine lv_istore_n (lv' := [(3, .int (I 1)), (0, .ref (q 0)), (1, .int (I u1)), (2, .int (I u2)), (4, .int (I u4))]) hx hb dX13_isMandatory_48 rfl hl (by decide) rfl (fun ls hl => ?_)
        refine lv_iinc (v := I (u4 + 1)) (lv' := [(4, .int (I (u4 + 1))), (3, .int (I 1)), (0, .ref (q 0)), (1, .int (I u1)), (2, .int (I u2))]) hx hb dX13_isMandatory_49 hl (k := 4) rfl (I_add _ _) (by decide) rfl (fun ls hl => ?_)
        refine lv_goto (tgt := 10) hx hb dX13_isMandatory_52 (by decide) ?_
        obtain ⟨c10, hw⟩ := hw
        exact (hP10 _ _ _ _).mp hw r_u1 r_u2 (by decide) c10  H locs ls hP hD hS (lv_sub hl [2, 3, 4, 1, 0] rfl)
      ·
        replace hw := hw.2 c9
        refine lv_aload_n hx hb dX13_isMandatory_32 rfl (lv_at hl 0 rfl) ?_
        refine gfX13_hyps hx hb hts hK hP hown (hts _ tw_2033) dX13_isMandatory_33 ?_
        refine lv_iload hx hb dX13_isMandatory_36 (lv_at hl 4 rfl) ?_
        obtain ⟨c11, hw⟩ := hw
        refine ldMX13_hyps hx hb hK hP hN c11 dX13_isMandatory_38 (fun x12 r_x12 e_x12 => ?_)
        replace hw := hw x12 r_x12 e_x12
        refine lv_iload_n hx hb dX13_isMandatory_39 rfl (lv_at hl 2 rfl) ?_
        refine bi_icmp_ne (tgt := 47) hx hb r_x12 r_u2 dX13_isMandatory_40 (by decide) (fun c13 => ?_) (fun c13 => ?_)
        ·
          replace hw := hw.1 c13
          refine lv_iconst (v := I 0) hx hb dX13_isMandatory_47 rfl ?_
          refine lv_istore_n (lv' := [(3, .int (I 0)), (0, .ref (q 0)), (1, .int (I u1)), (2, .int (I u2)), (4, .int (I u4))]) hx hb dX13_isMandatory_48 rfl hl (by decide) rfl (fun ls hl => ?_)
          refine lv_iinc (v := I (u4 + 1)) (lv' := [(4, .int (I (u4 + 1))), (3, .int (I 0)), (0, .ref (q 0)), (1, .int (I u1)), (2, .int (I u2))]) hx hb dX13_isMandatory_49 hl (k := 4) rfl (I_add _ _) (by decide) rfl (fun ls hl => ?_)
          refine lv_goto (tgt := 10) hx hb dX13_isMandatory_52 (by decide) ?_
          obtain ⟨c14, hw⟩ := hw
          exact (hP10 _ _ _ _).mp hw r_u1 r_u2 (by decide) c14  H locs ls hP hD hS (lv_sub hl [2, 3, 4, 1, 0] rfl)
        ·
          replace hw := hw.2 c13
          refine lv_iconst (v := I 1) hx hb dX13_isMandatory_43 rfl ?_
          refine lv_goto (tgt := 48) hx hb dX13_isMandatory_44 (by decide) ?_
          refine lv_istore_n (lv' := [(3, .int (I 1)), (0, .ref (q 0)), (1, .int (I u1)), (2, .int (I u2)), (4, .int (I u4))]) hx hb dX13_isMandatory_48 rfl hl (by decide) rfl (fun ls hl => ?_)
          refine lv_iinc (v := I (u4 + 1)) (lv' := [(4, .int (I (u4 + 1))), (3, .int (I 1)), (0, .ref (q 0)), (1, .int (I u1)), (2, .int (I u2))]) hx hb dX13_isMandatory_49 hl (k := 4) rfl (I_add _ _) (by decide) rfl (fun ls hl => ?_)
          refine lv_goto (tgt := 10) hx hb dX13_isMandatory_52 (by decide) ?_
          obtain ⟨c15, hw⟩ := hw
          exact (hP10 _ _ _ _).mp hw r_u1 r_u2 (by decide) c15  H locs ls hP hD hS (lv_sub hl [2, 3, 4, 1, 0] rfl)
def W_X13_stepHere (σ : S0) (Q : Int → Prop) : Prop :=
  ∀ (P48 : Int → Int → Int → Prop),
  (∀ (u1 : Int) (u2 : Int) (u3 : Int), ((σ.1 13 ≤ u3 → (u2 = 0 → Q (-1)) ∧ (¬ u2 = 0 → Q u1)) ∧ (u3 < σ.1 13 → (¬ u2 = 0 → rg (u3 + 1) ∧ P48 u1 1 (u3 + 1)) ∧ (u2 = 0 → (0 ≤ u3 ∧ u3 < 1501) ∧ (∀ (x14 : Int), rg x14 → x14 = σ.2.1 31 u3 → ((¬ x14 = u1 → rg (u3 + 1) ∧ P48 u1 0 (u3 + 1)) ∧ (x14 = u1 → rg (u3 + 1) ∧ P48 u1 1 (u3 + 1))))))) → P48 u1 u2 u3) →
  ∃ (Q1 : Int → Prop), W_X13_findLabel_q1 (σ.1 17) (σ.1 18) σ Q1 ∧ ∀ (x2 : Int), rg x2 → Q1 x2 → ((x2 = (-1) → Q (-1)) ∧ (¬ x2 = (-1) → (x2 < σ.1 22 → (0 ≤ x2 ∧ x2 < 1501) ∧ (∀ (x7 : Int), rg x7 → x7 = σ.2.1 13 x2 → ((x7 < 2 → P48 x2 0 0) ∧ (2 ≤ x7 → Q x2)))) ∧ (σ.1 22 ≤ x2 → Q (-1))))
set_option maxRecDepth 100000 in
set_option maxHeartbeats 4000000 in
theorem L_X13_stepHere (l : Launch) (g : gG) (q : Nat → Nat) (lb : Nat) (hlb : lb < 2 ^ 31) {σ : S0} {Q : Int → Prop} (hN : n_m σ) (hw : W_X13_stepHere σ Q) (sz : Nat) : MetI l yX13_stepHere cX13_stepHere 4 (some .int) { frames := 2, cells := 0, slots := 0, locals := 51 } g [.ref (q 0)] (MX g q lb σ) sz xT (p_i (MX g q lb) σ Q) 0 0 := by
  refine mkMet (Qc := fun A => QI g A (p_i (MX g q lb) σ Q)) (by decide) (Nat.le_of_ble_eq_true rfl) ?_
  intro p e s m below meth c A H ls hx hb hr hml hown hts hlk hnm hsz hP hK hNb hD hA hAe hS hX hl
  have hl : lv_has ls 4 [(0, .ref (q 0))] := hl
  have hB := hN
  obtain ⟨locs, hlocs⟩ : ∃ z : List Loc, z = [] := ⟨_, rfl⟩
  rw [← hlocs] at hS ⊢
  obtain ⟨P48, hP48⟩ : ∃ P : Int → Int → Int → Prop, ∀ (u1 : Int) (u2 : Int) (u3 : Int), (P u1 u2 u3 ↔ (rg u1 → rg u2 → rg u3 → ∀ (H : Heap) (locs : List Loc) (ls : Array Slot), KP g (MX g q lb σ) H → va_D A (MX g q lb σ) → va_S A s.heap H locs → lv_has ls 4 [(0, .ref (q 0)), (1, .int (I u1)), (2, .int (I u2)), (3, .int (I u3))] → W p l e ({ frames := 2, cells := 0, slots := 0, locals := 51 }) s m [.ref (q 0)].toArray below meth c H locs 0 0 (MQ below (QI g A (p_i (MX g q lb) σ Q)) [.ref (q 0)].toArray s 0 0 A) (F0 m 48 ls []))) := ⟨_, fun _ _ _ => Iff.rfl⟩
  refine (fun hw => ?_) (hw P48 ?_)
  ·
    refine lv_aload_n hx hb dX13_stepHere_0 rfl (lv_at hl 0 rfl) ?_
    refine lv_aload_n hx hb dX13_stepHere_1 rfl (lv_at hl 0 rfl) ?_
    refine gfX13_tape hx hb hts hK hP hown (hts _ tw_2006) dX13_stepHere_2 ?_
    refine lv_aload_n hx hb dX13_stepHere_5 rfl (lv_at hl 0 rfl) ?_
    refine gfX13_tokenAt hx hb hts hK hP hown (hts _ tw_2062) (x := σ.1 17) rfl dX13_stepHere_6 ?_
    refine lv_aload_n hx hb dX13_stepHere_9 rfl (lv_at hl 0 rfl) ?_
    refine gfX13_tokenSize hx hb hts hK hP hown (hts _ tw_2063) (x := σ.1 18) rfl dX13_stepHere_10 ?_
    obtain ⟨Q1, hc, hw⟩ := hw
    refine wc_i (X := MX g q lb) (va_runV (As := [.ref (q 1), .int (I (σ.1 17)), .int (I (σ.1 18))]) (rest := []) ⟨hx, hb, hml, hown, hts⟩ (L_X13_findLabel_q1 l g q lb hlb (hB.1 17) (hB.1 18) hN hc H.size) (cwV 3 hts (TB_V tw_2598 tw_2600 ts_115 tw_15 co_X13_findLabel) rfl rfl rfl (by decide +kernel) ⟨Nat.le_of_ble_eq_true rfl, Nat.le_of_ble_eq_true rfl⟩) (preV (q0 := 0) (ci := 13) rfl xT_bl hP hK hNb hD rfl rfl xT_at) rfl rfl hl.1 rfl (lv_room (Nat.le_of_ble_eq_true rfl)) dX13_stepHere_13 ⟨Nat.le_of_ble_eq_true rfl, Nat.le_of_ble_eq_true rfl⟩) hP hD hS hA (fun x2 H locs r_x2 hq hP hD hS => ?_)
    replace hw := hw x2 r_x2 hq
    refine lv_istore_n (lv' := [(1, .int (I x2)), (0, .ref (q 0))]) hx hb dX13_stepHere_16 rfl hl (by decide) rfl (fun ls hl => ?_)
    refine lv_iload_n hx hb dX13_stepHere_17 rfl (lv_at hl 0 rfl) ?_
    refine lv_iconst (v := I (-1)) hx hb dX13_stepHere_18 rfl ?_
    refine bi_icmp_eq (tgt := 30) hx hb r_x2 (by decide) dX13_stepHere_19 (by decide) (fun c4 => ?_) (fun c4 => ?_)
    ·
      replace hw := hw.1 c4
      refine lv_iconst (v := I (-1)) hx hb dX13_stepHere_30 rfl ?_
      exact xri hx hb hr hlk hP hK hD hS ⟨_, (by decide), rfl, rfl, hw⟩ (Nat.le_of_ble_eq_true rfl) (Nat.le_of_ble_eq_true rfl) dX13_stepHere_31
    ·
      replace hw := hw.2 c4
      refine lv_iload_n hx hb dX13_stepHere_22 rfl (lv_at hl 0 rfl) ?_
      refine lv_aload_n hx hb dX13_stepHere_23 rfl (lv_at hl 1 rfl) ?_
      refine gfX13_now hx hb hts hK hP hown (hts _ tw_2068) (x := σ.1 22) rfl dX13_stepHere_24 ?_
      refine bi_icmp_lt (tgt := 32) hx hb r_x2 (hB.1 22) dX13_stepHere_27 (by decide) (fun c5 => ?_) (fun c5 => ?_)
      ·
        replace hw := hw.1 c5
        refine lv_aload_n hx hb dX13_stepHere_32 rfl (lv_at hl 1 rfl) ?_
        refine gfX13_kindOf hx hb hts hK hP hown (hts _ tw_2025) dX13_stepHere_33 ?_
        refine lv_iload_n hx hb dX13_stepHere_36 rfl (lv_at hl 0 rfl) ?_
        obtain ⟨c6, hw⟩ := hw
        refine ldMX13_kindOf hx hb hK hP hN c6 dX13_stepHere_37 (fun x7 r_x7 e_x7 => ?_)
        replace hw := hw x7 r_x7 e_x7
        refine lv_iconst (v := I 2) hx hb dX13_stepHere_38 rfl ?_
        refine bi_icmp_lt (tgt := 44) hx hb r_x7 (by decide) dX13_stepHere_39 (by decide) (fun c8 => ?_) (fun c8 => ?_)
        ·
          replace hw := hw.1 c8
          refine lv_iconst (v := I 0) hx hb dX13_stepHere_44 rfl ?_
          refine lv_istore_n (lv' := [(2, .int (I 0)), (1, .int (I x2)), (0, .ref (q 0))]) hx hb dX13_stepHere_45 rfl hl (by decide) rfl (fun ls hl => ?_)
          refine lv_iconst (v := I 0) hx hb dX13_stepHere_46 rfl ?_
          refine lv_istore_n (lv' := [(3, .int (I 0)), (2, .int (I 0)), (1, .int (I x2)), (0, .ref (q 0))]) hx hb dX13_stepHere_47 rfl hl (by decide) rfl (fun ls hl => ?_)
          exact (hP48 _ _ _).mp hw r_x2 (by decide) (by decide)  H locs ls hP hD hS (lv_sub hl [3, 2, 1, 0] rfl)
        ·
          replace hw := hw.2 c8
          refine lv_iload_n hx hb dX13_stepHere_42 rfl (lv_at hl 0 rfl) ?_
          exact xri hx hb hr hlk hP hK hD hS ⟨_, r_x2, rfl, rfl, hw⟩ (Nat.le_of_ble_eq_true rfl) (Nat.le_of_ble_eq_true rfl) dX13_stepHere_43
      ·
        replace hw := hw.2 c5
        refine lv_iconst (v := I (-1)) hx hb dX13_stepHere_30 rfl ?_
        exact xri hx hb hr hlk hP hK hD hS ⟨_, (by decide), rfl, rfl, hw⟩ (Nat.le_of_ble_eq_true rfl) (Nat.le_of_ble_eq_true rfl) dX13_stepHere_31
  ·
    intro u1 u2 u3 hw
    refine (hP48 _ _ _).mpr ?_
    intro r_u1 r_u2 r_u3 H locs ls hP hD hS hl
    refine lv_iload_n hx hb dX13_stepHere_48 rfl (lv_at hl 3 rfl) ?_
    refine lv_aload_n hx hb dX13_stepHere_49 rfl (lv_at hl 0 rfl) ?_
    refine gfX13_activeHypCount hx hb hts hK hP hown (hts _ tw_2052) (x := σ.1 13) rfl dX13_stepHere_50 ?_
    refine bi_icmp_ge (tgt := 82) hx hb r_u3 (hB.1 13) dX13_stepHere_53 (by decide) (fun c9 => ?_) (fun c9 => ?_)
    ·
      replace hw := hw.1 c9
      refine lv_iload_n hx hb dX13_stepHere_82 rfl (lv_at hl 2 rfl) ?_
      refine bi_if_eq (tgt := 90) hx hb r_u2 dX13_stepHere_83 (by decide) (fun c10 => ?_) (fun c10 => ?_)
      ·
        replace hw := hw.1 c10
        refine lv_iconst (v := I (-1)) hx hb dX13_stepHere_90 rfl ?_
        exact xri hx hb hr hlk hP hK hD hS ⟨_, (by decide), rfl, rfl, hw⟩ (Nat.le_of_ble_eq_true rfl) (Nat.le_of_ble_eq_true rfl) dX13_stepHere_91
      ·
        replace hw := hw.2 c10
        refine lv_iload_n hx hb dX13_stepHere_86 rfl (lv_at hl 1 rfl) ?_
        refine lv_goto (tgt := 91) hx hb dX13_stepHere_87 (by decide) ?_
        exact xri hx hb hr hlk hP hK hD hS ⟨_, r_u1, rfl, rfl, hw⟩ (Nat.le_of_ble_eq_true rfl) (Nat.le_of_ble_eq_true rfl) dX13_stepHere_91
    ·
      replace hw := hw.2 c9
      refine lv_iload_n hx hb dX13_stepHere_56 rfl (lv_at hl 2 rfl) ?_
      refine bi_if_ne (tgt := 70) hx hb r_u2 dX13_stepHere_57 (by decide) (fun c11 => ?_) (fun c11 => ?_)
      ·
        replace hw := hw.1 c11
        refine lv_iconst (v := I 1) hx hb dX13_stepHere_70 rfl ?_
        refine lv_goto (tgt := 75) hx hb dX13_stepHere_71 (by decide) ?_
        refine lv_istore_n (lv' := [(2, .int (I 1)), (0, .ref (q 0)), (1, .int (I u1)), (3, .int (I u3))]) hx hb dX13_stepHere_75 rfl hl (by decide) rfl (fun ls hl => ?_)
        refine lv_iinc (v := I (u3 + 1)) (lv' := [(3, .int (I (u3 + 1))), (2, .int (I 1)), (0, .ref (q 0)), (1, .int (I u1))]) hx hb dX13_stepHere_76 hl (k := 3) rfl (I_add _ _) (by decide) rfl (fun ls hl => ?_)
        refine lv_goto (tgt := 48) hx hb dX13_stepHere_79 (by decide) ?_
        obtain ⟨c12, hw⟩ := hw
        exact (hP48 _ _ _).mp hw r_u1 (by decide) c12  H locs ls hP hD hS (lv_sub hl [2, 3, 1, 0] rfl)
      ·
        replace hw := hw.2 c11
        refine lv_aload_n hx hb dX13_stepHere_60 rfl (lv_at hl 0 rfl) ?_
        refine gfX13_activeHyps hx hb hts hK hP hown (hts _ tw_2051) dX13_stepHere_61 ?_
        refine lv_iload_n hx hb dX13_stepHere_64 rfl (lv_at hl 3 rfl) ?_
        obtain ⟨c13, hw⟩ := hw
        refine ldMX13_activeHyps hx hb hK hP hN c13 dX13_stepHere_65 (fun x14 r_x14 e_x14 => ?_)
        replace hw := hw x14 r_x14 e_x14
        refine lv_iload_n hx hb dX13_stepHere_66 rfl (lv_at hl 1 rfl) ?_
        refine bi_icmp_ne (tgt := 74) hx hb r_x14 r_u1 dX13_stepHere_67 (by decide) (fun c15 => ?_) (fun c15 => ?_)
        ·
          replace hw := hw.1 c15
          refine lv_iconst (v := I 0) hx hb dX13_stepHere_74 rfl ?_
          refine lv_istore_n (lv' := [(2, .int (I 0)), (0, .ref (q 0)), (1, .int (I u1)), (3, .int (I u3))]) hx hb dX13_stepHere_75 rfl hl (by decide) rfl (fun ls hl => ?_)
          refine lv_iinc (v := I (u3 + 1)) (lv' := [(3, .int (I (u3 + 1))), (2, .int (I 0)), (0, .ref (q 0)), (1, .int (I u1))]) hx hb dX13_stepHere_76 hl (k := 3) rfl (I_add _ _) (by decide) rfl (fun ls hl => ?_)
          refine lv_goto (tgt := 48) hx hb dX13_stepHere_79 (by decide) ?_
          obtain ⟨c16, hw⟩ := hw
          exact (hP48 _ _ _).mp hw r_u1 (by decide) c16  H locs ls hP hD hS (lv_sub hl [2, 3, 1, 0] rfl)
        ·
          replace hw := hw.2 c15
          refine lv_iconst (v := I 1) hx hb dX13_stepHere_70 rfl ?_
          refine lv_goto (tgt := 75) hx hb dX13_stepHere_71 (by decide) ?_
          refine lv_istore_n (lv' := [(2, .int (I 1)), (0, .ref (q 0)), (1, .int (I u1)), (3, .int (I u3))]) hx hb dX13_stepHere_75 rfl hl (by decide) rfl (fun ls hl => ?_)
          refine lv_iinc (v := I (u3 + 1)) (lv' := [(3, .int (I (u3 + 1))), (2, .int (I 1)), (0, .ref (q 0)), (1, .int (I u1))]) hx hb dX13_stepHere_76 hl (k := 3) rfl (I_add _ _) (by decide) rfl (fun ls hl => ?_)
          refine lv_goto (tgt := 48) hx hb dX13_stepHere_79 (by decide) ?_
          obtain ⟨c17, hw⟩ := hw
          exact (hP48 _ _ _).mp hw r_u1 (by decide) c17  H locs ls hP hD hS (lv_sub hl [2, 3, 1, 0] rfl)
def W_X13_addStep (n1 : Int) (n2 : Int) (σ : S0) (Q : S0 → Prop) : Prop :=
  (0 ≤ σ.1 9 ∧ σ.1 9 < 20001) ∧ (rg (σ.1 9 + 1) ∧ (0 ≤ σ.1 22 ∧ σ.1 22 < 1501) ∧ (∀ (x4 : Int), rg x4 → x4 = σ.2.1 26 (σ.1 22) → (rg (x4 + 1) ∧ Q (s_a (s_v (s_a (s_a (s_a σ 27 (σ.1 9) n1) 28 (σ.1 9) 0) 29 (σ.1 9) n2) 9 (σ.1 9 + 1)) 26 (σ.1 22) (x4 + 1)))))
set_option maxRecDepth 100000 in
set_option maxHeartbeats 4000000 in
theorem L_X13_addStep (l : Launch) (g : gG) (q : Nat → Nat) (lb : Nat) (hlb : lb < 2 ^ 31) {n1 : Int} {n2 : Int} {σ : S0} {Q : S0 → Prop} (r_n1 : rg n1) (r_n2 : rg n2) (hN : n_m σ) (hw : W_X13_addStep n1 n2 σ Q) (sz : Nat) : MetV l yX13_addStep cX13_addStep 3 { frames := 0, cells := 0, slots := 0, locals := 0 } g [.ref (q 0), .int (I n1), .int (I n2)] (MX g q lb σ) sz xT (p_V (MX g q lb) [9] [26, 27, 28, 29] [] σ Q) 0 0 := by
  refine mkMet (Qc := fun A => QV g A (p_V (MX g q lb) [9] [26, 27, 28, 29] [] σ Q)) (by decide) (Nat.le_of_ble_eq_true rfl) ?_
  intro p e s m below meth c A H ls hx hb hr hml hown hts hlk hnm hsz hP hK hNb hD hA hAe hS hX hl
  have hl : lv_has ls 3 [(0, .ref (q 0)), (1, .int (I n1)), (2, .int (I n2))] := hl
  have hB := hN
  have hF : f_r [9] [26, 27, 28, 29] [] σ σ := f_0
  obtain ⟨locs, hlocs⟩ : ∃ z : List Loc, z = [] := ⟨_, rfl⟩
  rw [← hlocs] at hS ⊢
  refine lv_aload_n hx hb dX13_addStep_0 rfl (lv_at hl 0 rfl) ?_
  refine gfX13_steps hx hb hts hK hP hown (hts _ tw_2042) dX13_addStep_1 ?_
  refine lv_aload_n hx hb dX13_addStep_4 rfl (lv_at hl 0 rfl) ?_
  refine gfX13_stepCount hx hb hts hK hP hown (hts _ tw_2045) (x := σ.1 9) rfl dX13_addStep_5 ?_
  refine lv_iload_n hx hb dX13_addStep_8 rfl (lv_at hl 1 rfl) ?_
  obtain ⟨c1, hw⟩ := hw
  refine sdMX13_steps hx hb hK hP hD hS c1 dX13_addStep_9 (fun H locs hP hD hS => ?_)
  have hN : n_m (s_a σ 27 (σ.1 9) n1) := n_a (k := 27) (j := σ.1 9) hN (r_n1 : rg n1)
  have hF : f_r [9] [26, 27, 28, 29] [] σ (s_a σ 27 (σ.1 9) n1) := f_a hF (by decide)
  refine lv_aload_n hx hb dX13_addStep_10 rfl (lv_at hl 0 rfl) ?_
  refine gfX13_saves hx hb hts hK hP hown (hts _ tw_2043) dX13_addStep_11 ?_
  refine lv_aload_n hx hb dX13_addStep_14 rfl (lv_at hl 0 rfl) ?_
  refine gfX13_stepCount hx hb hts hK hP hown (hts _ tw_2045) (x := σ.1 9) rfl dX13_addStep_15 ?_
  refine lv_iconst (v := I 0) hx hb dX13_addStep_18 rfl ?_
  refine sdMX13_saves hx hb hK hP hD hS c1 (by decide) dX13_addStep_19 (fun H locs hP hD hS => ?_)
  have hN : n_m (s_a (s_a σ 27 (σ.1 9) n1) 28 (σ.1 9) 0) := n_a (k := 28) (j := σ.1 9) hN ((by decide) : rg 0)
  have hF : f_r [9] [26, 27, 28, 29] [] σ (s_a (s_a σ 27 (σ.1 9) n1) 28 (σ.1 9) 0) := f_a hF (by decide)
  refine lv_aload_n hx hb dX13_addStep_20 rfl (lv_at hl 0 rfl) ?_
  refine gfX13_stepPlace hx hb hts hK hP hown (hts _ tw_2044) dX13_addStep_21 ?_
  refine lv_aload_n hx hb dX13_addStep_24 rfl (lv_at hl 0 rfl) ?_
  refine gfX13_stepCount hx hb hts hK hP hown (hts _ tw_2045) (x := σ.1 9) rfl dX13_addStep_25 ?_
  refine lv_iload_n hx hb dX13_addStep_28 rfl (lv_at hl 2 rfl) ?_
  refine sdMX13_stepPlace hx hb hK hP hD hS c1 dX13_addStep_29 (fun H locs hP hD hS => ?_)
  have hN : n_m (s_a (s_a (s_a σ 27 (σ.1 9) n1) 28 (σ.1 9) 0) 29 (σ.1 9) n2) := n_a (k := 29) (j := σ.1 9) hN (r_n2 : rg n2)
  have hF : f_r [9] [26, 27, 28, 29] [] σ (s_a (s_a (s_a σ 27 (σ.1 9) n1) 28 (σ.1 9) 0) 29 (σ.1 9) n2) := f_a hF (by decide)
  refine lv_aload_n hx hb dX13_addStep_30 rfl (lv_at hl 0 rfl) ?_
  refine lv_dup hx hb dX13_addStep_31 rfl ?_
  refine gfX13_stepCount hx hb hts hK hP hown (hts _ tw_2045) (x := σ.1 9) rfl dX13_addStep_32 ?_
  refine lv_iconst (v := I 1) hx hb dX13_addStep_35 rfl ?_
  refine bi_iadd hx hb dX13_addStep_36 ?_
  obtain ⟨c2, hw⟩ := hw
  refine pfX13_stepCount hx hb hts hK hP hD hS hown (hts _ tw_2045) dX13_addStep_37 (fun H locs hP hD hS => ?_)
  have hN : n_m (s_v (s_a (s_a (s_a σ 27 (σ.1 9) n1) 28 (σ.1 9) 0) 29 (σ.1 9) n2) 9 (σ.1 9 + 1)) := n_v (i := 9) hN (c2 : rg (σ.1 9 + 1))
  have hF : f_r [9] [26, 27, 28, 29] [] σ (s_v (s_a (s_a (s_a σ 27 (σ.1 9) n1) 28 (σ.1 9) 0) 29 (σ.1 9) n2) 9 (σ.1 9 + 1)) := f_v hF (by decide)
  refine lv_aload_n hx hb dX13_addStep_40 rfl (lv_at hl 0 rfl) ?_
  refine gfX13_stepSize hx hb hts hK hP hown (hts _ tw_2041) dX13_addStep_41 ?_
  refine lv_aload_n hx hb dX13_addStep_44 rfl (lv_at hl 0 rfl) ?_
  refine gfX13_now hx hb hts hK hP hown (hts _ tw_2068) (x := σ.1 22) rfl dX13_addStep_45 ?_
  refine lv_dup2_11 hx hb dX13_addStep_48 rfl rfl ?_
  obtain ⟨c3, hw⟩ := hw
  refine ldMX13_stepSize hx hb hK hP hN c3 dX13_addStep_49 (fun x4 r_x4 e_x4 => ?_)
  replace hw := hw x4 r_x4 e_x4
  refine lv_iconst (v := I 1) hx hb dX13_addStep_50 rfl ?_
  refine bi_iadd hx hb dX13_addStep_51 ?_
  obtain ⟨c5, hw⟩ := hw
  refine sdMX13_stepSize hx hb hK hP hD hS c3 dX13_addStep_52 (fun H locs hP hD hS => ?_)
  have hN : n_m (s_a (s_v (s_a (s_a (s_a σ 27 (σ.1 9) n1) 28 (σ.1 9) 0) 29 (σ.1 9) n2) 9 (σ.1 9 + 1)) 26 (σ.1 22) (x4 + 1)) := n_a (k := 26) (j := σ.1 22) hN (c5 : rg (x4 + 1))
  have hF : f_r [9] [26, 27, 28, 29] [] σ (s_a (s_v (s_a (s_a (s_a σ 27 (σ.1 9) n1) 28 (σ.1 9) 0) 29 (σ.1 9) n2) 9 (σ.1 9 + 1)) 26 (σ.1 22) (x4 + 1)) := f_a hF (by decide)
  exact xrv hx hb hr hlk hP hK hD hS ⟨_, hN, hF, rfl, hw⟩ (Nat.le_of_ble_eq_true rfl) (Nat.le_of_ble_eq_true rfl) dX13_addStep_53
def W_X13_readPlain (σ : S0) (Q : S0 → Prop) : Prop :=
  ∀ (P0 : S0 → Prop) (P60 : S0 → Prop) (P88 : Int → S0 → Prop) (P111 : S0 → Prop),
  (∀ (τ : S0), ((¬ τ.1 20 = 0 → Q τ) ∧ (τ.1 20 = 0 → (τ.1 19 = 46 → Q τ) ∧ (¬ τ.1 19 = 46 → (τ.1 19 = 1 → (¬ τ.1 18 = 1 → P60 τ) ∧ (τ.1 18 = 1 → (0 ≤ τ.1 17 ∧ τ.1 17 < 60000) ∧ (∀ (x6 : Int), rg x6 → x6 = τ.2.1 0 (τ.1 17) → ((¬ x6 = 63 → P60 τ) ∧ (x6 = 63 → P111 (s_v τ 23 1)))))) ∧ (¬ τ.1 19 = 1 → ∃ (Q8 : S0 → Prop), W_X13_failHere 4 τ Q8 ∧ ∀ (τ10 : S0), n_m τ10 → f_r [20, 21] [] [] τ τ10 → Q8 τ10 → (Q τ10))))) → P0 τ) →
  (∀ (τ : S0), (∃ (Q11 : Int → Prop), W_X13_stepHere τ Q11 ∧ ∀ (x12 : Int), rg x12 → Q11 x12 → ((x12 = (-1) → P88 x12 τ) ∧ (¬ x12 = (-1) → (¬ τ.1 9 = 20000 → P88 x12 τ) ∧ (τ.1 9 = 20000 → ∃ (Q16 : S0 → Prop), W_X13_failHere 5 τ Q16 ∧ ∀ (τ18 : S0), n_m τ18 → f_r [20, 21] [] [] τ τ18 → Q16 τ18 → (P111 τ18))))) → P60 τ) →
  (∀ (u1 : Int) (τ : S0), ((¬ u1 = (-1) → ∃ (Q24 : S0 → Prop), W_X13_addStep u1 (τ.1 17) τ Q24 ∧ ∀ (τ26 : S0), n_m τ26 → f_r [9] [26, 27, 28, 29] [] τ τ26 → Q24 τ26 → (P111 τ26)) ∧ (u1 = (-1) → ∃ (Q27 : S0 → Prop), W_X13_failHere 13 τ Q27 ∧ ∀ (τ29 : S0), n_m τ29 → f_r [20, 21] [] [] τ τ29 → Q27 τ29 → (P111 τ29))) → P88 u1 τ) →
  (∀ (τ : S0), ((¬ τ.1 20 = 0 → P0 τ) ∧ (τ.1 20 = 0 → ∃ (Q20 : S0 → Prop), W_X13_next τ Q20 ∧ ∀ (τ22 : S0), n_m τ22 → f_r [16, 17, 18, 19, 20, 21] [] [] τ τ22 → Q20 τ22 → (P0 τ22))) → P111 τ) →
  P0 σ
set_option maxRecDepth 100000 in
set_option maxHeartbeats 4000000 in
theorem L_X13_readPlain (l : Launch) (g : gG) (q : Nat → Nat) (lb : Nat) (hlb : lb < 2 ^ 31) {σ : S0} {Q : S0 → Prop} (hN : n_m σ) (hw : W_X13_readPlain σ Q) (sz : Nat) : MetV l yX13_readPlain cX13_readPlain 2 { frames := 4, cells := 0, slots := 0, locals := 84 } g [.ref (q 0)] (MX g q lb σ) sz xT (p_V (MX g q lb) [9, 16, 17, 18, 19, 20, 21, 23] [26, 27, 28, 29] [] σ Q) 0 0 := by
  refine mkMet (Qc := fun A => QV g A (p_V (MX g q lb) [9, 16, 17, 18, 19, 20, 21, 23] [26, 27, 28, 29] [] σ Q)) (by decide) (Nat.le_of_ble_eq_true rfl) ?_
  intro p e s m below meth c A H ls hx hb hr hml hown hts hlk hnm hsz hP hK hNb hD hA hAe hS hX hl
  have hl : lv_has ls 2 [(0, .ref (q 0))] := hl
  have hB := hN
  have hF : f_r [9, 16, 17, 18, 19, 20, 21, 23] [26, 27, 28, 29] [] σ σ := f_0
  obtain ⟨locs, hlocs⟩ : ∃ z : List Loc, z = [] := ⟨_, rfl⟩
  rw [← hlocs] at hS ⊢
  obtain ⟨P0, hP0⟩ : ∃ P : S0 → Prop, ∀ (τ : S0), (P τ ↔ (n_m τ → f_r [9, 16, 17, 18, 19, 20, 21, 23] [26, 27, 28, 29] [] σ τ → ∀ (H : Heap) (locs : List Loc) (ls : Array Slot), KP g (MX g q lb τ) H → va_D A (MX g q lb τ) → va_S A s.heap H locs → lv_has ls 2 [(0, .ref (q 0))] → W p l e ({ frames := 4, cells := 0, slots := 0, locals := 84 }) s m [.ref (q 0)].toArray below meth c H locs 0 0 (MQ below (QV g A (p_V (MX g q lb) [9, 16, 17, 18, 19, 20, 21, 23] [26, 27, 28, 29] [] σ Q)) [.ref (q 0)].toArray s 0 0 A) (F0 m 0 ls []))) := ⟨_, fun _ => Iff.rfl⟩
  obtain ⟨P60, hP60⟩ : ∃ P : S0 → Prop, ∀ (τ : S0), (P τ ↔ (n_m τ → f_r [9, 16, 17, 18, 19, 20, 21, 23] [26, 27, 28, 29] [] σ τ → ∀ (H : Heap) (locs : List Loc) (ls : Array Slot), KP g (MX g q lb τ) H → va_D A (MX g q lb τ) → va_S A s.heap H locs → lv_has ls 2 [(0, .ref (q 0))] → W p l e ({ frames := 4, cells := 0, slots := 0, locals := 84 }) s m [.ref (q 0)].toArray below meth c H locs 0 0 (MQ below (QV g A (p_V (MX g q lb) [9, 16, 17, 18, 19, 20, 21, 23] [26, 27, 28, 29] [] σ Q)) [.ref (q 0)].toArray s 0 0 A) (F0 m 60 ls []))) := ⟨_, fun _ => Iff.rfl⟩
  obtain ⟨P88, hP88⟩ : ∃ P : Int → S0 → Prop, ∀ (u1 : Int) (τ : S0), (P u1 τ ↔ (rg u1 → n_m τ → f_r [9, 16, 17, 18, 19, 20, 21, 23] [26, 27, 28, 29] [] σ τ → ∀ (H : Heap) (locs : List Loc) (ls : Array Slot), KP g (MX g q lb τ) H → va_D A (MX g q lb τ) → va_S A s.heap H locs → lv_has ls 2 [(0, .ref (q 0)), (1, .int (I u1))] → W p l e ({ frames := 4, cells := 0, slots := 0, locals := 84 }) s m [.ref (q 0)].toArray below meth c H locs 0 0 (MQ below (QV g A (p_V (MX g q lb) [9, 16, 17, 18, 19, 20, 21, 23] [26, 27, 28, 29] [] σ Q)) [.ref (q 0)].toArray s 0 0 A) (F0 m 88 ls []))) := ⟨_, fun _ _ => Iff.rfl⟩
  obtain ⟨P111, hP111⟩ : ∃ P : S0 → Prop, ∀ (τ : S0), (P τ ↔ (n_m τ → f_r [9, 16, 17, 18, 19, 20, 21, 23] [26, 27, 28, 29] [] σ τ → ∀ (H : Heap) (locs : List Loc) (ls : Array Slot), KP g (MX g q lb τ) H → va_D A (MX g q lb τ) → va_S A s.heap H locs → lv_has ls 2 [(0, .ref (q 0))] → W p l e ({ frames := 4, cells := 0, slots := 0, locals := 84 }) s m [.ref (q 0)].toArray below meth c H locs 0 0 (MQ below (QV g A (p_V (MX g q lb) [9, 16, 17, 18, 19, 20, 21, 23] [26, 27, 28, 29] [] σ Q)) [.ref (q 0)].toArray s 0 0 A) (F0 m 111 ls []))) := ⟨_, fun _ => Iff.rfl⟩
  refine (fun hw => ?_) (hw P0 P60 P88 P111 ?_ ?_ ?_ ?_)
  ·
    exact (hP0 _).mp hw hN hF H locs ls hP hD hS (lv_sub hl [0] rfl)
  ·
    intro τ hw
    refine (hP0 _).mpr ?_
    intro hN hF H locs ls hP hD hS hl
    have hB := hN
    refine lv_aload_n hx hb dX13_readPlain_0 rfl (lv_at hl 0 rfl) ?_
    refine gfX13_fault hx hb hts hK hP hown (hts _ tw_2065) (x := τ.1 20) rfl dX13_readPlain_1 ?_
    refine bi_if_ne (tgt := 125) hx hb (hB.1 20) dX13_readPlain_4 (by decide) (fun c1 => ?_) (fun c1 => ?_)
    ·
      replace hw := hw.1 c1
      exact xrv hx hb hr hlk hP hK hD hS ⟨_, hN, hF, rfl, hw⟩ (Nat.le_of_ble_eq_true rfl) (Nat.le_of_ble_eq_true rfl) dX13_readPlain_125
    ·
      replace hw := hw.2 c1
      refine lv_aload_n hx hb dX13_readPlain_7 rfl (lv_at hl 0 rfl) ?_
      refine gfX13_token hx hb hts hK hP hown (hts _ tw_2064) (x := τ.1 19) rfl dX13_readPlain_8 ?_
      refine lv_bipush (v := I 46) hx hb dX13_readPlain_11 (by decide) ?_
      refine bi_icmp_eq (tgt := 125) hx hb (hB.1 19) (by decide) dX13_readPlain_13 (by decide) (fun c2 => ?_) (fun c2 => ?_)
      ·
        replace hw := hw.1 c2
        exact xrv hx hb hr hlk hP hK hD hS ⟨_, hN, hF, rfl, hw⟩ (Nat.le_of_ble_eq_true rfl) (Nat.le_of_ble_eq_true rfl) dX13_readPlain_125
      ·
        replace hw := hw.2 c2
        refine lv_aload_n hx hb dX13_readPlain_16 rfl (lv_at hl 0 rfl) ?_
        refine gfX13_token hx hb hts hK hP hown (hts _ tw_2064) (x := τ.1 19) rfl dX13_readPlain_17 ?_
        refine lv_iconst (v := I 1) hx hb dX13_readPlain_20 rfl ?_
        refine bi_icmp_eq (tgt := 30) hx hb (hB.1 19) (by decide) dX13_readPlain_21 (by decide) (fun c3 => ?_) (fun c3 => ?_)
        ·
          replace hw := hw.1 c3
          refine lv_aload_n hx hb dX13_readPlain_30 rfl (lv_at hl 0 rfl) ?_
          refine gfX13_tokenSize hx hb hts hK hP hown (hts _ tw_2063) (x := τ.1 18) rfl dX13_readPlain_31 ?_
          refine lv_iconst (v := I 1) hx hb dX13_readPlain_34 rfl ?_
          refine bi_icmp_ne (tgt := 60) hx hb (hB.1 18) (by decide) dX13_readPlain_35 (by decide) (fun c4 => ?_) (fun c4 => ?_)
          ·
            replace hw := hw.1 c4
            exact (hP60 _).mp hw hN hF H locs ls hP hD hS (lv_sub hl [0] rfl)
          ·
            replace hw := hw.2 c4
            refine lv_aload_n hx hb dX13_readPlain_38 rfl (lv_at hl 0 rfl) ?_
            refine gfX13_tape hx hb hts hK hP hown (hts _ tw_2006) dX13_readPlain_39 ?_
            refine lv_aload_n hx hb dX13_readPlain_42 rfl (lv_at hl 0 rfl) ?_
            refine gfX13_tokenAt hx hb hts hK hP hown (hts _ tw_2062) (x := τ.1 17) rfl dX13_readPlain_43 ?_
            obtain ⟨c5, hw⟩ := hw
            refine ldMX13_tape hx hb hK hP hN c5 dX13_readPlain_46 (fun x6 r_x6 e_x6 => ?_)
            replace hw := hw x6 r_x6 e_x6
            refine lv_bipush (v := I 63) hx hb dX13_readPlain_47 (by decide) ?_
            refine bi_icmp_ne (tgt := 60) hx hb r_x6 (by decide) dX13_readPlain_49 (by decide) (fun c7 => ?_) (fun c7 => ?_)
            ·
              replace hw := hw.1 c7
              exact (hP60 _).mp hw hN hF H locs ls hP hD hS (lv_sub hl [0] rfl)
            ·
              replace hw := hw.2 c7
              refine lv_aload_n hx hb dX13_readPlain_52 rfl (lv_at hl 0 rfl) ?_
              refine lv_iconst (v := I 1) hx hb dX13_readPlain_53 rfl ?_
              refine pfX13_isOpen hx hb hts hK hP hD hS hown (hts _ tw_2070) (by decide)  dX13_readPlain_54 (fun H locs hP hD hS => ?_)
              have hN : n_m (s_v τ 23 1) := n_v (i := 23) hN ((by decide) : rg 1)
              have hF : f_r [9, 16, 17, 18, 19, 20, 21, 23] [26, 27, 28, 29] [] σ (s_v τ 23 1) := f_v hF (by decide)
              refine lv_goto (tgt := 111) hx hb dX13_readPlain_57 (by decide) ?_
              exact (hP111 _).mp hw hN hF H locs ls hP hD hS (lv_sub hl [0] rfl)
        ·
          replace hw := hw.2 c3
          refine lv_aload_n hx hb dX13_readPlain_24 rfl (lv_at hl 0 rfl) ?_
          refine lv_iconst (v := I 4) hx hb dX13_readPlain_25 rfl ?_
          obtain ⟨Q8, hc, hw⟩ := hw
          refine wc_V (X := MX g q lb) (va_runV (As := [.int (I 4)]) (rest := []) ⟨hx, hb, hml, hown, hts⟩ (L_X13_failHere l g q lb hlb (by decide) hN hc H.size) (cwV 1 hts (TB_V tw_2585 tw_2587 ts_114 tw_15 co_X13_failHere) rfl rfl rfl (by decide +kernel) ⟨Nat.le_of_ble_eq_true rfl, Nat.le_of_ble_eq_true rfl⟩) (preV (q0 := 0) (ci := 13) rfl xT_bl hP hK hNb hD rfl rfl xT_at) rfl rfl hl.1 rfl (lv_room (Nat.le_of_ble_eq_true rfl)) dX13_readPlain_26 ⟨Nat.le_of_ble_eq_true rfl, Nat.le_of_ble_eq_true rfl⟩) hP hD hS hA (fun τ10 H locs hN hf hq hP hD hS => ?_)
          replace hw := hw τ10 hN hf hq
          have hF : f_r [9, 16, 17, 18, 19, 20, 21, 23] [26, 27, 28, 29] [] σ τ10 := f_t hF hf (by decide) (by decide) (by decide)
          have hB := hN
          exact xrv hx hb hr hlk hP hK hD hS ⟨_, hN, hF, rfl, hw⟩ (Nat.le_of_ble_eq_true rfl) (Nat.le_of_ble_eq_true rfl) dX13_readPlain_29
  ·
    intro τ hw
    refine (hP60 _).mpr ?_
    intro hN hF H locs ls hP hD hS hl
    have hB := hN
    refine lv_aload_n hx hb dX13_readPlain_60 rfl (lv_at hl 0 rfl) ?_
    obtain ⟨Q11, hc, hw⟩ := hw
    refine wc_i (X := MX g q lb) (va_runV (As := []) (rest := []) ⟨hx, hb, hml, hown, hts⟩ (L_X13_stepHere l g q lb hlb  hN hc H.size) (cwV 0 hts (TB_V tw_2673 tw_2675 ts_133 tw_15 co_X13_stepHere) rfl rfl rfl (by decide +kernel) ⟨Nat.le_of_ble_eq_true rfl, Nat.le_of_ble_eq_true rfl⟩) (preV (q0 := 0) (ci := 13) rfl xT_bl hP hK hNb hD rfl rfl xT_at) rfl rfl hl.1 rfl (lv_room (Nat.le_of_ble_eq_true rfl)) dX13_readPlain_61 ⟨Nat.le_of_ble_eq_true rfl, Nat.le_of_ble_eq_true rfl⟩) hP hD hS hA (fun x12 H locs r_x12 hq hP hD hS => ?_)
    replace hw := hw x12 r_x12 hq
    refine lv_istore_n (lv' := [(1, .int (I x12)), (0, .ref (q 0))]) hx hb dX13_readPlain_64 rfl hl (by decide) rfl (fun ls hl => ?_)
    refine lv_iload_n hx hb dX13_readPlain_65 rfl (lv_at hl 0 rfl) ?_
    refine lv_iconst (v := I (-1)) hx hb dX13_readPlain_66 rfl ?_
    refine bi_icmp_eq (tgt := 88) hx hb r_x12 (by decide) dX13_readPlain_67 (by decide) (fun c14 => ?_) (fun c14 => ?_)
    ·
      replace hw := hw.1 c14
      exact (hP88 _ _).mp hw r_x12 hN hF H locs ls hP hD hS (lv_sub hl [1, 0] rfl)
    ·
      replace hw := hw.2 c14
      refine lv_aload_n hx hb dX13_readPlain_70 rfl (lv_at hl 1 rfl) ?_
      refine gfX13_stepCount hx hb hts hK hP hown (hts _ tw_2045) (x := τ.1 9) rfl dX13_readPlain_71 ?_
      refine lv_sipush (v := I 20000) hx hb dX13_readPlain_74 (by decide) ?_
      refine bi_icmp_ne (tgt := 88) hx hb (hB.1 9) (by decide) dX13_readPlain_77 (by decide) (fun c15 => ?_) (fun c15 => ?_)
      ·
        replace hw := hw.1 c15
        exact (hP88 _ _).mp hw r_x12 hN hF H locs ls hP hD hS (lv_sub hl [1, 0] rfl)
      ·
        replace hw := hw.2 c15
        refine lv_aload_n hx hb dX13_readPlain_80 rfl (lv_at hl 1 rfl) ?_
        refine lv_iconst (v := I 5) hx hb dX13_readPlain_81 rfl ?_
        obtain ⟨Q16, hc, hw⟩ := hw
        refine wc_V (X := MX g q lb) (va_runV (As := [.int (I 5)]) (rest := []) ⟨hx, hb, hml, hown, hts⟩ (L_X13_failHere l g q lb hlb (by decide) hN hc H.size) (cwV 1 hts (TB_V tw_2585 tw_2587 ts_114 tw_15 co_X13_failHere) rfl rfl rfl (by decide +kernel) ⟨Nat.le_of_ble_eq_true rfl, Nat.le_of_ble_eq_true rfl⟩) (preV (q0 := 0) (ci := 13) rfl xT_bl hP hK hNb hD rfl rfl xT_at) rfl rfl hl.1 rfl (lv_room (Nat.le_of_ble_eq_true rfl)) dX13_readPlain_82 ⟨Nat.le_of_ble_eq_true rfl, Nat.le_of_ble_eq_true rfl⟩) hP hD hS hA (fun τ18 H locs hN hf hq hP hD hS => ?_)
        replace hw := hw τ18 hN hf hq
        have hF : f_r [9, 16, 17, 18, 19, 20, 21, 23] [26, 27, 28, 29] [] σ τ18 := f_t hF hf (by decide) (by decide) (by decide)
        have hB := hN
        refine lv_goto (tgt := 111) hx hb dX13_readPlain_85 (by decide) ?_
        exact (hP111 _).mp hw hN hF H locs ls hP hD hS (lv_sub hl [1] rfl)
  ·
    intro u1 τ hw
    refine (hP88 _ _).mpr ?_
    intro r_u1 hN hF H locs ls hP hD hS hl
    have hB := hN
    refine lv_iload_n hx hb dX13_readPlain_88 rfl (lv_at hl 1 rfl) ?_
    refine lv_iconst (v := I (-1)) hx hb dX13_readPlain_89 rfl ?_
    refine bi_icmp_ne (tgt := 102) hx hb r_u1 (by decide) dX13_readPlain_90 (by decide) (fun c23 => ?_) (fun c23 => ?_)
    ·
      replace hw := hw.1 c23
      refine lv_aload_n hx hb dX13_readPlain_102 rfl (lv_at hl 0 rfl) ?_
      refine lv_iload_n hx hb dX13_readPlain_103 rfl (lv_at hl 1 rfl) ?_
      refine lv_aload_n hx hb dX13_readPlain_104 rfl (lv_at hl 0 rfl) ?_
      refine gfX13_tokenAt hx hb hts hK hP hown (hts _ tw_2062) (x := τ.1 17) rfl dX13_readPlain_105 ?_
      obtain ⟨Q24, hc, hw⟩ := hw
      refine wc_V (X := MX g q lb) (va_runV (As := [.int (I u1), .int (I (τ.1 17))]) (rest := []) ⟨hx, hb, hml, hown, hts⟩ (L_X13_addStep l g q lb hlb r_u1 (hB.1 17) hN hc H.size) (cwV 2 hts (TB_V tw_2691 tw_2693 ts_137 tw_15 co_X13_addStep) rfl rfl rfl (by decide +kernel) ⟨Nat.le_of_ble_eq_true rfl, Nat.le_of_ble_eq_true rfl⟩) (preV (q0 := 0) (ci := 13) rfl xT_bl hP hK hNb hD rfl rfl xT_at) rfl rfl hl.1 rfl (lv_room (Nat.le_of_ble_eq_true rfl)) dX13_readPlain_108 ⟨Nat.le_of_ble_eq_true rfl, Nat.le_of_ble_eq_true rfl⟩) hP hD hS hA (fun τ26 H locs hN hf hq hP hD hS => ?_)
      replace hw := hw τ26 hN hf hq
      have hF : f_r [9, 16, 17, 18, 19, 20, 21, 23] [26, 27, 28, 29] [] σ τ26 := f_t hF hf (by decide) (by decide) (by decide)
      have hB := hN
      exact (hP111 _).mp hw hN hF H locs ls hP hD hS (lv_sub hl [0] rfl)
    ·
      replace hw := hw.2 c23
      refine lv_aload_n hx hb dX13_readPlain_93 rfl (lv_at hl 0 rfl) ?_
      refine lv_bipush (v := I 13) hx hb dX13_readPlain_94 (by decide) ?_
      obtain ⟨Q27, hc, hw⟩ := hw
      refine wc_V (X := MX g q lb) (va_runV (As := [.int (I 13)]) (rest := []) ⟨hx, hb, hml, hown, hts⟩ (L_X13_failHere l g q lb hlb (by decide) hN hc H.size) (cwV 1 hts (TB_V tw_2585 tw_2587 ts_114 tw_15 co_X13_failHere) rfl rfl rfl (by decide +kernel) ⟨Nat.le_of_ble_eq_true rfl, Nat.le_of_ble_eq_true rfl⟩) (preV (q0 := 0) (ci := 13) rfl xT_bl hP hK hNb hD rfl rfl xT_at) rfl rfl hl.1 rfl (lv_room (Nat.le_of_ble_eq_true rfl)) dX13_readPlain_96 ⟨Nat.le_of_ble_eq_true rfl, Nat.le_of_ble_eq_true rfl⟩) hP hD hS hA (fun τ29 H locs hN hf hq hP hD hS => ?_)
      replace hw := hw τ29 hN hf hq
      have hF : f_r [9, 16, 17, 18, 19, 20, 21, 23] [26, 27, 28, 29] [] σ τ29 := f_t hF hf (by decide) (by decide) (by decide)
      have hB := hN
      refine lv_goto (tgt := 111) hx hb dX13_readPlain_99 (by decide) ?_
      exact (hP111 _).mp hw hN hF H locs ls hP hD hS (lv_sub hl [0] rfl)
  ·
    intro τ hw
    refine (hP111 _).mpr ?_
    intro hN hF H locs ls hP hD hS hl
    have hB := hN
    refine lv_aload_n hx hb dX13_readPlain_111 rfl (lv_at hl 0 rfl) ?_
    refine gfX13_fault hx hb hts hK hP hown (hts _ tw_2065) (x := τ.1 20) rfl dX13_readPlain_112 ?_
    refine bi_if_ne (tgt := 0) hx hb (hB.1 20) dX13_readPlain_115 (by decide) (fun c19 => ?_) (fun c19 => ?_)
    ·
      replace hw := hw.1 c19
      exact (hP0 _).mp hw hN hF H locs ls hP hD hS (lv_sub hl [0] rfl)
    ·
      replace hw := hw.2 c19
      refine lv_aload_n hx hb dX13_readPlain_118 rfl (lv_at hl 0 rfl) ?_
      obtain ⟨Q20, hc, hw⟩ := hw
      refine wc_V (X := MX g q lb) (va_runV (As := []) (rest := []) ⟨hx, hb, hml, hown, hts⟩ (L_X13_next l g q lb hlb  hN hc H.size) (cwV 0 hts (TB_V tw_2536 tw_2538 ts_104 tw_15 co_X13_next) rfl rfl rfl (by decide +kernel) ⟨Nat.le_of_ble_eq_true rfl, Nat.le_of_ble_eq_true rfl⟩) (preV (q0 := 0) (ci := 13) rfl xT_bl hP hK hNb hD rfl rfl xT_at) rfl rfl hl.1 rfl (lv_room (Nat.le_of_ble_eq_true rfl)) dX13_readPlain_119 ⟨Nat.le_of_ble_eq_true rfl, Nat.le_of_ble_eq_true rfl⟩) hP hD hS hA (fun τ22 H locs hN hf hq hP hD hS => ?_)
      replace hw := hw τ22 hN hf hq
      have hF : f_r [9, 16, 17, 18, 19, 20, 21, 23] [26, 27, 28, 29] [] σ τ22 := f_t hF hf (by decide) (by decide) (by decide)
      have hB := hN
      refine lv_goto (tgt := 0) hx hb dX13_readPlain_122 (by decide) ?_
      exact (hP0 _).mp hw hN hF H locs ls hP hD hS (lv_sub hl [0] rfl)
def W_X13_readPackedLabels (σ : S0) (Q : S0 → Prop) : Prop :=
  ∀ (P9 : S0 → Prop) (P46 : S0 → Prop) (P90 : Int → Int → Int → S0 → Prop),
  (∀ (τ : S0), ((¬ τ.1 20 = 0 → Q τ) ∧ (τ.1 20 = 0 → (¬ τ.1 19 = 1 → P46 τ) ∧ (τ.1 19 = 1 → (¬ τ.1 18 = 1 → P46 τ) ∧ (τ.1 18 = 1 → (0 ≤ τ.1 17 ∧ τ.1 17 < 60000) ∧ (∀ (x8 : Int), rg x8 → x8 = τ.2.1 0 (τ.1 17) → ((x8 = 41 → Q τ) ∧ (¬ x8 = 41 → P46 τ))))))) → P9 τ) →
  (∀ (τ : S0), ((τ.1 19 = 1 → ∃ (Q11 : Int → Prop), W_X13_stepHere τ Q11 ∧ ∀ (x12 : Int), rg x12 → Q11 x12 → ((x12 = (-1) → P90 x12 0 0 τ) ∧ (¬ x12 = (-1) → ∃ (Q15 : Int → Prop), W_X13_isMandatory (τ.1 22) x12 τ Q15 ∧ ∀ (x16 : Int), rg x16 → Q15 x16 → ((x16 = 0 → P90 x12 0 0 τ) ∧ (¬ x16 = 0 → P90 x12 1 0 τ))))) ∧ (¬ τ.1 19 = 1 → ∃ (Q19 : S0 → Prop), W_X13_failHere 4 τ Q19 ∧ ∀ (τ21 : S0), n_m τ21 → f_r [20, 21] [] [] τ τ21 → Q19 τ21 → (Q τ21))) → P46 τ) →
  (∀ (u1 : Int) (u2 : Int) (u3 : Int) (τ : S0), ((τ.1 25 ≤ u3 → (¬ τ.1 25 = 300 → (¬ u1 = (-1) → (u2 = 0 → (0 ≤ τ.1 25 ∧ τ.1 25 < 300) ∧ (rg (τ.1 25 + 1) ∧ ∃ (Q28 : S0 → Prop), W_X13_next (s_v (s_a τ 39 (τ.1 25) u1) 25 (τ.1 25 + 1)) Q28 ∧ ∀ (τ30 : S0), n_m τ30 → f_r [16, 17, 18, 19, 20, 21] [] [] (s_v (s_a τ 39 (τ.1 25) u1) 25 (τ.1 25 + 1)) τ30 → Q28 τ30 → (P9 τ30))) ∧ (¬ u2 = 0 → ∃ (Q31 : S0 → Prop), W_X13_failHere 14 τ Q31 ∧ ∀ (τ33 : S0), n_m τ33 → f_r [20, 21] [] [] τ τ33 → Q31 τ33 → (P9 τ33))) ∧ (u1 = (-1) → ∃ (Q34 : S0 → Prop), W_X13_failHere 13 τ Q34 ∧ ∀ (τ36 : S0), n_m τ36 → f_r [20, 21] [] [] τ τ36 → Q34 τ36 → (P9 τ36))) ∧ (τ.1 25 = 300 → ∃ (Q37 : S0 → Prop), W_X13_failHere 5 τ Q37 ∧ ∀ (τ39 : S0), n_m τ39 → f_r [20, 21] [] [] τ τ39 → Q37 τ39 → (P9 τ39))) ∧ (u3 < τ.1 25 → (¬ u2 = 0 → rg (u3 + 1) ∧ P90 u1 1 (u3 + 1) τ) ∧ (u2 = 0 → (0 ≤ u3 ∧ u3 < 300) ∧ (∀ (x43 : Int), rg x43 → x43 = τ.2.1 39 u3 → ((¬ x43 = u1 → rg (u3 + 1) ∧ P90 u1 0 (u3 + 1) τ) ∧ (x43 = u1 → rg (u3 + 1) ∧ P90 u1 1 (u3 + 1) τ)))))) → P90 u1 u2 u3 τ) →
  ∃ (Q1 : S0 → Prop), W_X13_next (s_v σ 25 0) Q1 ∧ ∀ (τ3 : S0), n_m τ3 → f_r [16, 17, 18, 19, 20, 21] [] [] (s_v σ 25 0) τ3 → Q1 τ3 → (P9 τ3)
set_option maxRecDepth 100000 in
set_option maxHeartbeats 4000000 in
theorem L_X13_readPackedLabels (l : Launch) (g : gG) (q : Nat → Nat) (lb : Nat) (hlb : lb < 2 ^ 31) {σ : S0} {Q : S0 → Prop} (hN : n_m σ) (hw : W_X13_readPackedLabels σ Q) (sz : Nat) : MetV l yX13_readPackedLabels cX13_readPackedLabels 4 { frames := 4, cells := 0, slots := 0, locals := 84 } g [.ref (q 0)] (MX g q lb σ) sz xT (p_V (MX g q lb) [16, 17, 18, 19, 20, 21, 25] [39] [] σ Q) 0 0 := by
  refine mkMet (Qc := fun A => QV g A (p_V (MX g q lb) [16, 17, 18, 19, 20, 21, 25] [39] [] σ Q)) (by decide) (Nat.le_of_ble_eq_true rfl) ?_
  intro p e s m below meth c A H ls hx hb hr hml hown hts hlk hnm hsz hP hK hNb hD hA hAe hS hX hl
  have hl : lv_has ls 4 [(0, .ref (q 0))] := hl
  have hB := hN
  have hF : f_r [16, 17, 18, 19, 20, 21, 25] [39] [] σ σ := f_0
  obtain ⟨locs, hlocs⟩ : ∃ z : List Loc, z = [] := ⟨_, rfl⟩
  rw [← hlocs] at hS ⊢
  obtain ⟨P9, hP9⟩ : ∃ P : S0 → Prop, ∀ (τ : S0), (P τ ↔ (n_m τ → f_r [16, 17, 18, 19, 20, 21, 25] [39] [] σ τ → ∀ (H : Heap) (locs : List Loc) (ls : Array Slot), KP g (MX g q lb τ) H → va_D A (MX g q lb τ) → va_S A s.heap H locs → lv_has ls 4 [(0, .ref (q 0))] → W p l e ({ frames := 4, cells := 0, slots := 0, locals := 84 }) s m [.ref (q 0)].toArray below meth c H locs 0 0 (MQ below (QV g A (p_V (MX g q lb) [16, 17, 18, 19, 20, 21, 25] [39] [] σ Q)) [.ref (q 0)].toArray s 0 0 A) (F0 m 9 ls []))) := ⟨_, fun _ => Iff.rfl⟩
  obtain ⟨P46, hP46⟩ : ∃ P : S0 → Prop, ∀ (τ : S0), (P τ ↔ (n_m τ → f_r [16, 17, 18, 19, 20, 21, 25] [39] [] σ τ → ∀ (H : Heap) (locs : List Loc) (ls : Array Slot), KP g (MX g q lb τ) H → va_D A (MX g q lb τ) → va_S A s.heap H locs → lv_has ls 4 [(0, .ref (q 0))] → W p l e ({ frames := 4, cells := 0, slots := 0, locals := 84 }) s m [.ref (q 0)].toArray below meth c H locs 0 0 (MQ below (QV g A (p_V (MX g q lb) [16, 17, 18, 19, 20, 21, 25] [39] [] σ Q)) [.ref (q 0)].toArray s 0 0 A) (F0 m 46 ls []))) := ⟨_, fun _ => Iff.rfl⟩
  obtain ⟨P90, hP90⟩ : ∃ P : Int → Int → Int → S0 → Prop, ∀ (u1 : Int) (u2 : Int) (u3 : Int) (τ : S0), (P u1 u2 u3 τ ↔ (rg u1 → rg u2 → rg u3 → n_m τ → f_r [16, 17, 18, 19, 20, 21, 25] [39] [] σ τ → ∀ (H : Heap) (locs : List Loc) (ls : Array Slot), KP g (MX g q lb τ) H → va_D A (MX g q lb τ) → va_S A s.heap H locs → lv_has ls 4 [(0, .ref (q 0)), (1, .int (I u1)), (2, .int (I u2)), (3, .int (I u3))] → W p l e ({ frames := 4, cells := 0, slots := 0, locals := 84 }) s m [.ref (q 0)].toArray below meth c H locs 0 0 (MQ below (QV g A (p_V (MX g q lb) [16, 17, 18, 19, 20, 21, 25] [39] [] σ Q)) [.ref (q 0)].toArray s 0 0 A) (F0 m 90 ls []))) := ⟨_, fun _ _ _ _ => Iff.rfl⟩
  refine (fun hw => ?_) (hw P9 P46 P90 ?_ ?_ ?_)
  ·
    refine lv_aload_n hx hb dX13_readPackedLabels_0 rfl (lv_at hl 0 rfl) ?_
    refine lv_iconst (v := I 0) hx hb dX13_readPackedLabels_1 rfl ?_
    refine pfX13_packedCount hx hb hts hK hP hD hS hown (hts _ tw_2073) dX13_readPackedLabels_2 (fun H locs hP hD hS => ?_)
    have hN : n_m (s_v σ 25 0) := n_v (i := 25) hN ((by decide) : rg 0)
    have hF : f_r [16, 17, 18, 19, 20, 21, 25] [39] [] σ (s_v σ 25 0) := f_v hF (by decide)
    refine lv_aload_n hx hb dX13_readPackedLabels_5 rfl (lv_at hl 0 rfl) ?_
    obtain ⟨Q1, hc, hw⟩ := hw
    refine wc_V (X := MX g q lb) (va_runV (As := []) (rest := []) ⟨hx, hb, hml, hown, hts⟩ (L_X13_next l g q lb hlb  hN hc H.size) (cwV 0 hts (TB_V tw_2536 tw_2538 ts_104 tw_15 co_X13_next) rfl rfl rfl (by decide +kernel) ⟨Nat.le_of_ble_eq_true rfl, Nat.le_of_ble_eq_true rfl⟩) (preV (q0 := 0) (ci := 13) rfl xT_bl hP hK hNb hD rfl rfl xT_at) rfl rfl hl.1 rfl (lv_room (Nat.le_of_ble_eq_true rfl)) dX13_readPackedLabels_6 ⟨Nat.le_of_ble_eq_true rfl, Nat.le_of_ble_eq_true rfl⟩) hP hD hS hA (fun τ3 H locs hN hf hq hP hD hS => ?_)
    replace hw := hw τ3 hN hf hq
    have hF : f_r [16, 17, 18, 19, 20, 21, 25] [39] [] σ τ3 := f_t hF hf (by decide) (by decide) (by decide)
    have hB := hN
    exact (hP9 _).mp hw hN hF H locs ls hP hD hS (lv_sub hl [0] rfl)
  ·
    intro τ hw
    refine (hP9 _).mpr ?_
    intro hN hF H locs ls hP hD hS hl
    have hB := hN
    refine lv_aload_n hx hb dX13_readPackedLabels_9 rfl (lv_at hl 0 rfl) ?_
    refine gfX13_fault hx hb hts hK hP hown (hts _ tw_2065) (x := τ.1 20) rfl dX13_readPackedLabels_10 ?_
    refine bi_if_ne (tgt := 196) hx hb (hB.1 20) dX13_readPackedLabels_13 (by decide) (fun c4 => ?_) (fun c4 => ?_)
    ·
      replace hw := hw.1 c4
      exact xrv hx hb hr hlk hP hK hD hS ⟨_, hN, hF, rfl, hw⟩ (Nat.le_of_ble_eq_true rfl) (Nat.le_of_ble_eq_true rfl) dX13_readPackedLabels_196
    ·
      replace hw := hw.2 c4
      refine lv_aload_n hx hb dX13_readPackedLabels_16 rfl (lv_at hl 0 rfl) ?_
      refine gfX13_token hx hb hts hK hP hown (hts _ tw_2064) (x := τ.1 19) rfl dX13_readPackedLabels_17 ?_
      refine lv_iconst (v := I 1) hx hb dX13_readPackedLabels_20 rfl ?_
      refine bi_icmp_ne (tgt := 46) hx hb (hB.1 19) (by decide) dX13_readPackedLabels_21 (by decide) (fun c5 => ?_) (fun c5 => ?_)
      ·
        replace hw := hw.1 c5
        exact (hP46 _).mp hw hN hF H locs ls hP hD hS (lv_sub hl [0] rfl)
      ·
        replace hw := hw.2 c5
        refine lv_aload_n hx hb dX13_readPackedLabels_24 rfl (lv_at hl 0 rfl) ?_
        refine gfX13_tokenSize hx hb hts hK hP hown (hts _ tw_2063) (x := τ.1 18) rfl dX13_readPackedLabels_25 ?_
        refine lv_iconst (v := I 1) hx hb dX13_readPackedLabels_28 rfl ?_
        refine bi_icmp_ne (tgt := 46) hx hb (hB.1 18) (by decide) dX13_readPackedLabels_29 (by decide) (fun c6 => ?_) (fun c6 => ?_)
        ·
          replace hw := hw.1 c6
          exact (hP46 _).mp hw hN hF H locs ls hP hD hS (lv_sub hl [0] rfl)
        ·
          replace hw := hw.2 c6
          refine lv_aload_n hx hb dX13_readPackedLabels_32 rfl (lv_at hl 0 rfl) ?_
          refine gfX13_tape hx hb hts hK hP hown (hts _ tw_2006) dX13_readPackedLabels_33 ?_
          refine lv_aload_n hx hb dX13_readPackedLabels_36 rfl (lv_at hl 0 rfl) ?_
          refine gfX13_tokenAt hx hb hts hK hP hown (hts _ tw_2062) (x := τ.1 17) rfl dX13_readPackedLabels_37 ?_
          obtain ⟨c7, hw⟩ := hw
          refine ldMX13_tape hx hb hK hP hN c7 dX13_readPackedLabels_40 (fun x8 r_x8 e_x8 => ?_)
          replace hw := hw x8 r_x8 e_x8
          refine lv_bipush (v := I 41) hx hb dX13_readPackedLabels_41 (by decide) ?_
          refine bi_icmp_eq (tgt := 196) hx hb r_x8 (by decide) dX13_readPackedLabels_43 (by decide) (fun c9 => ?_) (fun c9 => ?_)
          ·
            replace hw := hw.1 c9
            exact xrv hx hb hr hlk hP hK hD hS ⟨_, hN, hF, rfl, hw⟩ (Nat.le_of_ble_eq_true rfl) (Nat.le_of_ble_eq_true rfl) dX13_readPackedLabels_196
          ·
            replace hw := hw.2 c9
            exact (hP46 _).mp hw hN hF H locs ls hP hD hS (lv_sub hl [0] rfl)
  ·
    intro τ hw
    refine (hP46 _).mpr ?_
    intro hN hF H locs ls hP hD hS hl
    have hB := hN
    refine lv_aload_n hx hb dX13_readPackedLabels_46 rfl (lv_at hl 0 rfl) ?_
    refine gfX13_token hx hb hts hK hP hown (hts _ tw_2064) (x := τ.1 19) rfl dX13_readPackedLabels_47 ?_
    refine lv_iconst (v := I 1) hx hb dX13_readPackedLabels_50 rfl ?_
    refine bi_icmp_eq (tgt := 60) hx hb (hB.1 19) (by decide) dX13_readPackedLabels_51 (by decide) (fun c10 => ?_) (fun c10 => ?_)
    ·
      replace hw := hw.1 c10
      refine lv_aload_n hx hb dX13_readPackedLabels_60 rfl (lv_at hl 0 rfl) ?_
      obtain ⟨Q11, hc, hw⟩ := hw
      refine wc_i (X := MX g q lb) (va_runV (As := []) (rest := []) ⟨hx, hb, hml, hown, hts⟩ (L_X13_stepHere l g q lb hlb  hN hc H.size) (cwV 0 hts (TB_V tw_2673 tw_2675 ts_133 tw_15 co_X13_stepHere) rfl rfl rfl (by decide +kernel) ⟨Nat.le_of_ble_eq_true rfl, Nat.le_of_ble_eq_true rfl⟩) (preV (q0 := 0) (ci := 13) rfl xT_bl hP hK hNb hD rfl rfl xT_at) rfl rfl hl.1 rfl (lv_room (Nat.le_of_ble_eq_true rfl)) dX13_readPackedLabels_61 ⟨Nat.le_of_ble_eq_true rfl, Nat.le_of_ble_eq_true rfl⟩) hP hD hS hA (fun x12 H locs r_x12 hq hP hD hS => ?_)
      replace hw := hw x12 r_x12 hq
      refine lv_istore_n (lv' := [(1, .int (I x12)), (0, .ref (q 0))]) hx hb dX13_readPackedLabels_64 rfl hl (by decide) rfl (fun ls hl => ?_)
      refine lv_iload_n hx hb dX13_readPackedLabels_65 rfl (lv_at hl 0 rfl) ?_
      refine lv_iconst (v := I (-1)) hx hb dX13_readPackedLabels_66 rfl ?_
      refine bi_icmp_eq (tgt := 86) hx hb r_x12 (by decide) dX13_readPackedLabels_67 (by decide) (fun c14 => ?_) (fun c14 => ?_)
      ·
        replace hw := hw.1 c14
        refine lv_iconst (v := I 0) hx hb dX13_readPackedLabels_86 rfl ?_
        refine lv_istore_n (lv' := [(2, .int (I 0)), (1, .int (I x12)), (0, .ref (q 0))]) hx hb dX13_readPackedLabels_87 rfl hl (by decide) rfl (fun ls hl => ?_)
        refine lv_iconst (v := I 0) hx hb dX13_readPackedLabels_88 rfl ?_
        refine lv_istore_n (lv' := [(3, .int (I 0)), (2, .int (I 0)), (1, .int (I x12)), (0, .ref (q 0))]) hx hb dX13_readPackedLabels_89 rfl hl (by decide) rfl (fun ls hl => ?_)
        exact (hP90 _ _ _ _).mp hw r_x12 (by decide) (by decide) hN hF H locs ls hP hD hS (lv_sub hl [3, 2, 1, 0] rfl)
      ·
        replace hw := hw.2 c14
        refine lv_aload_n hx hb dX13_readPackedLabels_70 rfl (lv_at hl 1 rfl) ?_
        refine lv_aload_n hx hb dX13_readPackedLabels_71 rfl (lv_at hl 1 rfl) ?_
        refine gfX13_now hx hb hts hK hP hown (hts _ tw_2068) (x := τ.1 22) rfl dX13_readPackedLabels_72 ?_
        refine lv_iload_n hx hb dX13_readPackedLabels_75 rfl (lv_at hl 0 rfl) ?_
        obtain ⟨Q15, hc, hw⟩ := hw
        refine wc_i (X := MX g q lb) (va_runV (As := [.int (I (τ.1 22)), .int (I x12)]) (rest := []) ⟨hx, hb, hml, hown, hts⟩ (L_X13_isMandatory l g q lb hlb (hB.1 22) r_x12 hN hc H.size) (cwV 2 hts (TB_V tw_2677 tw_2679 ts_134 tw_15 co_X13_isMandatory) rfl rfl rfl (by decide +kernel) ⟨Nat.le_of_ble_eq_true rfl, Nat.le_of_ble_eq_true rfl⟩) (preV (q0 := 0) (ci := 13) rfl xT_bl hP hK hNb hD rfl rfl xT_at) rfl rfl hl.1 rfl (lv_room (Nat.le_of_ble_eq_true rfl)) dX13_readPackedLabels_76 ⟨Nat.le_of_ble_eq_true rfl, Nat.le_of_ble_eq_true rfl⟩) hP hD hS hA (fun x16 H locs r_x16 hq hP hD hS => ?_)
        replace hw := hw x16 r_x16 hq
        refine bi_if_eq (tgt := 86) hx hb r_x16 dX13_readPackedLabels_79 (by decide) (fun c18 => ?_) (fun c18 => ?_)
        ·
          replace hw := hw.1 c18
          refine lv_iconst (v := I 0) hx hb dX13_readPackedLabels_86 rfl ?_
          refine lv_istore_n (lv' := [(2, .int (I 0)), (1, .int (I x12)), (0, .ref (q 0))]) hx hb dX13_readPackedLabels_87 rfl hl (by decide) rfl (fun ls hl => ?_)
          refine lv_iconst (v := I 0) hx hb dX13_readPackedLabels_88 rfl ?_
          refine lv_istore_n (lv' := [(3, .int (I 0)), (2, .int (I 0)), (1, .int (I x12)), (0, .ref (q 0))]) hx hb dX13_readPackedLabels_89 rfl hl (by decide) rfl (fun ls hl => ?_)
          exact (hP90 _ _ _ _).mp hw r_x12 (by decide) (by decide) hN hF H locs ls hP hD hS (lv_sub hl [3, 2, 1, 0] rfl)
        ·
          replace hw := hw.2 c18
          refine lv_iconst (v := I 1) hx hb dX13_readPackedLabels_82 rfl ?_
          refine lv_goto (tgt := 87) hx hb dX13_readPackedLabels_83 (by decide) ?_
          refine lv_istore_n (lv' := [(2, .int (I 1)), (1, .int (I x12)), (0, .ref (q 0))]) hx hb dX13_readPackedLabels_87 rfl hl (by decide) rfl (fun ls hl => ?_)
          refine lv_iconst (v := I 0) hx hb dX13_readPackedLabels_88 rfl ?_
          refine lv_istore_n (lv' := [(3, .int (I 0)), (2, .int (I 1)), (1, .int (I x12)), (0, .ref (q 0))]) hx hb dX13_readPackedLabels_89 rfl hl (by decide) rfl (fun ls hl => ?_)
          exact (hP90 _ _ _ _).mp hw r_x12 (by decide) (by decide) hN hF H locs ls hP hD hS (lv_sub hl [3, 2, 1, 0] rfl)
    ·
      replace hw := hw.2 c10
      refine lv_aload_n hx hb dX13_readPackedLabels_54 rfl (lv_at hl 0 rfl) ?_
      refine lv_iconst (v := I 4) hx hb dX13_readPackedLabels_55 rfl ?_
      obtain ⟨Q19, hc, hw⟩ := hw
      refine wc_V (X := MX g q lb) (va_runV (As := [.int (I 4)]) (rest := []) ⟨hx, hb, hml, hown, hts⟩ (L_X13_failHere l g q lb hlb (by decide) hN hc H.size) (cwV 1 hts (TB_V tw_2585 tw_2587 ts_114 tw_15 co_X13_failHere) rfl rfl rfl (by decide +kernel) ⟨Nat.le_of_ble_eq_true rfl, Nat.le_of_ble_eq_true rfl⟩) (preV (q0 := 0) (ci := 13) rfl xT_bl hP hK hNb hD rfl rfl xT_at) rfl rfl hl.1 rfl (lv_room (Nat.le_of_ble_eq_true rfl)) dX13_readPackedLabels_56 ⟨Nat.le_of_ble_eq_true rfl, Nat.le_of_ble_eq_true rfl⟩) hP hD hS hA (fun τ21 H locs hN hf hq hP hD hS => ?_)
      replace hw := hw τ21 hN hf hq
      have hF : f_r [16, 17, 18, 19, 20, 21, 25] [39] [] σ τ21 := f_t hF hf (by decide) (by decide) (by decide)
      have hB := hN
      exact xrv hx hb hr hlk hP hK hD hS ⟨_, hN, hF, rfl, hw⟩ (Nat.le_of_ble_eq_true rfl) (Nat.le_of_ble_eq_true rfl) dX13_readPackedLabels_59
  ·
    intro u1 u2 u3 τ hw
    refine (hP90 _ _ _ _).mpr ?_
    intro r_u1 r_u2 r_u3 hN hF H locs ls hP hD hS hl
    have hB := hN
    refine lv_iload_n hx hb dX13_readPackedLabels_90 rfl (lv_at hl 3 rfl) ?_
    refine lv_aload_n hx hb dX13_readPackedLabels_91 rfl (lv_at hl 0 rfl) ?_
    refine gfX13_packedCount hx hb hts hK hP hown (hts _ tw_2073) (x := τ.1 25) rfl dX13_readPackedLabels_92 ?_
    refine bi_icmp_ge (tgt := 124) hx hb r_u3 (hB.1 25) dX13_readPackedLabels_95 (by decide) (fun c22 => ?_) (fun c22 => ?_)
    ·
      replace hw := hw.1 c22
      refine lv_aload_n hx hb dX13_readPackedLabels_124 rfl (lv_at hl 0 rfl) ?_
      refine gfX13_packedCount hx hb hts hK hP hown (hts _ tw_2073) (x := τ.1 25) rfl dX13_readPackedLabels_125 ?_
      refine lv_sipush (v := I 300) hx hb dX13_readPackedLabels_128 (by decide) ?_
      refine bi_icmp_ne (tgt := 142) hx hb (hB.1 25) (by decide) dX13_readPackedLabels_131 (by decide) (fun c23 => ?_) (fun c23 => ?_)
      ·
        replace hw := hw.1 c23
        refine lv_iload_n hx hb dX13_readPackedLabels_142 rfl (lv_at hl 1 rfl) ?_
        refine lv_iconst (v := I (-1)) hx hb dX13_readPackedLabels_143 rfl ?_
        refine bi_icmp_ne (tgt := 156) hx hb r_u1 (by decide) dX13_readPackedLabels_144 (by decide) (fun c24 => ?_) (fun c24 => ?_)
        ·
          replace hw := hw.1 c24
          refine lv_iload_n hx hb dX13_readPackedLabels_156 rfl (lv_at hl 2 rfl) ?_
          refine bi_if_eq (tgt := 169) hx hb r_u2 dX13_readPackedLabels_157 (by decide) (fun c25 => ?_) (fun c25 => ?_)
          ·
            replace hw := hw.1 c25
            refine lv_aload_n hx hb dX13_readPackedLabels_169 rfl (lv_at hl 0 rfl) ?_
            refine gfX13_packedLabels hx hb hts hK hP hown (hts _ tw_2072) dX13_readPackedLabels_170 ?_
            refine lv_aload_n hx hb dX13_readPackedLabels_173 rfl (lv_at hl 0 rfl) ?_
            refine gfX13_packedCount hx hb hts hK hP hown (hts _ tw_2073) (x := τ.1 25) rfl dX13_readPackedLabels_174 ?_
            refine lv_iload_n hx hb dX13_readPackedLabels_177 rfl (lv_at hl 1 rfl) ?_
            obtain ⟨c26, hw⟩ := hw
            refine sdMX13_packedLabels hx hb hK hP hD hS c26 dX13_readPackedLabels_178 (fun H locs hP hD hS => ?_)
            have hN : n_m (s_a τ 39 (τ.1 25) u1) := n_a (k := 39) (j := τ.1 25) hN (r_u1 : rg u1)
            have hF : f_r [16, 17, 18, 19, 20, 21, 25] [39] [] σ (s_a τ 39 (τ.1 25) u1) := f_a hF (by decide)
            refine lv_aload_n hx hb dX13_readPackedLabels_179 rfl (lv_at hl 0 rfl) ?_
            refine lv_dup hx hb dX13_readPackedLabels_180 rfl ?_
            refine gfX13_packedCount hx hb hts hK hP hown (hts _ tw_2073) (x := τ.1 25) rfl dX13_readPackedLabels_181 ?_
            refine lv_iconst (v := I 1) hx hb dX13_readPackedLabels_184 rfl ?_
            refine bi_iadd hx hb dX13_readPackedLabels_185 ?_
            obtain ⟨c27, hw⟩ := hw
            refine pfX13_packedCount hx hb hts hK hP hD hS hown (hts _ tw_2073) dX13_readPackedLabels_186 (fun H locs hP hD hS => ?_)
            have hN : n_m (s_v (s_a τ 39 (τ.1 25) u1) 25 (τ.1 25 + 1)) := n_v (i := 25) hN (c27 : rg (τ.1 25 + 1))
            have hF : f_r [16, 17, 18, 19, 20, 21, 25] [39] [] σ (s_v (s_a τ 39 (τ.1 25) u1) 25 (τ.1 25 + 1)) := f_v hF (by decide)
            refine lv_aload_n hx hb dX13_readPackedLabels_189 rfl (lv_at hl 0 rfl) ?_
            obtain ⟨Q28, hc, hw⟩ := hw
            refine wc_V (X := MX g q lb) (va_runV (As := []) (rest := []) ⟨hx, hb, hml, hown, hts⟩ (L_X13_next l g q lb hlb  hN hc H.size) (cwV 0 hts (TB_V tw_2536 tw_2538 ts_104 tw_15 co_X13_next) rfl rfl rfl (by decide +kernel) ⟨Nat.le_of_ble_eq_true rfl, Nat.le_of_ble_eq_true rfl⟩) (preV (q0 := 0) (ci := 13) rfl xT_bl hP hK hNb hD rfl rfl xT_at) rfl rfl hl.1 rfl (lv_room (Nat.le_of_ble_eq_true rfl)) dX13_readPackedLabels_190 ⟨Nat.le_of_ble_eq_true rfl, Nat.le_of_ble_eq_true rfl⟩) hP hD hS hA (fun τ30 H locs hN hf hq hP hD hS => ?_)
            replace hw := hw τ30 hN hf hq
            have hF : f_r [16, 17, 18, 19, 20, 21, 25] [39] [] σ τ30 := f_t hF hf (by decide) (by decide) (by decide)
            have hB := hN
            refine lv_goto (tgt := 9) hx hb dX13_readPackedLabels_193 (by decide) ?_
            exact (hP9 _).mp hw hN hF H locs ls hP hD hS (lv_sub hl [0] rfl)
          ·
            replace hw := hw.2 c25
            refine lv_aload_n hx hb dX13_readPackedLabels_160 rfl (lv_at hl 0 rfl) ?_
            refine lv_bipush (v := I 14) hx hb dX13_readPackedLabels_161 (by decide) ?_
            obtain ⟨Q31, hc, hw⟩ := hw
            refine wc_V (X := MX g q lb) (va_runV (As := [.int (I 14)]) (rest := []) ⟨hx, hb, hml, hown, hts⟩ (L_X13_failHere l g q lb hlb (by decide) hN hc H.size) (cwV 1 hts (TB_V tw_2585 tw_2587 ts_114 tw_15 co_X13_failHere) rfl rfl rfl (by decide +kernel) ⟨Nat.le_of_ble_eq_true rfl, Nat.le_of_ble_eq_true rfl⟩) (preV (q0 := 0) (ci := 13) rfl xT_bl hP hK hNb hD rfl rfl xT_at) rfl rfl hl.1 rfl (lv_room (Nat.le_of_ble_eq_true rfl)) dX13_readPackedLabels_163 ⟨Nat.le_of_ble_eq_true rfl, Nat.le_of_ble_eq_true rfl⟩) hP hD hS hA (fun τ33 H locs hN hf hq hP hD hS => ?_)
            replace hw := hw τ33 hN hf hq
            have hF : f_r [16, 17, 18, 19, 20, 21, 25] [39] [] σ τ33 := f_t hF hf (by decide) (by decide) (by decide)
            have hB := hN
            refine lv_goto (tgt := 193) hx hb dX13_readPackedLabels_166 (by decide) ?_
            refine lv_goto (tgt := 9) hx hb dX13_readPackedLabels_193 (by decide) ?_
            exact (hP9 _).mp hw hN hF H locs ls hP hD hS (lv_sub hl [0] rfl)
        ·
          replace hw := hw.2 c24
          refine lv_aload_n hx hb dX13_readPackedLabels_147 rfl (lv_at hl 0 rfl) ?_
          refine lv_bipush (v := I 13) hx hb dX13_readPackedLabels_148 (by decide) ?_
          obtain ⟨Q34, hc, hw⟩ := hw
          refine wc_V (X := MX g q lb) (va_runV (As := [.int (I 13)]) (rest := []) ⟨hx, hb, hml, hown, hts⟩ (L_X13_failHere l g q lb hlb (by decide) hN hc H.size) (cwV 1 hts (TB_V tw_2585 tw_2587 ts_114 tw_15 co_X13_failHere) rfl rfl rfl (by decide +kernel) ⟨Nat.le_of_ble_eq_true rfl, Nat.le_of_ble_eq_true rfl⟩) (preV (q0 := 0) (ci := 13) rfl xT_bl hP hK hNb hD rfl rfl xT_at) rfl rfl hl.1 rfl (lv_room (Nat.le_of_ble_eq_true rfl)) dX13_readPackedLabels_150 ⟨Nat.le_of_ble_eq_true rfl, Nat.le_of_ble_eq_true rfl⟩) hP hD hS hA (fun τ36 H locs hN hf hq hP hD hS => ?_)
          replace hw := hw τ36 hN hf hq
          have hF : f_r [16, 17, 18, 19, 20, 21, 25] [39] [] σ τ36 := f_t hF hf (by decide) (by decide) (by decide)
          have hB := hN
          refine lv_goto (tgt := 193) hx hb dX13_readPackedLabels_153 (by decide) ?_
          refine lv_goto (tgt := 9) hx hb dX13_readPackedLabels_193 (by decide) ?_
          exact (hP9 _).mp hw hN hF H locs ls hP hD hS (lv_sub hl [0] rfl)
      ·
        replace hw := hw.2 c23
        refine lv_aload_n hx hb dX13_readPackedLabels_134 rfl (lv_at hl 0 rfl) ?_
        refine lv_iconst (v := I 5) hx hb dX13_readPackedLabels_135 rfl ?_
        obtain ⟨Q37, hc, hw⟩ := hw
        refine wc_V (X := MX g q lb) (va_runV (As := [.int (I 5)]) (rest := []) ⟨hx, hb, hml, hown, hts⟩ (L_X13_failHere l g q lb hlb (by decide) hN hc H.size) (cwV 1 hts (TB_V tw_2585 tw_2587 ts_114 tw_15 co_X13_failHere) rfl rfl rfl (by decide +kernel) ⟨Nat.le_of_ble_eq_true rfl, Nat.le_of_ble_eq_true rfl⟩) (preV (q0 := 0) (ci := 13) rfl xT_bl hP hK hNb hD rfl rfl xT_at) rfl rfl hl.1 rfl (lv_room (Nat.le_of_ble_eq_true rfl)) dX13_readPackedLabels_136 ⟨Nat.le_of_ble_eq_true rfl, Nat.le_of_ble_eq_true rfl⟩) hP hD hS hA (fun τ39 H locs hN hf hq hP hD hS => ?_)
        replace hw := hw τ39 hN hf hq
        have hF : f_r [16, 17, 18, 19, 20, 21, 25] [39] [] σ τ39 := f_t hF hf (by decide) (by decide) (by decide)
        have hB := hN
        refine lv_goto (tgt := 193) hx hb dX13_readPackedLabels_139 (by decide) ?_
        refine lv_goto (tgt := 9) hx hb dX13_readPackedLabels_193 (by decide) ?_
        exact (hP9 _).mp hw hN hF H locs ls hP hD hS (lv_sub hl [0] rfl)
    ·
      replace hw := hw.2 c22
      refine lv_iload_n hx hb dX13_readPackedLabels_98 rfl (lv_at hl 2 rfl) ?_
      refine bi_if_ne (tgt := 112) hx hb r_u2 dX13_readPackedLabels_99 (by decide) (fun c40 => ?_) (fun c40 => ?_)
      ·
        replace hw := hw.1 c40
        refine lv_iconst (v := I 1) hx hb dX13_readPackedLabels_112 rfl ?_
        refine lv_goto (tgt := 117) hx hb dX13_readPackedLabels_113 (by decide) ?_
        refine lv_istore_n (lv' := [(2, .int (I 1)), (0, .ref (q 0)), (1, .int (I u1)), (3, .int (I u3))]) hx hb dX13_readPackedLabels_117 rfl hl (by decide) rfl (fun ls hl => ?_)
        refine lv_iinc (v := I (u3 + 1)) (lv' := [(3, .int (I (u3 + 1))), (2, .int (I 1)), (0, .ref (q 0)), (1, .int (I u1))]) hx hb dX13_readPackedLabels_118 hl (k := 3) rfl (I_add _ _) (by decide) rfl (fun ls hl => ?_)
        refine lv_goto (tgt := 90) hx hb dX13_readPackedLabels_121 (by decide) ?_
        obtain ⟨c41, hw⟩ := hw
        exact (hP90 _ _ _ _).mp hw r_u1 (by decide) c41 hN hF H locs ls hP hD hS (lv_sub hl [2, 3, 1, 0] rfl)
      ·
        replace hw := hw.2 c40
        refine lv_aload_n hx hb dX13_readPackedLabels_102 rfl (lv_at hl 0 rfl) ?_
        refine gfX13_packedLabels hx hb hts hK hP hown (hts _ tw_2072) dX13_readPackedLabels_103 ?_
        refine lv_iload_n hx hb dX13_readPackedLabels_106 rfl (lv_at hl 3 rfl) ?_
        obtain ⟨c42, hw⟩ := hw
        refine ldMX13_packedLabels hx hb hK hP hN c42 dX13_readPackedLabels_107 (fun x43 r_x43 e_x43 => ?_)
        replace hw := hw x43 r_x43 e_x43
        refine lv_iload_n hx hb dX13_readPackedLabels_108 rfl (lv_at hl 1 rfl) ?_
        refine bi_icmp_ne (tgt := 116) hx hb r_x43 r_u1 dX13_readPackedLabels_109 (by decide) (fun c44 => ?_) (fun c44 => ?_)
        ·
          replace hw := hw.1 c44
          refine lv_iconst (v := I 0) hx hb dX13_readPackedLabels_116 rfl ?_
          refine lv_istore_n (lv' := [(2, .int (I 0)), (0, .ref (q 0)), (1, .int (I u1)), (3, .int (I u3))]) hx hb dX13_readPackedLabels_117 rfl hl (by decide) rfl (fun ls hl => ?_)
          refine lv_iinc (v := I (u3 + 1)) (lv' := [(3, .int (I (u3 + 1))), (2, .int (I 0)), (0, .ref (q 0)), (1, .int (I u1))]) hx hb dX13_readPackedLabels_118 hl (k := 3) rfl (I_add _ _) (by decide) rfl (fun ls hl => ?_)
          refine lv_goto (tgt := 90) hx hb dX13_readPackedLabels_121 (by decide) ?_
          obtain ⟨c45, hw⟩ := hw
          exact (hP90 _ _ _ _).mp hw r_u1 (by decide) c45 hN hF H locs ls hP hD hS (lv_sub hl [2, 3, 1, 0] rfl)
        ·
          replace hw := hw.2 c44
          refine lv_iconst (v := I 1) hx hb dX13_readPackedLabels_112 rfl ?_
          refine lv_goto (tgt := 117) hx hb dX13_readPackedLabels_113 (by decide) ?_
          refine lv_istore_n (lv' := [(2, .int (I 1)), (0, .ref (q 0)), (1, .int (I u1)), (3, .int (I u3))]) hx hb dX13_readPackedLabels_117 rfl hl (by decide) rfl (fun ls hl => ?_)
          refine lv_iinc (v := I (u3 + 1)) (lv' := [(3, .int (I (u3 + 1))), (2, .int (I 1)), (0, .ref (q 0)), (1, .int (I u1))]) hx hb dX13_readPackedLabels_118 hl (k := 3) rfl (I_add _ _) (by decide) rfl (fun ls hl => ?_)
          refine lv_goto (tgt := 90) hx hb dX13_readPackedLabels_121 (by decide) ?_
          obtain ⟨c46, hw⟩ := hw
          exact (hP90 _ _ _ _).mp hw r_u1 (by decide) c46 hN hF H locs ls hP hD hS (lv_sub hl [2, 3, 1, 0] rfl)
def W_X13_endNumber (n1 : Int) (n2 : Int) (σ : S0) (Q : S0 → Prop) : Prop :=
  ∀ (P31 : Int → Int → Int → Int → Int → S0 → Prop) (P82 : Int → Int → S0 → Prop) (P162 : Int → Int → Int → S0 → Prop) (P193 : Int → S0 → Prop) (P196 : S0 → Prop),
  (∀ (u1 : Int) (u2 : Int) (u3 : Int) (u4 : Int) (k0 : Int) (τ : S0), ((u1 ≤ 1000000 → rg ((u3 + τ.1 25) + τ.1 29) ∧ (u4 < ((u3 + τ.1 25) + τ.1 29) → (¬ τ.1 9 = 20000 → (k0 = 0 → (u3 ≤ u4 → (0 ≤ (u4 - u3) ∧ (u4 - u3) < 300) ∧ (∀ (x13 : Int), rg x13 → x13 = τ.2.1 39 (u4 - u3) → (P162 u2 k0 x13 τ))) ∧ (u4 < u3 → (0 ≤ τ.1 22 ∧ τ.1 22 < 1501) ∧ (∀ (x15 : Int), rg x15 → x15 = τ.2.1 18 (τ.1 22) → ((0 ≤ (x15 + u4) ∧ (x15 + u4) < 90100) ∧ (∀ (x17 : Int), rg x17 → x17 = τ.2.1 20 (x15 + u4) → (P162 u2 k0 x17 τ)))))) ∧ (¬ k0 = 0 → rg ((-1) - ((u4 - u3) - τ.1 25)) ∧ P162 u2 k0 ((-1) - ((u4 - u3) - τ.1 25)) τ)) ∧ (τ.1 9 = 20000 → ∃ (Q19 : S0 → Prop), W_X13_fail 5 u2 τ Q19 ∧ ∀ (τ21 : S0), n_m τ21 → f_r [20, 21] [] [] τ τ21 → Q19 τ21 → (P196 τ21))) ∧ (((u3 + τ.1 25) + τ.1 29) ≤ u4 → (¬ τ.1 9 = 20000 → P82 u2 14 τ) ∧ (τ.1 9 = 20000 → P82 u2 5 τ))) ∧ (1000000 < u1 → ∃ (Q23 : S0 → Prop), W_X13_fail 5 u2 τ Q23 ∧ ∀ (τ25 : S0), n_m τ25 → f_r [20, 21] [] [] τ τ25 → Q23 τ25 → (P196 τ25))) → P31 u1 u2 u3 u4 k0 τ) →
  (∀ (u2 : Int) (k1 : Int) (τ : S0), (∃ (Q33 : S0 → Prop), W_X13_fail k1 u2 τ Q33 ∧ ∀ (τ35 : S0), n_m τ35 → f_r [20, 21] [] [] τ τ35 → Q33 τ35 → (P196 τ35)) → P82 u2 k1 τ) →
  (∀ (u2 : Int) (u5 : Int) (k0 : Int) (τ : S0), (∃ (Q26 : S0 → Prop), W_X13_addStep k0 u2 τ Q26 ∧ ∀ (τ28 : S0), n_m τ28 → f_r [9] [26, 27, 28, 29] [] τ τ28 → Q26 τ28 → ((¬ u5 = 0 → P193 0 τ28) ∧ (u5 = 0 → (0 ≤ k0 ∧ k0 < 1501) ∧ (∀ (x31 : Int), rg x31 → x31 = τ28.2.1 13 k0 → ((x31 < 2 → P193 0 τ28) ∧ (2 ≤ x31 → P193 1 τ28)))))) → P162 u2 u5 k0 τ) →
  (∀ (k1 : Int) (τ : S0), ((0 ≤ k1 ∧ k1 ≤ 1) ∧ (P196 (s_v τ 28 k1))) → P193 k1 τ) →
  (∀ (τ : S0), (Q (s_v (s_v τ 26 0) 27 0)) → P196 τ) →
  (0 ≤ σ.1 22 ∧ σ.1 22 < 1501) ∧ (∀ (x2 : Int), rg x2 → x2 = σ.2.1 19 (σ.1 22) → (rg (n1 - 1) ∧ rg (x2 + σ.1 25) ∧ ((n1 - 1) < (x2 + σ.1 25) → P31 n1 n2 x2 (n1 - 1) 0 σ) ∧ ((x2 + σ.1 25) ≤ (n1 - 1) → P31 n1 n2 x2 (n1 - 1) 1 σ)))
set_option maxRecDepth 100000 in
set_option maxHeartbeats 4000000 in
theorem L_X13_endNumber (l : Launch) (g : gG) (q : Nat → Nat) (lb : Nat) (hlb : lb < 2 ^ 31) {n1 : Int} {n2 : Int} {σ : S0} {Q : S0 → Prop} (r_n1 : rg n1) (r_n2 : rg n2) (hN : n_m σ) (hw : W_X13_endNumber n1 n2 σ Q) (sz : Nat) : MetV l yX13_endNumber cX13_endNumber 7 { frames := 1, cells := 0, slots := 0, locals := 22 } g [.ref (q 0), .int (I n1), .int (I n2)] (MX g q lb σ) sz xT (p_V (MX g q lb) [9, 20, 21, 26, 27, 28] [26, 27, 28, 29] [] σ Q) 0 0 := by
  refine mkMet (Qc := fun A => QV g A (p_V (MX g q lb) [9, 20, 21, 26, 27, 28] [26, 27, 28, 29] [] σ Q)) (by decide) (Nat.le_of_ble_eq_true rfl) ?_
  intro p e s m below meth c A H ls hx hb hr hml hown hts hlk hnm hsz hP hK hNb hD hA hAe hS hX hl
  have hl : lv_has ls 7 [(0, .ref (q 0)), (1, .int (I n1)), (2, .int (I n2))] := hl
  have hB := hN
  have hF : f_r [9, 20, 21, 26, 27, 28] [26, 27, 28, 29] [] σ σ := f_0
  obtain ⟨locs, hlocs⟩ : ∃ z : List Loc, z = [] := ⟨_, rfl⟩
  rw [← hlocs] at hS ⊢
  obtain ⟨P31, hP31⟩ : ∃ P : Int → Int → Int → Int → Int → S0 → Prop, ∀ (u1 : Int) (u2 : Int) (u3 : Int) (u4 : Int) (k0 : Int) (τ : S0), (P u1 u2 u3 u4 k0 τ ↔ (rg u1 → rg u2 → rg u3 → rg u4 → rg k0 → n_m τ → f_r [9, 20, 21, 26, 27, 28] [26, 27, 28, 29] [] σ τ → ∀ (H : Heap) (locs : List Loc) (ls : Array Slot), KP g (MX g q lb τ) H → va_D A (MX g q lb τ) → va_S A s.heap H locs → lv_has ls 7 [(0, .ref (q 0)), (1, .int (I u1)), (2, .int (I u2)), (3, .int (I u3)), (4, .int (I u4))] → W p l e ({ frames := 1, cells := 0, slots := 0, locals := 22 }) s m [.ref (q 0), .int (I n1), .int (I n2)].toArray below meth c H locs 0 0 (MQ below (QV g A (p_V (MX g q lb) [9, 20, 21, 26, 27, 28] [26, 27, 28, 29] [] σ Q)) [.ref (q 0), .int (I n1), .int (I n2)].toArray s 0 0 A) (F0 m 31 ls [.int (I k0)]))) := ⟨_, fun _ _ _ _ _ _ => Iff.rfl⟩
  obtain ⟨P82, hP82⟩ : ∃ P : Int → Int → S0 → Prop, ∀ (u2 : Int) (k1 : Int) (τ : S0), (P u2 k1 τ ↔ (rg u2 → rg k1 → n_m τ → f_r [9, 20, 21, 26, 27, 28] [26, 27, 28, 29] [] σ τ → ∀ (H : Heap) (locs : List Loc) (ls : Array Slot), KP g (MX g q lb τ) H → va_D A (MX g q lb τ) → va_S A s.heap H locs → lv_has ls 7 [(0, .ref (q 0)), (2, .int (I u2))] → W p l e ({ frames := 1, cells := 0, slots := 0, locals := 22 }) s m [.ref (q 0), .int (I n1), .int (I n2)].toArray below meth c H locs 0 0 (MQ below (QV g A (p_V (MX g q lb) [9, 20, 21, 26, 27, 28] [26, 27, 28, 29] [] σ Q)) [.ref (q 0), .int (I n1), .int (I n2)].toArray s 0 0 A) (F0 m 82 ls [.int (I k1), .ref (q 0)]))) := ⟨_, fun _ _ _ => Iff.rfl⟩
  obtain ⟨P162, hP162⟩ : ∃ P : Int → Int → Int → S0 → Prop, ∀ (u2 : Int) (u5 : Int) (k0 : Int) (τ : S0), (P u2 u5 k0 τ ↔ (rg u2 → rg u5 → rg k0 → n_m τ → f_r [9, 20, 21, 26, 27, 28] [26, 27, 28, 29] [] σ τ → ∀ (H : Heap) (locs : List Loc) (ls : Array Slot), KP g (MX g q lb τ) H → va_D A (MX g q lb τ) → va_S A s.heap H locs → lv_has ls 7 [(0, .ref (q 0)), (2, .int (I u2)), (5, .int (I u5))] → W p l e ({ frames := 1, cells := 0, slots := 0, locals := 22 }) s m [.ref (q 0), .int (I n1), .int (I n2)].toArray below meth c H locs 0 0 (MQ below (QV g A (p_V (MX g q lb) [9, 20, 21, 26, 27, 28] [26, 27, 28, 29] [] σ Q)) [.ref (q 0), .int (I n1), .int (I n2)].toArray s 0 0 A) (F0 m 162 ls [.int (I k0)]))) := ⟨_, fun _ _ _ _ => Iff.rfl⟩
  obtain ⟨P193, hP193⟩ : ∃ P : Int → S0 → Prop, ∀ (k1 : Int) (τ : S0), (P k1 τ ↔ (rg k1 → n_m τ → f_r [9, 20, 21, 26, 27, 28] [26, 27, 28, 29] [] σ τ → ∀ (H : Heap) (locs : List Loc) (ls : Array Slot), KP g (MX g q lb τ) H → va_D A (MX g q lb τ) → va_S A s.heap H locs → lv_has ls 7 [(0, .ref (q 0))] → W p l e ({ frames := 1, cells := 0, slots := 0, locals := 22 }) s m [.ref (q 0), .int (I n1), .int (I n2)].toArray below meth c H locs 0 0 (MQ below (QV g A (p_V (MX g q lb) [9, 20, 21, 26, 27, 28] [26, 27, 28, 29] [] σ Q)) [.ref (q 0), .int (I n1), .int (I n2)].toArray s 0 0 A) (F0 m 193 ls [.int (I k1), .ref (q 0)]))) := ⟨_, fun _ _ => Iff.rfl⟩
  obtain ⟨P196, hP196⟩ : ∃ P : S0 → Prop, ∀ (τ : S0), (P τ ↔ (n_m τ → f_r [9, 20, 21, 26, 27, 28] [26, 27, 28, 29] [] σ τ → ∀ (H : Heap) (locs : List Loc) (ls : Array Slot), KP g (MX g q lb τ) H → va_D A (MX g q lb τ) → va_S A s.heap H locs → lv_has ls 7 [(0, .ref (q 0))] → W p l e ({ frames := 1, cells := 0, slots := 0, locals := 22 }) s m [.ref (q 0), .int (I n1), .int (I n2)].toArray below meth c H locs 0 0 (MQ below (QV g A (p_V (MX g q lb) [9, 20, 21, 26, 27, 28] [26, 27, 28, 29] [] σ Q)) [.ref (q 0), .int (I n1), .int (I n2)].toArray s 0 0 A) (F0 m 196 ls []))) := ⟨_, fun _ => Iff.rfl⟩
  refine (fun hw => ?_) (hw P31 P82 P162 P193 P196 ?_ ?_ ?_ ?_ ?_)
  ·
    refine lv_aload_n hx hb dX13_endNumber_0 rfl (lv_at hl 0 rfl) ?_
    refine gfX13_hypSize hx hb hts hK hP hown (hts _ tw_2032) dX13_endNumber_1 ?_
    refine lv_aload_n hx hb dX13_endNumber_4 rfl (lv_at hl 0 rfl) ?_
    refine gfX13_now hx hb hts hK hP hown (hts _ tw_2068) (x := σ.1 22) rfl dX13_endNumber_5 ?_
    obtain ⟨c1, hw⟩ := hw
    refine ldMX13_hypSize hx hb hK hP hN c1 dX13_endNumber_8 (fun x2 r_x2 e_x2 => ?_)
    replace hw := hw x2 r_x2 e_x2
    refine lv_istore_n (lv' := [(3, .int (I x2)), (0, .ref (q 0)), (1, .int (I n1)), (2, .int (I n2))]) hx hb dX13_endNumber_9 rfl hl (by decide) rfl (fun ls hl => ?_)
    refine lv_iload_n hx hb dX13_endNumber_10 rfl (lv_at hl 2 rfl) ?_
    refine lv_iconst (v := I 1) hx hb dX13_endNumber_11 rfl ?_
    refine bi_isub hx hb dX13_endNumber_12 ?_
    refine lv_istore (lv' := [(4, .int (I (n1 - 1))), (3, .int (I x2)), (0, .ref (q 0)), (1, .int (I n1)), (2, .int (I n2))]) hx hb dX13_endNumber_13 hl (by decide) rfl (fun ls hl => ?_)
    refine lv_iload hx hb dX13_endNumber_15 (lv_at hl 0 rfl) ?_
    refine lv_iload_n hx hb dX13_endNumber_17 rfl (lv_at hl 1 rfl) ?_
    refine lv_aload_n hx hb dX13_endNumber_18 rfl (lv_at hl 2 rfl) ?_
    refine gfX13_packedCount hx hb hts hK hP hown (hts _ tw_2073) (x := σ.1 25) rfl dX13_endNumber_19 ?_
    refine bi_iadd hx hb dX13_endNumber_22 ?_
    obtain ⟨c3, hw⟩ := hw
    obtain ⟨c4, hw⟩ := hw
    refine bi_icmp_lt (tgt := 30) hx hb c3 c4 dX13_endNumber_23 (by decide) (fun c5 => ?_) (fun c5 => ?_)
    ·
      replace hw := hw.1 c5
      refine lv_iconst (v := I 0) hx hb dX13_endNumber_30 rfl ?_
      exact (hP31 _ _ _ _ _ _).mp hw r_n1 r_n2 r_x2 c3 (by decide) hN hF H locs ls hP hD hS (lv_sub hl [2, 3, 4, 1, 0] rfl)
    ·
      replace hw := hw.2 c5
      refine lv_iconst (v := I 1) hx hb dX13_endNumber_26 rfl ?_
      refine lv_goto (tgt := 31) hx hb dX13_endNumber_27 (by decide) ?_
      exact (hP31 _ _ _ _ _ _).mp hw r_n1 r_n2 r_x2 c3 (by decide) hN hF H locs ls hP hD hS (lv_sub hl [2, 3, 4, 1, 0] rfl)
  ·
    intro u1 u2 u3 u4 k0 τ hw
    refine (hP31 _ _ _ _ _ _).mpr ?_
    intro r_u1 r_u2 r_u3 r_u4 r_k0 hN hF H locs ls hP hD hS hl
    have hB := hN
    refine lv_istore (lv' := [(5, .int (I k0)), (0, .ref (q 0)), (1, .int (I u1)), (2, .int (I u2)), (3, .int (I u3)), (4, .int (I u4))]) hx hb dX13_endNumber_31 hl (by decide) rfl (fun ls hl => ?_)
    refine lv_iload_n hx hb dX13_endNumber_33 rfl (lv_at hl 2 rfl) ?_
    refine lv_ldcw (own := RX13) (v := 1000000) hx hb hown (hts _ tw_2690) dX13_endNumber_34 ?_
    refine xtop (y := I 1000000) (by decide) ?_
    refine bi_icmp_le (tgt := 49) hx hb r_u1 (by decide) dX13_endNumber_37 (by decide) (fun c6 => ?_) (fun c6 => ?_)
    ·
      replace hw := hw.1 c6
      refine lv_iload hx hb dX13_endNumber_49 (lv_at hl 5 rfl) ?_
      refine lv_iload_n hx hb dX13_endNumber_51 rfl (lv_at hl 4 rfl) ?_
      refine lv_aload_n hx hb dX13_endNumber_52 rfl (lv_at hl 1 rfl) ?_
      refine gfX13_packedCount hx hb hts hK hP hown (hts _ tw_2073) (x := τ.1 25) rfl dX13_endNumber_53 ?_
      refine bi_iadd hx hb dX13_endNumber_56 ?_
      refine lv_aload_n hx hb dX13_endNumber_57 rfl (lv_at hl 1 rfl) ?_
      refine gfX13_savedCount hx hb hts hK hP hown (hts _ tw_2077) (x := τ.1 29) rfl dX13_endNumber_58 ?_
      refine bi_iadd hx hb dX13_endNumber_61 ?_
      obtain ⟨c7, hw⟩ := hw
      refine bi_icmp_lt (tgt := 89) hx hb r_u4 c7 dX13_endNumber_62 (by decide) (fun c8 => ?_) (fun c8 => ?_)
      ·
        replace hw := hw.1 c8
        refine lv_aload_n hx hb dX13_endNumber_89 rfl (lv_at hl 1 rfl) ?_
        refine gfX13_stepCount hx hb hts hK hP hown (hts _ tw_2045) (x := τ.1 9) rfl dX13_endNumber_90 ?_
        refine lv_sipush (v := I 20000) hx hb dX13_endNumber_93 (by decide) ?_
        refine bi_icmp_ne (tgt := 108) hx hb (hB.1 9) (by decide) dX13_endNumber_96 (by decide) (fun c9 => ?_) (fun c9 => ?_)
        ·
          replace hw := hw.1 c9
          refine lv_iload hx hb dX13_endNumber_108 (lv_at hl 0 rfl) ?_
          refine bi_if_eq (tgt := 127) hx hb r_k0 dX13_endNumber_110 (by decide) (fun c10 => ?_) (fun c10 => ?_)
          ·
            replace hw := hw.1 c10
            refine lv_iload hx hb dX13_endNumber_127 (lv_at hl 5 rfl) ?_
            refine lv_iload_n hx hb dX13_endNumber_129 rfl (lv_at hl 4 rfl) ?_
            refine bi_icmp_ge (tgt := 153) hx hb r_u4 r_u3 dX13_endNumber_130 (by decide) (fun c11 => ?_) (fun c11 => ?_)
            ·
              replace hw := hw.1 c11
              refine lv_aload_n hx hb dX13_endNumber_153 rfl (lv_at hl 1 rfl) ?_
              refine gfX13_packedLabels hx hb hts hK hP hown (hts _ tw_2072) dX13_endNumber_154 ?_
              refine lv_iload hx hb dX13_endNumber_157 (lv_at hl 5 rfl) ?_
              refine lv_iload_n hx hb dX13_endNumber_159 rfl (lv_at hl 4 rfl) ?_
              refine bi_isub hx hb dX13_endNumber_160 ?_
              obtain ⟨c12, hw⟩ := hw
              refine ldMX13_packedLabels hx hb hK hP hN c12 dX13_endNumber_161 (fun x13 r_x13 e_x13 => ?_)
              replace hw := hw x13 r_x13 e_x13
              exact (hP162 _ _ _ _).mp hw r_u2 r_k0 r_x13 hN hF H locs ls hP hD hS (lv_sub hl [1, 3, 0] rfl)
            ·
              replace hw := hw.2 c11
              refine lv_aload_n hx hb dX13_endNumber_133 rfl (lv_at hl 1 rfl) ?_
              refine gfX13_hyps hx hb hts hK hP hown (hts _ tw_2033) dX13_endNumber_134 ?_
              refine lv_aload_n hx hb dX13_endNumber_137 rfl (lv_at hl 1 rfl) ?_
              refine gfX13_hypAt hx hb hts hK hP hown (hts _ tw_2031) dX13_endNumber_138 ?_
              refine lv_aload_n hx hb dX13_endNumber_141 rfl (lv_at hl 1 rfl) ?_
              refine gfX13_now hx hb hts hK hP hown (hts _ tw_2068) (x := τ.1 22) rfl dX13_endNumber_142 ?_
              obtain ⟨c14, hw⟩ := hw
              refine ldMX13_hypAt hx hb hK hP hN c14 dX13_endNumber_145 (fun x15 r_x15 e_x15 => ?_)
              replace hw := hw x15 r_x15 e_x15
              refine lv_iload hx hb dX13_endNumber_146 (lv_at hl 5 rfl) ?_
              refine bi_iadd hx hb dX13_endNumber_148 ?_
              obtain ⟨c16, hw⟩ := hw
              refine ldMX13_hyps hx hb hK hP hN c16 dX13_endNumber_149 (fun x17 r_x17 e_x17 => ?_)
              replace hw := hw x17 r_x17 e_x17
              refine lv_goto (tgt := 162) hx hb dX13_endNumber_150 (by decide) ?_
              exact (hP162 _ _ _ _).mp hw r_u2 r_k0 r_x17 hN hF H locs ls hP hD hS (lv_sub hl [1, 3, 0] rfl)
          ·
            replace hw := hw.2 c10
            refine lv_iconst (v := I (-1)) hx hb dX13_endNumber_113 rfl ?_
            refine lv_iload hx hb dX13_endNumber_114 (lv_at hl 5 rfl) ?_
            refine lv_iload_n hx hb dX13_endNumber_116 rfl (lv_at hl 4 rfl) ?_
            refine bi_isub hx hb dX13_endNumber_117 ?_
            refine lv_aload_n hx hb dX13_endNumber_118 rfl (lv_at hl 1 rfl) ?_
            refine gfX13_packedCount hx hb hts hK hP hown (hts _ tw_2073) (x := τ.1 25) rfl dX13_endNumber_119 ?_
            refine bi_isub hx hb dX13_endNumber_122 ?_
            refine bi_isub hx hb dX13_endNumber_123 ?_
            refine lv_goto (tgt := 162) hx hb dX13_endNumber_124 (by decide) ?_
            obtain ⟨c18, hw⟩ := hw
            exact (hP162 _ _ _ _).mp hw r_u2 r_k0 c18 hN hF H locs ls hP hD hS (lv_sub hl [1, 3, 0] rfl)
        ·
          replace hw := hw.2 c9
          refine lv_aload_n hx hb dX13_endNumber_99 rfl (lv_at hl 1 rfl) ?_
          refine lv_iconst (v := I 5) hx hb dX13_endNumber_100 rfl ?_
          refine lv_iload_n hx hb dX13_endNumber_101 rfl (lv_at hl 3 rfl) ?_
          obtain ⟨Q19, hc, hw⟩ := hw
          refine wc_V (X := MX g q lb) (va_runV (As := [.int (I 5), .int (I u2)]) (rest := []) ⟨hx, hb, hml, hown, hts⟩ (L_X13_fail l g q lb hlb (by decide) r_u2 hN hc H.size) (cwV 2 hts (TB_V tw_2550 tw_2552 ts_106 tw_15 co_X13_fail) rfl rfl rfl (by decide +kernel) ⟨Nat.le_of_ble_eq_true rfl, Nat.le_of_ble_eq_true rfl⟩) (preV (q0 := 0) (ci := 13) rfl xT_bl hP hK hNb hD rfl rfl xT_at) rfl rfl hl.1 rfl (lv_room (Nat.le_of_ble_eq_true rfl)) dX13_endNumber_102 ⟨Nat.le_of_ble_eq_true rfl, Nat.le_of_ble_eq_true rfl⟩) hP hD hS hA (fun τ21 H locs hN hf hq hP hD hS => ?_)
          replace hw := hw τ21 hN hf hq
          have hF : f_r [9, 20, 21, 26, 27, 28] [26, 27, 28, 29] [] σ τ21 := f_t hF hf (by decide) (by decide) (by decide)
          have hB := hN
          refine lv_goto (tgt := 196) hx hb dX13_endNumber_105 (by decide) ?_
          exact (hP196 _).mp hw hN hF H locs ls hP hD hS (lv_sub hl [1] rfl)
      ·
        replace hw := hw.2 c8
        refine lv_aload_n hx hb dX13_endNumber_65 rfl (lv_at hl 1 rfl) ?_
        refine lv_aload_n hx hb dX13_endNumber_66 rfl (lv_at hl 1 rfl) ?_
        refine gfX13_stepCount hx hb hts hK hP hown (hts _ tw_2045) (x := τ.1 9) rfl dX13_endNumber_67 ?_
        refine lv_sipush (v := I 20000) hx hb dX13_endNumber_70 (by decide) ?_
        refine bi_icmp_ne (tgt := 80) hx hb (hB.1 9) (by decide) dX13_endNumber_73 (by decide) (fun c22 => ?_) (fun c22 => ?_)
        ·
          replace hw := hw.1 c22
          refine lv_bipush (v := I 14) hx hb dX13_endNumber_80 (by decide) ?_
          exact (hP82 _ _ _).mp hw r_u2 (by decide) hN hF H locs ls hP hD hS (lv_sub hl [1, 3] rfl)
        ·
          replace hw := hw.2 c22
          refine lv_iconst (v := I 5) hx hb dX13_endNumber_76 rfl ?_
          refine lv_goto (tgt := 82) hx hb dX13_endNumber_77 (by decide) ?_
          exact (hP82 _ _ _).mp hw r_u2 (by decide) hN hF H locs ls hP hD hS (lv_sub hl [1, 3] rfl)
    ·
      replace hw := hw.2 c6
      refine lv_aload_n hx hb dX13_endNumber_40 rfl (lv_at hl 1 rfl) ?_
      refine lv_iconst (v := I 5) hx hb dX13_endNumber_41 rfl ?_
      refine lv_iload_n hx hb dX13_endNumber_42 rfl (lv_at hl 3 rfl) ?_
      obtain ⟨Q23, hc, hw⟩ := hw
      refine wc_V (X := MX g q lb) (va_runV (As := [.int (I 5), .int (I u2)]) (rest := []) ⟨hx, hb, hml, hown, hts⟩ (L_X13_fail l g q lb hlb (by decide) r_u2 hN hc H.size) (cwV 2 hts (TB_V tw_2550 tw_2552 ts_106 tw_15 co_X13_fail) rfl rfl rfl (by decide +kernel) ⟨Nat.le_of_ble_eq_true rfl, Nat.le_of_ble_eq_true rfl⟩) (preV (q0 := 0) (ci := 13) rfl xT_bl hP hK hNb hD rfl rfl xT_at) rfl rfl hl.1 rfl (lv_room (Nat.le_of_ble_eq_true rfl)) dX13_endNumber_43 ⟨Nat.le_of_ble_eq_true rfl, Nat.le_of_ble_eq_true rfl⟩) hP hD hS hA (fun τ25 H locs hN hf hq hP hD hS => ?_)
      replace hw := hw τ25 hN hf hq
      have hF : f_r [9, 20, 21, 26, 27, 28] [26, 27, 28, 29] [] σ τ25 := f_t hF hf (by decide) (by decide) (by decide)
      have hB := hN
      refine lv_goto (tgt := 196) hx hb dX13_endNumber_46 (by decide) ?_
      exact (hP196 _).mp hw hN hF H locs ls hP hD hS (lv_sub hl [1] rfl)
  ·
    intro u2 k1 τ hw
    refine (hP82 _ _ _).mpr ?_
    intro r_u2 r_k1 hN hF H locs ls hP hD hS hl
    have hB := hN
    refine lv_iload_n hx hb dX13_endNumber_82 rfl (lv_at hl 1 rfl) ?_
    obtain ⟨Q33, hc, hw⟩ := hw
    refine wc_V (X := MX g q lb) (va_runV (As := [.int (I k1), .int (I u2)]) (rest := []) ⟨hx, hb, hml, hown, hts⟩ (L_X13_fail l g q lb hlb r_k1 r_u2 hN hc H.size) (cwV 2 hts (TB_V tw_2550 tw_2552 ts_106 tw_15 co_X13_fail) rfl rfl rfl (by decide +kernel) ⟨Nat.le_of_ble_eq_true rfl, Nat.le_of_ble_eq_true rfl⟩) (preV (q0 := 0) (ci := 13) rfl xT_bl hP hK hNb hD rfl rfl xT_at) rfl rfl hl.1 rfl (lv_room (Nat.le_of_ble_eq_true rfl)) dX13_endNumber_83 ⟨Nat.le_of_ble_eq_true rfl, Nat.le_of_ble_eq_true rfl⟩) hP hD hS hA (fun τ35 H locs hN hf hq hP hD hS => ?_)
    replace hw := hw τ35 hN hf hq
    have hF : f_r [9, 20, 21, 26, 27, 28] [26, 27, 28, 29] [] σ τ35 := f_t hF hf (by decide) (by decide) (by decide)
    have hB := hN
    refine lv_goto (tgt := 196) hx hb dX13_endNumber_86 (by decide) ?_
    exact (hP196 _).mp hw hN hF H locs ls hP hD hS (lv_sub hl [0] rfl)
  ·
    intro u2 u5 k0 τ hw
    refine (hP162 _ _ _ _).mpr ?_
    intro r_u2 r_u5 r_k0 hN hF H locs ls hP hD hS hl
    have hB := hN
    refine lv_istore (lv' := [(6, .int (I k0)), (0, .ref (q 0)), (2, .int (I u2)), (5, .int (I u5))]) hx hb dX13_endNumber_162 hl (by decide) rfl (fun ls hl => ?_)
    refine lv_aload_n hx hb dX13_endNumber_164 rfl (lv_at hl 1 rfl) ?_
    refine lv_iload hx hb dX13_endNumber_165 (lv_at hl 0 rfl) ?_
    refine lv_iload_n hx hb dX13_endNumber_167 rfl (lv_at hl 2 rfl) ?_
    obtain ⟨Q26, hc, hw⟩ := hw
    refine wc_V (X := MX g q lb) (va_runV (As := [.int (I k0), .int (I u2)]) (rest := []) ⟨hx, hb, hml, hown, hts⟩ (L_X13_addStep l g q lb hlb r_k0 r_u2 hN hc H.size) (cwV 2 hts (TB_V tw_2691 tw_2693 ts_137 tw_15 co_X13_addStep) rfl rfl rfl (by decide +kernel) ⟨Nat.le_of_ble_eq_true rfl, Nat.le_of_ble_eq_true rfl⟩) (preV (q0 := 0) (ci := 13) rfl xT_bl hP hK hNb hD rfl rfl xT_at) rfl rfl hl.1 rfl (lv_room (Nat.le_of_ble_eq_true rfl)) dX13_endNumber_168 ⟨Nat.le_of_ble_eq_true rfl, Nat.le_of_ble_eq_true rfl⟩) hP hD hS hA (fun τ28 H locs hN hf hq hP hD hS => ?_)
    replace hw := hw τ28 hN hf hq
    have hF : f_r [9, 20, 21, 26, 27, 28] [26, 27, 28, 29] [] σ τ28 := f_t hF hf (by decide) (by decide) (by decide)
    have hB := hN
    refine lv_aload_n hx hb dX13_endNumber_171 rfl (lv_at hl 1 rfl) ?_
    refine lv_iload hx hb dX13_endNumber_172 (lv_at hl 3 rfl) ?_
    refine bi_if_ne (tgt := 192) hx hb r_u5 dX13_endNumber_174 (by decide) (fun c29 => ?_) (fun c29 => ?_)
    ·
      replace hw := hw.1 c29
      refine lv_iconst (v := I 0) hx hb dX13_endNumber_192 rfl ?_
      exact (hP193 _ _).mp hw (by decide) hN hF H locs ls hP hD hS (lv_sub hl [1] rfl)
    ·
      replace hw := hw.2 c29
      refine lv_aload_n hx hb dX13_endNumber_177 rfl (lv_at hl 1 rfl) ?_
      refine gfX13_kindOf hx hb hts hK hP hown (hts _ tw_2025) dX13_endNumber_178 ?_
      refine lv_iload hx hb dX13_endNumber_181 (lv_at hl 0 rfl) ?_
      obtain ⟨c30, hw⟩ := hw
      refine ldMX13_kindOf hx hb hK hP hN c30 dX13_endNumber_183 (fun x31 r_x31 e_x31 => ?_)
      replace hw := hw x31 r_x31 e_x31
      refine lv_iconst (v := I 2) hx hb dX13_endNumber_184 rfl ?_
      refine bi_icmp_lt (tgt := 192) hx hb r_x31 (by decide) dX13_endNumber_185 (by decide) (fun c32 => ?_) (fun c32 => ?_)
      ·
        replace hw := hw.1 c32
        refine lv_iconst (v := I 0) hx hb dX13_endNumber_192 rfl ?_
        exact (hP193 _ _).mp hw (by decide) hN hF H locs ls hP hD hS (lv_sub hl [1] rfl)
      ·
        replace hw := hw.2 c32
        refine lv_iconst (v := I 1) hx hb dX13_endNumber_188 rfl ?_
        refine lv_goto (tgt := 193) hx hb dX13_endNumber_189 (by decide) ?_
        exact (hP193 _ _).mp hw (by decide) hN hF H locs ls hP hD hS (lv_sub hl [1] rfl)
  ·
    intro k1 τ hw
    refine (hP193 _ _).mpr ?_
    intro r_k1 hN hF H locs ls hP hD hS hl
    have hB := hN
    obtain ⟨c36, hw⟩ := hw
    refine pfX13_maySave hx hb hts hK hP hD hS hown (hts _ tw_2076) c36 dX13_endNumber_193 (fun H locs hP hD hS => ?_)
    have hN : n_m (s_v τ 28 k1) := n_v (i := 28) hN (r_k1 : rg k1)
    have hF : f_r [9, 20, 21, 26, 27, 28] [26, 27, 28, 29] [] σ (s_v τ 28 k1) := f_v hF (by decide)
    exact (hP196 _).mp hw hN hF H locs ls hP hD hS (lv_sub hl [0] rfl)
  ·
    intro τ hw
    refine (hP196 _).mpr ?_
    intro hN hF H locs ls hP hD hS hl
    have hB := hN
    refine lv_aload_n hx hb dX13_endNumber_196 rfl (lv_at hl 0 rfl) ?_
    refine lv_iconst (v := I 0) hx hb dX13_endNumber_197 rfl ?_
    refine pfX13_sum hx hb hts hK hP hD hS hown (hts _ tw_2074) dX13_endNumber_198 (fun H locs hP hD hS => ?_)
    have hN : n_m (s_v τ 26 0) := n_v (i := 26) hN ((by decide) : rg 0)
    have hF : f_r [9, 20, 21, 26, 27, 28] [26, 27, 28, 29] [] σ (s_v τ 26 0) := f_v hF (by decide)
    refine lv_aload_n hx hb dX13_endNumber_201 rfl (lv_at hl 0 rfl) ?_
    refine lv_iconst (v := I 0) hx hb dX13_endNumber_202 rfl ?_
    refine pfX13_inNumber hx hb hts hK hP hD hS hown (hts _ tw_2075) (by decide)  dX13_endNumber_203 (fun H locs hP hD hS => ?_)
    have hN : n_m (s_v (s_v τ 26 0) 27 0) := n_v (i := 27) hN ((by decide) : rg 0)
    have hF : f_r [9, 20, 21, 26, 27, 28] [26, 27, 28, 29] [] σ (s_v (s_v τ 26 0) 27 0) := f_v hF (by decide)
    exact xrv hx hb hr hlk hP hK hD hS ⟨_, hN, hF, rfl, hw⟩ (Nat.le_of_ble_eq_true rfl) (Nat.le_of_ble_eq_true rfl) dX13_endNumber_206
def W_X13_readLetter (n1 : Int) (n2 : Int) (σ : S0) (Q : S0 → Prop) : Prop :=
  ∀ (P124 : Int → S0 → Prop) (P197 : Int → S0 → Prop),
  (∀ (u2 : Int) (τ : S0), ((¬ τ.1 28 = 0 → (0 ≤ (τ.1 9 - 1) ∧ (τ.1 9 - 1) < 20001) ∧ (rg (τ.1 29 + 1) ∧ Q (s_v (s_v (s_a τ 28 (τ.1 9 - 1) 1) 29 (τ.1 29 + 1)) 28 0))) ∧ (τ.1 28 = 0 → ∃ (Q32 : S0 → Prop), W_X13_fail 14 u2 τ Q32 ∧ ∀ (τ34 : S0), n_m τ34 → f_r [20, 21] [] [] τ τ34 → Q32 τ34 → (Q τ34))) → P124 u2 τ) →
  (∀ (u2 : Int) (τ : S0), (∃ (Q26 : S0 → Prop), W_X13_fail 14 u2 τ Q26 ∧ ∀ (τ28 : S0), n_m τ28 → f_r [20, 21] [] [] τ τ28 → Q26 τ28 → (Q τ28)) → P197 u2 τ) →
  ∃ (Q1 : Int → Prop), W_X13_isIn (j_of n1) 65 84 σ Q1 ∧ ∀ (x2 : Int), rg x2 → Q1 x2 → ((x2 = 0 → ∃ (Q5 : Int → Prop), W_X13_isIn (j_of n1) 85 89 σ Q5 ∧ ∀ (x6 : Int), rg x6 → Q5 x6 → ((x6 = 0 → (¬ n1 = 90 → (¬ n1 = 63 → P197 n2 σ) ∧ (n1 = 63 → (¬ σ.1 27 = 0 → P197 n2 σ) ∧ (σ.1 27 = 0 → Q (s_v (s_v σ 23 1) 28 0)))) ∧ (n1 = 90 → (σ.1 28 = 0 → P124 n2 σ) ∧ (¬ σ.1 28 = 0 → (¬ σ.1 29 = 300 → P124 n2 σ) ∧ (σ.1 29 = 300 → ∃ (Q14 : S0 → Prop), W_X13_fail 5 n2 σ Q14 ∧ ∀ (τ16 : S0), n_m τ16 → f_r [20, 21] [] [] σ τ16 → Q14 τ16 → (Q τ16))))) ∧ (¬ x6 = 0 → rg (((5 * σ.1 26) + n1) - 84) ∧ ((((5 * σ.1 26) + n1) - 84) ≤ 1000000 → Q (s_v (s_v (s_v σ 26 (((5 * σ.1 26) + n1) - 84)) 27 1) 28 0)) ∧ (1000000 < (((5 * σ.1 26) + n1) - 84) → ∃ (Q19 : S0 → Prop), W_X13_fail 5 n2 (s_v (s_v (s_v σ 26 (((5 * σ.1 26) + n1) - 84)) 27 1) 28 0) Q19 ∧ ∀ (τ21 : S0), n_m τ21 → f_r [20, 21] [] [] (s_v (s_v (s_v σ 26 (((5 * σ.1 26) + n1) - 84)) 27 1) 28 0) τ21 → Q19 τ21 → (Q τ21))))) ∧ (¬ x2 = 0 → rg (((20 * σ.1 26) + n1) - 64) ∧ ∃ (Q23 : S0 → Prop), W_X13_endNumber (((20 * σ.1 26) + n1) - 64) n2 σ Q23 ∧ ∀ (τ25 : S0), n_m τ25 → f_r [9, 20, 21, 26, 27, 28] [26, 27, 28, 29] [] σ τ25 → Q23 τ25 → (Q τ25)))
set_option maxRecDepth 100000 in
set_option maxHeartbeats 4000000 in
theorem L_X13_readLetter (l : Launch) (g : gG) (q : Nat → Nat) (lb : Nat) (hlb : lb < 2 ^ 31) {n1 : Int} {n2 : Int} {σ : S0} {Q : S0 → Prop} (r_n1 : rg n1) (r_n2 : rg n2) (hN : n_m σ) (hw : W_X13_readLetter n1 n2 σ Q) (sz : Nat) : MetV l yX13_readLetter cX13_readLetter 3 { frames := 2, cells := 0, slots := 0, locals := 48 } g [.ref (q 0), .int (I n1), .int (I n2)] (MX g q lb σ) sz xT (p_V (MX g q lb) [9, 20, 21, 23, 26, 27, 28, 29] [26, 27, 28, 29] [] σ Q) 0 0 := by
  refine mkMet (Qc := fun A => QV g A (p_V (MX g q lb) [9, 20, 21, 23, 26, 27, 28, 29] [26, 27, 28, 29] [] σ Q)) (by decide) (Nat.le_of_ble_eq_true rfl) ?_
  intro p e s m below meth c A H ls hx hb hr hml hown hts hlk hnm hsz hP hK hNb hD hA hAe hS hX hl
  have hl : lv_has ls 3 [(0, .ref (q 0)), (1, .int (I n1)), (2, .int (I n2))] := hl
  have hB := hN
  have hF : f_r [9, 20, 21, 23, 26, 27, 28, 29] [26, 27, 28, 29] [] σ σ := f_0
  obtain ⟨locs, hlocs⟩ : ∃ z : List Loc, z = [] := ⟨_, rfl⟩
  rw [← hlocs] at hS ⊢
  obtain ⟨P124, hP124⟩ : ∃ P : Int → S0 → Prop, ∀ (u2 : Int) (τ : S0), (P u2 τ ↔ (rg u2 → n_m τ → f_r [9, 20, 21, 23, 26, 27, 28, 29] [26, 27, 28, 29] [] σ τ → ∀ (H : Heap) (locs : List Loc) (ls : Array Slot), KP g (MX g q lb τ) H → va_D A (MX g q lb τ) → va_S A s.heap H locs → lv_has ls 3 [(0, .ref (q 0)), (2, .int (I u2))] → W p l e ({ frames := 2, cells := 0, slots := 0, locals := 48 }) s m [.ref (q 0), .int (I n1), .int (I n2)].toArray below meth c H locs 0 0 (MQ below (QV g A (p_V (MX g q lb) [9, 20, 21, 23, 26, 27, 28, 29] [26, 27, 28, 29] [] σ Q)) [.ref (q 0), .int (I n1), .int (I n2)].toArray s 0 0 A) (F0 m 124 ls []))) := ⟨_, fun _ _ => Iff.rfl⟩
  obtain ⟨P197, hP197⟩ : ∃ P : Int → S0 → Prop, ∀ (u2 : Int) (τ : S0), (P u2 τ ↔ (rg u2 → n_m τ → f_r [9, 20, 21, 23, 26, 27, 28, 29] [26, 27, 28, 29] [] σ τ → ∀ (H : Heap) (locs : List Loc) (ls : Array Slot), KP g (MX g q lb τ) H → va_D A (MX g q lb τ) → va_S A s.heap H locs → lv_has ls 3 [(0, .ref (q 0)), (2, .int (I u2))] → W p l e ({ frames := 2, cells := 0, slots := 0, locals := 48 }) s m [.ref (q 0), .int (I n1), .int (I n2)].toArray below meth c H locs 0 0 (MQ below (QV g A (p_V (MX g q lb) [9, 20, 21, 23, 26, 27, 28, 29] [26, 27, 28, 29] [] σ Q)) [.ref (q 0), .int (I n1), .int (I n2)].toArray s 0 0 A) (F0 m 197 ls []))) := ⟨_, fun _ _ => Iff.rfl⟩
  refine (fun hw => ?_) (hw P124 P197 ?_ ?_)
  ·
    refine lv_iload_n hx hb dX13_readLetter_0 rfl (lv_at hl 1 rfl) ?_
    refine bi_i2l hx hb r_n1 dX13_readLetter_1 ?_
    refine lv_ldc2 (own := RX13) (v := 65) hx hb hown (hts _ tw_2594) dX13_readLetter_2 ?_
    refine lv_ldc2 (own := RX13) (v := 84) hx hb hown (hts _ tw_2685) dX13_readLetter_5 ?_
    obtain ⟨Q1, hc, hw⟩ := hw
    refine wc_i (X := MX g q lb) (va_runS (As := [.long (j_of n1), .long 65, .long 84]) (rest := []) ⟨hx, hb, hml, hown, hts⟩ (L_X13_isIn l g q lb hlb  hN hc H.size) (cwS 3 hts (TB_S tw_2525 tw_2526 tw_15 co_X13_isIn) rfl rfl rfl (by decide +kernel) ⟨Nat.le_of_ble_eq_true rfl, Nat.le_of_ble_eq_true rfl⟩) (preS xT_bl hP hK hNb hD xT_at) rfl rfl hl.1 rfl (lv_room (Nat.le_of_ble_eq_true rfl)) dX13_readLetter_8 ⟨Nat.le_of_ble_eq_true rfl, Nat.le_of_ble_eq_true rfl⟩) hP hD hS hA (fun x2 H locs r_x2 hq hP hD hS => ?_)
    replace hw := hw x2 r_x2 hq
    refine bi_if_eq (tgt := 34) hx hb r_x2 dX13_readLetter_11 (by decide) (fun c4 => ?_) (fun c4 => ?_)
    ·
      replace hw := hw.1 c4
      refine lv_iload_n hx hb dX13_readLetter_34 rfl (lv_at hl 1 rfl) ?_
      refine bi_i2l hx hb r_n1 dX13_readLetter_35 ?_
      refine lv_ldc2 (own := RX13) (v := 85) hx hb hown (hts _ tw_2695) dX13_readLetter_36 ?_
      refine lv_ldc2 (own := RX13) (v := 89) hx hb hown (hts _ tw_2696) dX13_readLetter_39 ?_
      obtain ⟨Q5, hc, hw⟩ := hw
      refine wc_i (X := MX g q lb) (va_runS (As := [.long (j_of n1), .long 85, .long 89]) (rest := []) ⟨hx, hb, hml, hown, hts⟩ (L_X13_isIn l g q lb hlb  hN hc H.size) (cwS 3 hts (TB_S tw_2525 tw_2526 tw_15 co_X13_isIn) rfl rfl rfl (by decide +kernel) ⟨Nat.le_of_ble_eq_true rfl, Nat.le_of_ble_eq_true rfl⟩) (preS xT_bl hP hK hNb hD xT_at) rfl rfl hl.1 rfl (lv_room (Nat.le_of_ble_eq_true rfl)) dX13_readLetter_42 ⟨Nat.le_of_ble_eq_true rfl, Nat.le_of_ble_eq_true rfl⟩) hP hD hS hA (fun x6 H locs r_x6 hq hP hD hS => ?_)
      replace hw := hw x6 r_x6 hq
      refine bi_if_eq (tgt := 92) hx hb r_x6 dX13_readLetter_45 (by decide) (fun c8 => ?_) (fun c8 => ?_)
      ·
        replace hw := hw.1 c8
        refine lv_iload_n hx hb dX13_readLetter_92 rfl (lv_at hl 1 rfl) ?_
        refine lv_bipush (v := I 90) hx hb dX13_readLetter_93 (by decide) ?_
        refine bi_icmp_ne (tgt := 171) hx hb r_n1 (by decide) dX13_readLetter_95 (by decide) (fun c9 => ?_) (fun c9 => ?_)
        ·
          replace hw := hw.1 c9
          refine lv_iload_n hx hb dX13_readLetter_171 rfl (lv_at hl 1 rfl) ?_
          refine lv_bipush (v := I 63) hx hb dX13_readLetter_172 (by decide) ?_
          refine bi_icmp_ne (tgt := 197) hx hb r_n1 (by decide) dX13_readLetter_174 (by decide) (fun c10 => ?_) (fun c10 => ?_)
          ·
            replace hw := hw.1 c10
            exact (hP197 _ _).mp hw r_n2 hN hF H locs ls hP hD hS (lv_sub hl [0, 2] rfl)
          ·
            replace hw := hw.2 c10
            refine lv_aload_n hx hb dX13_readLetter_177 rfl (lv_at hl 0 rfl) ?_
            refine gfX13_inNumber hx hb hts hK hP hown (hts _ tw_2075) (x := σ.1 27) rfl dX13_readLetter_178 ?_
            refine bi_if_ne (tgt := 197) hx hb (hB.1 27) dX13_readLetter_181 (by decide) (fun c11 => ?_) (fun c11 => ?_)
            ·
              replace hw := hw.1 c11
              exact (hP197 _ _).mp hw r_n2 hN hF H locs ls hP hD hS (lv_sub hl [0, 2] rfl)
            ·
              replace hw := hw.2 c11
              refine lv_aload_n hx hb dX13_readLetter_184 rfl (lv_at hl 0 rfl) ?_
              refine lv_iconst (v := I 1) hx hb dX13_readLetter_185 rfl ?_
              refine pfX13_isOpen hx hb hts hK hP hD hS hown (hts _ tw_2070) (by decide)  dX13_readLetter_186 (fun H locs hP hD hS => ?_)
              have hN : n_m (s_v σ 23 1) := n_v (i := 23) hN ((by decide) : rg 1)
              have hF : f_r [9, 20, 21, 23, 26, 27, 28, 29] [26, 27, 28, 29] [] σ (s_v σ 23 1) := f_v hF (by decide)
              refine lv_aload_n hx hb dX13_readLetter_189 rfl (lv_at hl 0 rfl) ?_
              refine lv_iconst (v := I 0) hx hb dX13_readLetter_190 rfl ?_
              refine pfX13_maySave hx hb hts hK hP hD hS hown (hts _ tw_2076) (by decide)  dX13_readLetter_191 (fun H locs hP hD hS => ?_)
              have hN : n_m (s_v (s_v σ 23 1) 28 0) := n_v (i := 28) hN ((by decide) : rg 0)
              have hF : f_r [9, 20, 21, 23, 26, 27, 28, 29] [26, 27, 28, 29] [] σ (s_v (s_v σ 23 1) 28 0) := f_v hF (by decide)
              refine lv_goto (tgt := 204) hx hb dX13_readLetter_194 (by decide) ?_
              exact xrv hx hb hr hlk hP hK hD hS ⟨_, hN, hF, rfl, hw⟩ (Nat.le_of_ble_eq_true rfl) (Nat.le_of_ble_eq_true rfl) dX13_readLetter_204
        ·
          replace hw := hw.2 c9
          refine lv_aload_n hx hb dX13_readLetter_98 rfl (lv_at hl 0 rfl) ?_
          refine gfX13_maySave hx hb hts hK hP hown (hts _ tw_2076) (x := σ.1 28) rfl dX13_readLetter_99 ?_
          refine bi_if_eq (tgt := 124) hx hb (hB.1 28) dX13_readLetter_102 (by decide) (fun c12 => ?_) (fun c12 => ?_)
          ·
            replace hw := hw.1 c12
            exact (hP124 _ _).mp hw r_n2 hN hF H locs ls hP hD hS (lv_sub hl [0, 2] rfl)
          ·
            replace hw := hw.2 c12
            refine lv_aload_n hx hb dX13_readLetter_105 rfl (lv_at hl 0 rfl) ?_
            refine gfX13_savedCount hx hb hts hK hP hown (hts _ tw_2077) (x := σ.1 29) rfl dX13_readLetter_106 ?_
            refine lv_sipush (v := I 300) hx hb dX13_readLetter_109 (by decide) ?_
            refine bi_icmp_ne (tgt := 124) hx hb (hB.1 29) (by decide) dX13_readLetter_112 (by decide) (fun c13 => ?_) (fun c13 => ?_)
            ·
              replace hw := hw.1 c13
              exact (hP124 _ _).mp hw r_n2 hN hF H locs ls hP hD hS (lv_sub hl [0, 2] rfl)
            ·
              replace hw := hw.2 c13
              refine lv_aload_n hx hb dX13_readLetter_115 rfl (lv_at hl 0 rfl) ?_
              refine lv_iconst (v := I 5) hx hb dX13_readLetter_116 rfl ?_
              refine lv_iload_n hx hb dX13_readLetter_117 rfl (lv_at hl 2 rfl) ?_
              obtain ⟨Q14, hc, hw⟩ := hw
              refine wc_V (X := MX g q lb) (va_runV (As := [.int (I 5), .int (I n2)]) (rest := []) ⟨hx, hb, hml, hown, hts⟩ (L_X13_fail l g q lb hlb (by decide) r_n2 hN hc H.size) (cwV 2 hts (TB_V tw_2550 tw_2552 ts_106 tw_15 co_X13_fail) rfl rfl rfl (by decide +kernel) ⟨Nat.le_of_ble_eq_true rfl, Nat.le_of_ble_eq_true rfl⟩) (preV (q0 := 0) (ci := 13) rfl xT_bl hP hK hNb hD rfl rfl xT_at) rfl rfl hl.1 rfl (lv_room (Nat.le_of_ble_eq_true rfl)) dX13_readLetter_118 ⟨Nat.le_of_ble_eq_true rfl, Nat.le_of_ble_eq_true rfl⟩) hP hD hS hA (fun τ16 H locs hN hf hq hP hD hS => ?_)
              replace hw := hw τ16 hN hf hq
              have hF : f_r [9, 20, 21, 23, 26, 27, 28, 29] [26, 27, 28, 29] [] σ τ16 := f_t hF hf (by decide) (by decide) (by decide)
              have hB := hN
              refine lv_goto (tgt := 204) hx hb dX13_readLetter_121 (by decide) ?_
              exact xrv hx hb hr hlk hP hK hD hS ⟨_, hN, hF, rfl, hw⟩ (Nat.le_of_ble_eq_true rfl) (Nat.le_of_ble_eq_true rfl) dX13_readLetter_204
      ·
        replace hw := hw.2 c8
        refine lv_aload_n hx hb dX13_readLetter_48 rfl (lv_at hl 0 rfl) ?_
        refine lv_iconst (v := I 5) hx hb dX13_readLetter_49 rfl ?_
        refine lv_aload_n hx hb dX13_readLetter_50 rfl (lv_at hl 0 rfl) ?_
        refine gfX13_sum hx hb hts hK hP hown (hts _ tw_2074) (x := σ.1 26) rfl dX13_readLetter_51 ?_
        refine bi_imul hx hb dX13_readLetter_54 ?_
        refine lv_iload_n hx hb dX13_readLetter_55 rfl (lv_at hl 1 rfl) ?_
        refine bi_iadd hx hb dX13_readLetter_56 ?_
        refine lv_bipush (v := I 84) hx hb dX13_readLetter_57 (by decide) ?_
        refine bi_isub hx hb dX13_readLetter_59 ?_
        obtain ⟨c17, hw⟩ := hw
        refine pfX13_sum hx hb hts hK hP hD hS hown (hts _ tw_2074) dX13_readLetter_60 (fun H locs hP hD hS => ?_)
        have hN : n_m (s_v σ 26 (((5 * σ.1 26) + n1) - 84)) := n_v (i := 26) hN (c17 : rg (((5 * σ.1 26) + n1) - 84))
        have hF : f_r [9, 20, 21, 23, 26, 27, 28, 29] [26, 27, 28, 29] [] σ (s_v σ 26 (((5 * σ.1 26) + n1) - 84)) := f_v hF (by decide)
        refine lv_aload_n hx hb dX13_readLetter_63 rfl (lv_at hl 0 rfl) ?_
        refine lv_iconst (v := I 1) hx hb dX13_readLetter_64 rfl ?_
        refine pfX13_inNumber hx hb hts hK hP hD hS hown (hts _ tw_2075) (by decide)  dX13_readLetter_65 (fun H locs hP hD hS => ?_)
        have hN : n_m (s_v (s_v σ 26 (((5 * σ.1 26) + n1) - 84)) 27 1) := n_v (i := 27) hN ((by decide) : rg 1)
        have hF : f_r [9, 20, 21, 23, 26, 27, 28, 29] [26, 27, 28, 29] [] σ (s_v (s_v σ 26 (((5 * σ.1 26) + n1) - 84)) 27 1) := f_v hF (by decide)
        refine lv_aload_n hx hb dX13_readLetter_68 rfl (lv_at hl 0 rfl) ?_
        refine lv_iconst (v := I 0) hx hb dX13_readLetter_69 rfl ?_
        refine pfX13_maySave hx hb hts hK hP hD hS hown (hts _ tw_2076) (by decide)  dX13_readLetter_70 (fun H locs hP hD hS => ?_)
        have hN : n_m (s_v (s_v (s_v σ 26 (((5 * σ.1 26) + n1) - 84)) 27 1) 28 0) := n_v (i := 28) hN ((by decide) : rg 0)
        have hF : f_r [9, 20, 21, 23, 26, 27, 28, 29] [26, 27, 28, 29] [] σ (s_v (s_v (s_v σ 26 (((5 * σ.1 26) + n1) - 84)) 27 1) 28 0) := f_v hF (by decide)
        refine lv_aload_n hx hb dX13_readLetter_73 rfl (lv_at hl 0 rfl) ?_
        refine gfX13_sum hx hb hts hK hP hown (hts _ tw_2074) (x := (((5 * σ.1 26) + n1) - 84)) rfl dX13_readLetter_74 ?_
        refine lv_ldcw (own := RX13) (v := 1000000) hx hb hown (hts _ tw_2690) dX13_readLetter_77 ?_
        refine xtop (y := I 1000000) (by decide) ?_
        refine bi_icmp_le (tgt := 204) hx hb c17 (by decide) dX13_readLetter_80 (by decide) (fun c18 => ?_) (fun c18 => ?_)
        ·
          replace hw := hw.1 c18
          exact xrv hx hb hr hlk hP hK hD hS ⟨_, hN, hF, rfl, hw⟩ (Nat.le_of_ble_eq_true rfl) (Nat.le_of_ble_eq_true rfl) dX13_readLetter_204
        ·
          replace hw := hw.2 c18
          refine lv_aload_n hx hb dX13_readLetter_83 rfl (lv_at hl 0 rfl) ?_
          refine lv_iconst (v := I 5) hx hb dX13_readLetter_84 rfl ?_
          refine lv_iload_n hx hb dX13_readLetter_85 rfl (lv_at hl 2 rfl) ?_
          obtain ⟨Q19, hc, hw⟩ := hw
          refine wc_V (X := MX g q lb) (va_runV (As := [.int (I 5), .int (I n2)]) (rest := []) ⟨hx, hb, hml, hown, hts⟩ (L_X13_fail l g q lb hlb (by decide) r_n2 hN hc H.size) (cwV 2 hts (TB_V tw_2550 tw_2552 ts_106 tw_15 co_X13_fail) rfl rfl rfl (by decide +kernel) ⟨Nat.le_of_ble_eq_true rfl, Nat.le_of_ble_eq_true rfl⟩) (preV (q0 := 0) (ci := 13) rfl xT_bl hP hK hNb hD rfl rfl xT_at) rfl rfl hl.1 rfl (lv_room (Nat.le_of_ble_eq_true rfl)) dX13_readLetter_86 ⟨Nat.le_of_ble_eq_true rfl, Nat.le_of_ble_eq_true rfl⟩) hP hD hS hA (fun τ21 H locs hN hf hq hP hD hS => ?_)
          replace hw := hw τ21 hN hf hq
          have hF : f_r [9, 20, 21, 23, 26, 27, 28, 29] [26, 27, 28, 29] [] σ τ21 := f_t hF hf (by decide) (by decide) (by decide)
          have hB := hN
          refine lv_goto (tgt := 204) hx hb dX13_readLetter_89 (by decide) ?_
          exact xrv hx hb hr hlk hP hK hD hS ⟨_, hN, hF, rfl, hw⟩ (Nat.le_of_ble_eq_true rfl) (Nat.le_of_ble_eq_true rfl) dX13_readLetter_204
    ·
      replace hw := hw.2 c4
      refine lv_aload_n hx hb dX13_readLetter_14 rfl (lv_at hl 0 rfl) ?_
      refine lv_bipush (v := I 20) hx hb dX13_readLetter_15 (by decide) ?_
      refine lv_aload_n hx hb dX13_readLetter_17 rfl (lv_at hl 0 rfl) ?_
      refine gfX13_sum hx hb hts hK hP hown (hts _ tw_2074) (x := σ.1 26) rfl dX13_readLetter_18 ?_
      refine bi_imul hx hb dX13_readLetter_21 ?_
      refine lv_iload_n hx hb dX13_readLetter_22 rfl (lv_at hl 1 rfl) ?_
      refine bi_iadd hx hb dX13_readLetter_23 ?_
      refine lv_bipush (v := I 64) hx hb dX13_readLetter_24 (by decide) ?_
      refine bi_isub hx hb dX13_readLetter_26 ?_
      refine lv_iload_n hx hb dX13_readLetter_27 rfl (lv_at hl 2 rfl) ?_
      obtain ⟨c22, hw⟩ := hw
      obtain ⟨Q23, hc, hw⟩ := hw
      refine wc_V (X := MX g q lb) (va_runV (As := [.int (I (((20 * σ.1 26) + n1) - 64)), .int (I n2)]) (rest := []) ⟨hx, hb, hml, hown, hts⟩ (L_X13_endNumber l g q lb hlb c22 r_n2 hN hc H.size) (cwV 2 hts (TB_V tw_2686 tw_2688 ts_136 tw_15 co_X13_endNumber) rfl rfl rfl (by decide +kernel) ⟨Nat.le_of_ble_eq_true rfl, Nat.le_of_ble_eq_true rfl⟩) (preV (q0 := 0) (ci := 13) rfl xT_bl hP hK hNb hD rfl rfl xT_at) rfl rfl hl.1 rfl (lv_room (Nat.le_of_ble_eq_true rfl)) dX13_readLetter_28 ⟨Nat.le_of_ble_eq_true rfl, Nat.le_of_ble_eq_true rfl⟩) hP hD hS hA (fun τ25 H locs hN hf hq hP hD hS => ?_)
      replace hw := hw τ25 hN hf hq
      have hF : f_r [9, 20, 21, 23, 26, 27, 28, 29] [26, 27, 28, 29] [] σ τ25 := f_t hF hf (by decide) (by decide) (by decide)
      have hB := hN
      refine lv_goto (tgt := 204) hx hb dX13_readLetter_31 (by decide) ?_
      exact xrv hx hb hr hlk hP hK hD hS ⟨_, hN, hF, rfl, hw⟩ (Nat.le_of_ble_eq_true rfl) (Nat.le_of_ble_eq_true rfl) dX13_readLetter_204
  ·
    intro u2 τ hw
    refine (hP124 _ _).mpr ?_
    intro r_u2 hN hF H locs ls hP hD hS hl
    have hB := hN
    refine lv_aload_n hx hb dX13_readLetter_124 rfl (lv_at hl 0 rfl) ?_
    refine gfX13_maySave hx hb hts hK hP hown (hts _ tw_2076) (x := τ.1 28) rfl dX13_readLetter_125 ?_
    refine bi_if_ne (tgt := 141) hx hb (hB.1 28) dX13_readLetter_128 (by decide) (fun c29 => ?_) (fun c29 => ?_)
    ·
      replace hw := hw.1 c29
      refine lv_aload_n hx hb dX13_readLetter_141 rfl (lv_at hl 0 rfl) ?_
      refine gfX13_saves hx hb hts hK hP hown (hts _ tw_2043) dX13_readLetter_142 ?_
      refine lv_aload_n hx hb dX13_readLetter_145 rfl (lv_at hl 0 rfl) ?_
      refine gfX13_stepCount hx hb hts hK hP hown (hts _ tw_2045) (x := τ.1 9) rfl dX13_readLetter_146 ?_
      refine lv_iconst (v := I 1) hx hb dX13_readLetter_149 rfl ?_
      refine bi_isub hx hb dX13_readLetter_150 ?_
      refine lv_iconst (v := I 1) hx hb dX13_readLetter_151 rfl ?_
      obtain ⟨c30, hw⟩ := hw
      refine sdMX13_saves hx hb hK hP hD hS c30 (by decide) dX13_readLetter_152 (fun H locs hP hD hS => ?_)
      have hN : n_m (s_a τ 28 (τ.1 9 - 1) 1) := n_a (k := 28) (j := (τ.1 9 - 1)) hN ((by decide) : rg 1)
      have hF : f_r [9, 20, 21, 23, 26, 27, 28, 29] [26, 27, 28, 29] [] σ (s_a τ 28 (τ.1 9 - 1) 1) := f_a hF (by decide)
      refine lv_aload_n hx hb dX13_readLetter_153 rfl (lv_at hl 0 rfl) ?_
      refine lv_dup hx hb dX13_readLetter_154 rfl ?_
      refine gfX13_savedCount hx hb hts hK hP hown (hts _ tw_2077) (x := τ.1 29) rfl dX13_readLetter_155 ?_
      refine lv_iconst (v := I 1) hx hb dX13_readLetter_158 rfl ?_
      refine bi_iadd hx hb dX13_readLetter_159 ?_
      obtain ⟨c31, hw⟩ := hw
      refine pfX13_savedCount hx hb hts hK hP hD hS hown (hts _ tw_2077) dX13_readLetter_160 (fun H locs hP hD hS => ?_)
      have hN : n_m (s_v (s_a τ 28 (τ.1 9 - 1) 1) 29 (τ.1 29 + 1)) := n_v (i := 29) hN (c31 : rg (τ.1 29 + 1))
      have hF : f_r [9, 20, 21, 23, 26, 27, 28, 29] [26, 27, 28, 29] [] σ (s_v (s_a τ 28 (τ.1 9 - 1) 1) 29 (τ.1 29 + 1)) := f_v hF (by decide)
      refine lv_aload_n hx hb dX13_readLetter_163 rfl (lv_at hl 0 rfl) ?_
      refine lv_iconst (v := I 0) hx hb dX13_readLetter_164 rfl ?_
      refine pfX13_maySave hx hb hts hK hP hD hS hown (hts _ tw_2076) (by decide)  dX13_readLetter_165 (fun H locs hP hD hS => ?_)
      have hN : n_m (s_v (s_v (s_a τ 28 (τ.1 9 - 1) 1) 29 (τ.1 29 + 1)) 28 0) := n_v (i := 28) hN ((by decide) : rg 0)
      have hF : f_r [9, 20, 21, 23, 26, 27, 28, 29] [26, 27, 28, 29] [] σ (s_v (s_v (s_a τ 28 (τ.1 9 - 1) 1) 29 (τ.1 29 + 1)) 28 0) := f_v hF (by decide)
      refine lv_goto (tgt := 204) hx hb dX13_readLetter_168 (by decide) ?_
      exact xrv hx hb hr hlk hP hK hD hS ⟨_, hN, hF, rfl, hw⟩ (Nat.le_of_ble_eq_true rfl) (Nat.le_of_ble_eq_true rfl) dX13_readLetter_204
    ·
      replace hw := hw.2 c29
      refine lv_aload_n hx hb dX13_readLetter_131 rfl (lv_at hl 0 rfl) ?_
      refine lv_bipush (v := I 14) hx hb dX13_readLetter_132 (by decide) ?_
      refine lv_iload_n hx hb dX13_readLetter_134 rfl (lv_at hl 1 rfl) ?_
      obtain ⟨Q32, hc, hw⟩ := hw
      refine wc_V (X := MX g q lb) (va_runV (As := [.int (I 14), .int (I u2)]) (rest := []) ⟨hx, hb, hml, hown, hts⟩ (L_X13_fail l g q lb hlb (by decide) r_u2 hN hc H.size) (cwV 2 hts (TB_V tw_2550 tw_2552 ts_106 tw_15 co_X13_fail) rfl rfl rfl (by decide +kernel) ⟨Nat.le_of_ble_eq_true rfl, Nat.le_of_ble_eq_true rfl⟩) (preV (q0 := 0) (ci := 13) rfl xT_bl hP hK hNb hD rfl rfl xT_at) rfl rfl hl.1 rfl (lv_room (Nat.le_of_ble_eq_true rfl)) dX13_readLetter_135 ⟨Nat.le_of_ble_eq_true rfl, Nat.le_of_ble_eq_true rfl⟩) hP hD hS hA (fun τ34 H locs hN hf hq hP hD hS => ?_)
      replace hw := hw τ34 hN hf hq
      have hF : f_r [9, 20, 21, 23, 26, 27, 28, 29] [26, 27, 28, 29] [] σ τ34 := f_t hF hf (by decide) (by decide) (by decide)
      have hB := hN
      refine lv_goto (tgt := 204) hx hb dX13_readLetter_138 (by decide) ?_
      exact xrv hx hb hr hlk hP hK hD hS ⟨_, hN, hF, rfl, hw⟩ (Nat.le_of_ble_eq_true rfl) (Nat.le_of_ble_eq_true rfl) dX13_readLetter_204
  ·
    intro u2 τ hw
    refine (hP197 _ _).mpr ?_
    intro r_u2 hN hF H locs ls hP hD hS hl
    have hB := hN
    refine lv_aload_n hx hb dX13_readLetter_197 rfl (lv_at hl 0 rfl) ?_
    refine lv_bipush (v := I 14) hx hb dX13_readLetter_198 (by decide) ?_
    refine lv_iload_n hx hb dX13_readLetter_200 rfl (lv_at hl 1 rfl) ?_
    obtain ⟨Q26, hc, hw⟩ := hw
    refine wc_V (X := MX g q lb) (va_runV (As := [.int (I 14), .int (I u2)]) (rest := []) ⟨hx, hb, hml, hown, hts⟩ (L_X13_fail l g q lb hlb (by decide) r_u2 hN hc H.size) (cwV 2 hts (TB_V tw_2550 tw_2552 ts_106 tw_15 co_X13_fail) rfl rfl rfl (by decide +kernel) ⟨Nat.le_of_ble_eq_true rfl, Nat.le_of_ble_eq_true rfl⟩) (preV (q0 := 0) (ci := 13) rfl xT_bl hP hK hNb hD rfl rfl xT_at) rfl rfl hl.1 rfl (lv_room (Nat.le_of_ble_eq_true rfl)) dX13_readLetter_201 ⟨Nat.le_of_ble_eq_true rfl, Nat.le_of_ble_eq_true rfl⟩) hP hD hS hA (fun τ28 H locs hN hf hq hP hD hS => ?_)
    replace hw := hw τ28 hN hf hq
    have hF : f_r [9, 20, 21, 23, 26, 27, 28, 29] [26, 27, 28, 29] [] σ τ28 := f_t hF hf (by decide) (by decide) (by decide)
    have hB := hN
    exact xrv hx hb hr hlk hP hK hD hS ⟨_, hN, hF, rfl, hw⟩ (Nat.le_of_ble_eq_true rfl) (Nat.le_of_ble_eq_true rfl) dX13_readLetter_204
def W_X13_readPacked (σ : S0) (Q : S0 → Prop) : Prop :=
  ∀ (P36 : S0 → Prop) (P68 : Int → S0 → Prop) (P110 : S0 → Prop) (P124 : S0 → Prop),
  (∀ (τ : S0), ((¬ τ.1 20 = 0 → P124 τ) ∧ (τ.1 20 = 0 → (τ.1 19 = 46 → P124 τ) ∧ (¬ τ.1 19 = 46 → (τ.1 19 = 1 → P68 0 τ) ∧ (¬ τ.1 19 = 1 → ∃ (Q11 : S0 → Prop), W_X13_failHere 4 τ Q11 ∧ ∀ (τ13 : S0), n_m τ13 → f_r [20, 21] [] [] τ τ13 → Q11 τ13 → (Q τ13))))) → P36 τ) →
  (∀ (u1 : Int) (τ : S0), ((τ.1 18 ≤ u1 → P110 τ) ∧ (u1 < τ.1 18 → (¬ τ.1 20 = 0 → P110 τ) ∧ (τ.1 20 = 0 → (0 ≤ (τ.1 17 + u1) ∧ (τ.1 17 + u1) < 60000) ∧ (∀ (x22 : Int), rg x22 → x22 = τ.2.1 0 (τ.1 17 + u1) → (∃ (Q23 : S0 → Prop), W_X13_readLetter x22 (τ.1 17 + u1) τ Q23 ∧ ∀ (τ25 : S0), n_m τ25 → f_r [9, 20, 21, 23, 26, 27, 28, 29] [26, 27, 28, 29] [] τ τ25 → Q23 τ25 → (rg (u1 + 1) ∧ P68 (u1 + 1) τ25)))))) → P68 u1 τ) →
  (∀ (τ : S0), ((¬ τ.1 20 = 0 → P36 τ) ∧ (τ.1 20 = 0 → ∃ (Q28 : S0 → Prop), W_X13_next τ Q28 ∧ ∀ (τ30 : S0), n_m τ30 → f_r [16, 17, 18, 19, 20, 21] [] [] τ τ30 → Q28 τ30 → (P36 τ30))) → P110 τ) →
  (∀ (τ : S0), ((¬ τ.1 20 = 0 → Q τ) ∧ (τ.1 20 = 0 → (τ.1 27 = 0 → Q τ) ∧ (¬ τ.1 27 = 0 → ∃ (Q16 : S0 → Prop), W_X13_failHere 14 τ Q16 ∧ ∀ (τ18 : S0), n_m τ18 → f_r [20, 21] [] [] τ τ18 → Q16 τ18 → (Q τ18)))) → P124 τ) →
  ∃ (Q1 : S0 → Prop), W_X13_readPackedLabels σ Q1 ∧ ∀ (τ3 : S0), n_m τ3 → f_r [16, 17, 18, 19, 20, 21, 25] [39] [] σ τ3 → Q1 τ3 → ((τ3.1 20 ≤ 0 → ∃ (Q5 : S0 → Prop), W_X13_next (s_v (s_v (s_v (s_v τ3 26 0) 27 0) 28 0) 29 0) Q5 ∧ ∀ (τ7 : S0), n_m τ7 → f_r [16, 17, 18, 19, 20, 21] [] [] (s_v (s_v (s_v (s_v τ3 26 0) 27 0) 28 0) 29 0) τ7 → Q5 τ7 → (P36 τ7)) ∧ (0 < τ3.1 20 → Q τ3))
set_option maxRecDepth 100000 in
set_option maxHeartbeats 4000000 in
theorem L_X13_readPacked (l : Launch) (g : gG) (q : Nat → Nat) (lb : Nat) (hlb : lb < 2 ^ 31) {σ : S0} {Q : S0 → Prop} (hN : n_m σ) (hw : W_X13_readPacked σ Q) (sz : Nat) : MetV l yX13_readPacked cX13_readPacked 2 { frames := 5, cells := 0, slots := 0, locals := 107 } g [.ref (q 0)] (MX g q lb σ) sz xT (p_V (MX g q lb) [9, 16, 17, 18, 19, 20, 21, 23, 25, 26, 27, 28, 29] [26, 27, 28, 29, 39] [] σ Q) 0 0 := by
  refine mkMet (Qc := fun A => QV g A (p_V (MX g q lb) [9, 16, 17, 18, 19, 20, 21, 23, 25, 26, 27, 28, 29] [26, 27, 28, 29, 39] [] σ Q)) (by decide) (Nat.le_of_ble_eq_true rfl) ?_
  intro p e s m below meth c A H ls hx hb hr hml hown hts hlk hnm hsz hP hK hNb hD hA hAe hS hX hl
  have hl : lv_has ls 2 [(0, .ref (q 0))] := hl
  have hB := hN
  have hF : f_r [9, 16, 17, 18, 19, 20, 21, 23, 25, 26, 27, 28, 29] [26, 27, 28, 29, 39] [] σ σ := f_0
  obtain ⟨locs, hlocs⟩ : ∃ z : List Loc, z = [] := ⟨_, rfl⟩
  rw [← hlocs] at hS ⊢
  obtain ⟨P36, hP36⟩ : ∃ P : S0 → Prop, ∀ (τ : S0), (P τ ↔ (n_m τ → f_r [9, 16, 17, 18, 19, 20, 21, 23, 25, 26, 27, 28, 29] [26, 27, 28, 29, 39] [] σ τ → ∀ (H : Heap) (locs : List Loc) (ls : Array Slot), KP g (MX g q lb τ) H → va_D A (MX g q lb τ) → va_S A s.heap H locs → lv_has ls 2 [(0, .ref (q 0))] → W p l e ({ frames := 5, cells := 0, slots := 0, locals := 107 }) s m [.ref (q 0)].toArray below meth c H locs 0 0 (MQ below (QV g A (p_V (MX g q lb) [9, 16, 17, 18, 19, 20, 21, 23, 25, 26, 27, 28, 29] [26, 27, 28, 29, 39] [] σ Q)) [.ref (q 0)].toArray s 0 0 A) (F0 m 36 ls []))) := ⟨_, fun _ => Iff.rfl⟩
  obtain ⟨P68, hP68⟩ : ∃ P : Int → S0 → Prop, ∀ (u1 : Int) (τ : S0), (P u1 τ ↔ (rg u1 → n_m τ → f_r [9, 16, 17, 18, 19, 20, 21, 23, 25, 26, 27, 28, 29] [26, 27, 28, 29, 39] [] σ τ → ∀ (H : Heap) (locs : List Loc) (ls : Array Slot), KP g (MX g q lb τ) H → va_D A (MX g q lb τ) → va_S A s.heap H locs → lv_has ls 2 [(0, .ref (q 0)), (1, .int (I u1))] → W p l e ({ frames := 5, cells := 0, slots := 0, locals := 107 }) s m [.ref (q 0)].toArray below meth c H locs 0 0 (MQ below (QV g A (p_V (MX g q lb) [9, 16, 17, 18, 19, 20, 21, 23, 25, 26, 27, 28, 29] [26, 27, 28, 29, 39] [] σ Q)) [.ref (q 0)].toArray s 0 0 A) (F0 m 68 ls []))) := ⟨_, fun _ _ => Iff.rfl⟩
  obtain ⟨P110, hP110⟩ : ∃ P : S0 → Prop, ∀ (τ : S0), (P τ ↔ (n_m τ → f_r [9, 16, 17, 18, 19, 20, 21, 23, 25, 26, 27, 28, 29] [26, 27, 28, 29, 39] [] σ τ → ∀ (H : Heap) (locs : List Loc) (ls : Array Slot), KP g (MX g q lb τ) H → va_D A (MX g q lb τ) → va_S A s.heap H locs → lv_has ls 2 [(0, .ref (q 0))] → W p l e ({ frames := 5, cells := 0, slots := 0, locals := 107 }) s m [.ref (q 0)].toArray below meth c H locs 0 0 (MQ below (QV g A (p_V (MX g q lb) [9, 16, 17, 18, 19, 20, 21, 23, 25, 26, 27, 28, 29] [26, 27, 28, 29, 39] [] σ Q)) [.ref (q 0)].toArray s 0 0 A) (F0 m 110 ls []))) := ⟨_, fun _ => Iff.rfl⟩
  obtain ⟨P124, hP124⟩ : ∃ P : S0 → Prop, ∀ (τ : S0), (P τ ↔ (n_m τ → f_r [9, 16, 17, 18, 19, 20, 21, 23, 25, 26, 27, 28, 29] [26, 27, 28, 29, 39] [] σ τ → ∀ (H : Heap) (locs : List Loc) (ls : Array Slot), KP g (MX g q lb τ) H → va_D A (MX g q lb τ) → va_S A s.heap H locs → lv_has ls 2 [(0, .ref (q 0))] → W p l e ({ frames := 5, cells := 0, slots := 0, locals := 107 }) s m [.ref (q 0)].toArray below meth c H locs 0 0 (MQ below (QV g A (p_V (MX g q lb) [9, 16, 17, 18, 19, 20, 21, 23, 25, 26, 27, 28, 29] [26, 27, 28, 29, 39] [] σ Q)) [.ref (q 0)].toArray s 0 0 A) (F0 m 124 ls []))) := ⟨_, fun _ => Iff.rfl⟩
  refine (fun hw => ?_) (hw P36 P68 P110 P124 ?_ ?_ ?_ ?_)
  ·
    refine lv_aload_n hx hb dX13_readPacked_0 rfl (lv_at hl 0 rfl) ?_
    obtain ⟨Q1, hc, hw⟩ := hw
    refine wc_V (X := MX g q lb) (va_runV (As := []) (rest := []) ⟨hx, hb, hml, hown, hts⟩ (L_X13_readPackedLabels l g q lb hlb  hN hc H.size) (cwV 0 hts (TB_V tw_2669 tw_2671 ts_132 tw_15 co_X13_readPackedLabels) rfl rfl rfl (by decide +kernel) ⟨Nat.le_of_ble_eq_true rfl, Nat.le_of_ble_eq_true rfl⟩) (preV (q0 := 0) (ci := 13) rfl xT_bl hP hK hNb hD rfl rfl xT_at) rfl rfl hl.1 rfl (lv_room (Nat.le_of_ble_eq_true rfl)) dX13_readPacked_1 ⟨Nat.le_of_ble_eq_true rfl, Nat.le_of_ble_eq_true rfl⟩) hP hD hS hA (fun τ3 H locs hN hf hq hP hD hS => ?_)
    replace hw := hw τ3 hN hf hq
    have hF : f_r [9, 16, 17, 18, 19, 20, 21, 23, 25, 26, 27, 28, 29] [26, 27, 28, 29, 39] [] σ τ3 := f_t hF hf (by decide) (by decide) (by decide)
    have hB := hN
    refine lv_aload_n hx hb dX13_readPacked_4 rfl (lv_at hl 0 rfl) ?_
    refine gfX13_fault hx hb hts hK hP hown (hts _ tw_2065) (x := τ3.1 20) rfl dX13_readPacked_5 ?_
    refine bi_if_le (tgt := 12) hx hb (hB.1 20) dX13_readPacked_8 (by decide) (fun c4 => ?_) (fun c4 => ?_)
    ·
      replace hw := hw.1 c4
      refine lv_aload_n hx hb dX13_readPacked_12 rfl (lv_at hl 0 rfl) ?_
      refine lv_iconst (v := I 0) hx hb dX13_readPacked_13 rfl ?_
      refine pfX13_sum hx hb hts hK hP hD hS hown (hts _ tw_2074) dX13_readPacked_14 (fun H locs hP hD hS => ?_)
      have hN : n_m (s_v τ3 26 0) := n_v (i := 26) hN ((by decide) : rg 0)
      have hF : f_r [9, 16, 17, 18, 19, 20, 21, 23, 25, 26, 27, 28, 29] [26, 27, 28, 29, 39] [] σ (s_v τ3 26 0) := f_v hF (by decide)
      refine lv_aload_n hx hb dX13_readPacked_17 rfl (lv_at hl 0 rfl) ?_
      refine lv_iconst (v := I 0) hx hb dX13_readPacked_18 rfl ?_
      refine pfX13_inNumber hx hb hts hK hP hD hS hown (hts _ tw_2075) (by decide)  dX13_readPacked_19 (fun H locs hP hD hS => ?_)
      have hN : n_m (s_v (s_v τ3 26 0) 27 0) := n_v (i := 27) hN ((by decide) : rg 0)
      have hF : f_r [9, 16, 17, 18, 19, 20, 21, 23, 25, 26, 27, 28, 29] [26, 27, 28, 29, 39] [] σ (s_v (s_v τ3 26 0) 27 0) := f_v hF (by decide)
      refine lv_aload_n hx hb dX13_readPacked_22 rfl (lv_at hl 0 rfl) ?_
      refine lv_iconst (v := I 0) hx hb dX13_readPacked_23 rfl ?_
      refine pfX13_maySave hx hb hts hK hP hD hS hown (hts _ tw_2076) (by decide)  dX13_readPacked_24 (fun H locs hP hD hS => ?_)
      have hN : n_m (s_v (s_v (s_v τ3 26 0) 27 0) 28 0) := n_v (i := 28) hN ((by decide) : rg 0)
      have hF : f_r [9, 16, 17, 18, 19, 20, 21, 23, 25, 26, 27, 28, 29] [26, 27, 28, 29, 39] [] σ (s_v (s_v (s_v τ3 26 0) 27 0) 28 0) := f_v hF (by decide)
      refine lv_aload_n hx hb dX13_readPacked_27 rfl (lv_at hl 0 rfl) ?_
      refine lv_iconst (v := I 0) hx hb dX13_readPacked_28 rfl ?_
      refine pfX13_savedCount hx hb hts hK hP hD hS hown (hts _ tw_2077) dX13_readPacked_29 (fun H locs hP hD hS => ?_)
      have hN : n_m (s_v (s_v (s_v (s_v τ3 26 0) 27 0) 28 0) 29 0) := n_v (i := 29) hN ((by decide) : rg 0)
      have hF : f_r [9, 16, 17, 18, 19, 20, 21, 23, 25, 26, 27, 28, 29] [26, 27, 28, 29, 39] [] σ (s_v (s_v (s_v (s_v τ3 26 0) 27 0) 28 0) 29 0) := f_v hF (by decide)
      refine lv_aload_n hx hb dX13_readPacked_32 rfl (lv_at hl 0 rfl) ?_
      obtain ⟨Q5, hc, hw⟩ := hw
      refine wc_V (X := MX g q lb) (va_runV (As := []) (rest := []) ⟨hx, hb, hml, hown, hts⟩ (L_X13_next l g q lb hlb  hN hc H.size) (cwV 0 hts (TB_V tw_2536 tw_2538 ts_104 tw_15 co_X13_next) rfl rfl rfl (by decide +kernel) ⟨Nat.le_of_ble_eq_true rfl, Nat.le_of_ble_eq_true rfl⟩) (preV (q0 := 0) (ci := 13) rfl xT_bl hP hK hNb hD rfl rfl xT_at) rfl rfl hl.1 rfl (lv_room (Nat.le_of_ble_eq_true rfl)) dX13_readPacked_33 ⟨Nat.le_of_ble_eq_true rfl, Nat.le_of_ble_eq_true rfl⟩) hP hD hS hA (fun τ7 H locs hN hf hq hP hD hS => ?_)
      replace hw := hw τ7 hN hf hq
      have hF : f_r [9, 16, 17, 18, 19, 20, 21, 23, 25, 26, 27, 28, 29] [26, 27, 28, 29, 39] [] σ τ7 := f_t hF hf (by decide) (by decide) (by decide)
      have hB := hN
      exact (hP36 _).mp hw hN hF H locs ls hP hD hS (lv_sub hl [0] rfl)
    ·
      replace hw := hw.2 c4
      exact xrv hx hb hr hlk hP hK hD hS ⟨_, hN, hF, rfl, hw⟩ (Nat.le_of_ble_eq_true rfl) (Nat.le_of_ble_eq_true rfl) dX13_readPacked_11
  ·
    intro τ hw
    refine (hP36 _).mpr ?_
    intro hN hF H locs ls hP hD hS hl
    have hB := hN
    refine lv_aload_n hx hb dX13_readPacked_36 rfl (lv_at hl 0 rfl) ?_
    refine gfX13_fault hx hb hts hK hP hown (hts _ tw_2065) (x := τ.1 20) rfl dX13_readPacked_37 ?_
    refine bi_if_ne (tgt := 124) hx hb (hB.1 20) dX13_readPacked_40 (by decide) (fun c8 => ?_) (fun c8 => ?_)
    ·
      replace hw := hw.1 c8
      exact (hP124 _).mp hw hN hF H locs ls hP hD hS (lv_sub hl [0] rfl)
    ·
      replace hw := hw.2 c8
      refine lv_aload_n hx hb dX13_readPacked_43 rfl (lv_at hl 0 rfl) ?_
      refine gfX13_token hx hb hts hK hP hown (hts _ tw_2064) (x := τ.1 19) rfl dX13_readPacked_44 ?_
      refine lv_bipush (v := I 46) hx hb dX13_readPacked_47 (by decide) ?_
      refine bi_icmp_eq (tgt := 124) hx hb (hB.1 19) (by decide) dX13_readPacked_49 (by decide) (fun c9 => ?_) (fun c9 => ?_)
      ·
        replace hw := hw.1 c9
        exact (hP124 _).mp hw hN hF H locs ls hP hD hS (lv_sub hl [0] rfl)
      ·
        replace hw := hw.2 c9
        refine lv_aload_n hx hb dX13_readPacked_52 rfl (lv_at hl 0 rfl) ?_
        refine gfX13_token hx hb hts hK hP hown (hts _ tw_2064) (x := τ.1 19) rfl dX13_readPacked_53 ?_
        refine lv_iconst (v := I 1) hx hb dX13_readPacked_56 rfl ?_
        refine bi_icmp_eq (tgt := 66) hx hb (hB.1 19) (by decide) dX13_readPacked_57 (by decide) (fun c10 => ?_) (fun c10 => ?_)
        ·
          replace hw := hw.1 c10
          refine lv_iconst (v := I 0) hx hb dX13_readPacked_66 rfl ?_
          refine lv_istore_n (lv' := [(1, .int (I 0)), (0, .ref (q 0))]) hx hb dX13_readPacked_67 rfl hl (by decide) rfl (fun ls hl => ?_)
          exact (hP68 _ _).mp hw (by decide) hN hF H locs ls hP hD hS (lv_sub hl [1, 0] rfl)
        ·
          replace hw := hw.2 c10
          refine lv_aload_n hx hb dX13_readPacked_60 rfl (lv_at hl 0 rfl) ?_
          refine lv_iconst (v := I 4) hx hb dX13_readPacked_61 rfl ?_
          obtain ⟨Q11, hc, hw⟩ := hw
          refine wc_V (X := MX g q lb) (va_runV (As := [.int (I 4)]) (rest := []) ⟨hx, hb, hml, hown, hts⟩ (L_X13_failHere l g q lb hlb (by decide) hN hc H.size) (cwV 1 hts (TB_V tw_2585 tw_2587 ts_114 tw_15 co_X13_failHere) rfl rfl rfl (by decide +kernel) ⟨Nat.le_of_ble_eq_true rfl, Nat.le_of_ble_eq_true rfl⟩) (preV (q0 := 0) (ci := 13) rfl xT_bl hP hK hNb hD rfl rfl xT_at) rfl rfl hl.1 rfl (lv_room (Nat.le_of_ble_eq_true rfl)) dX13_readPacked_62 ⟨Nat.le_of_ble_eq_true rfl, Nat.le_of_ble_eq_true rfl⟩) hP hD hS hA (fun τ13 H locs hN hf hq hP hD hS => ?_)
          replace hw := hw τ13 hN hf hq
          have hF : f_r [9, 16, 17, 18, 19, 20, 21, 23, 25, 26, 27, 28, 29] [26, 27, 28, 29, 39] [] σ τ13 := f_t hF hf (by decide) (by decide) (by decide)
          have hB := hN
          exact xrv hx hb hr hlk hP hK hD hS ⟨_, hN, hF, rfl, hw⟩ (Nat.le_of_ble_eq_true rfl) (Nat.le_of_ble_eq_true rfl) dX13_readPacked_65
  ·
    intro u1 τ hw
    refine (hP68 _ _).mpr ?_
    intro r_u1 hN hF H locs ls hP hD hS hl
    have hB := hN
    refine lv_iload_n hx hb dX13_readPacked_68 rfl (lv_at hl 1 rfl) ?_
    refine lv_aload_n hx hb dX13_readPacked_69 rfl (lv_at hl 0 rfl) ?_
    refine gfX13_tokenSize hx hb hts hK hP hown (hts _ tw_2063) (x := τ.1 18) rfl dX13_readPacked_70 ?_
    refine bi_icmp_ge (tgt := 110) hx hb r_u1 (hB.1 18) dX13_readPacked_73 (by decide) (fun c19 => ?_) (fun c19 => ?_)
    ·
      replace hw := hw.1 c19
      exact (hP110 _).mp hw hN hF H locs ls hP hD hS (lv_sub hl [0] rfl)
    ·
      replace hw := hw.2 c19
      refine lv_aload_n hx hb dX13_readPacked_76 rfl (lv_at hl 0 rfl) ?_
      refine gfX13_fault hx hb hts hK hP hown (hts _ tw_2065) (x := τ.1 20) rfl dX13_readPacked_77 ?_
      refine bi_if_ne (tgt := 110) hx hb (hB.1 20) dX13_readPacked_80 (by decide) (fun c20 => ?_) (fun c20 => ?_)
      ·
        replace hw := hw.1 c20
        exact (hP110 _).mp hw hN hF H locs ls hP hD hS (lv_sub hl [0] rfl)
      ·
        replace hw := hw.2 c20
        refine lv_aload_n hx hb dX13_readPacked_83 rfl (lv_at hl 0 rfl) ?_
        refine lv_aload_n hx hb dX13_readPacked_84 rfl (lv_at hl 0 rfl) ?_
        refine gfX13_tape hx hb hts hK hP hown (hts _ tw_2006) dX13_readPacked_85 ?_
        refine lv_aload_n hx hb dX13_readPacked_88 rfl (lv_at hl 0 rfl) ?_
        refine gfX13_tokenAt hx hb hts hK hP hown (hts _ tw_2062) (x := τ.1 17) rfl dX13_readPacked_89 ?_
        refine lv_iload_n hx hb dX13_readPacked_92 rfl (lv_at hl 1 rfl) ?_
        refine bi_iadd hx hb dX13_readPacked_93 ?_
        obtain ⟨c21, hw⟩ := hw
        refine ldMX13_tape hx hb hK hP hN c21 dX13_readPacked_94 (fun x22 r_x22 e_x22 => ?_)
        replace hw := hw x22 r_x22 e_x22
        refine lv_aload_n hx hb dX13_readPacked_95 rfl (lv_at hl 0 rfl) ?_
        refine gfX13_tokenAt hx hb hts hK hP hown (hts _ tw_2062) (x := τ.1 17) rfl dX13_readPacked_96 ?_
        refine lv_iload_n hx hb dX13_readPacked_99 rfl (lv_at hl 1 rfl) ?_
        refine bi_iadd hx hb dX13_readPacked_100 ?_
        obtain ⟨Q23, hc, hw⟩ := hw
        refine wc_V (X := MX g q lb) (va_runV (As := [.int (I x22), .int (I (τ.1 17 + u1))]) (rest := []) ⟨hx, hb, hml, hown, hts⟩ (L_X13_readLetter l g q lb hlb r_x22 (rg_ix c21.1 c21.2 (by decide)) hN hc H.size) (cwV 2 hts (TB_V tw_2681 tw_2683 ts_135 tw_15 co_X13_readLetter) rfl rfl rfl (by decide +kernel) ⟨Nat.le_of_ble_eq_true rfl, Nat.le_of_ble_eq_true rfl⟩) (preV (q0 := 0) (ci := 13) rfl xT_bl hP hK hNb hD rfl rfl xT_at) rfl rfl hl.1 rfl (lv_room (Nat.le_of_ble_eq_true rfl)) dX13_readPacked_101 ⟨Nat.le_of_ble_eq_true rfl, Nat.le_of_ble_eq_true rfl⟩) hP hD hS hA (fun τ25 H locs hN hf hq hP hD hS => ?_)
        replace hw := hw τ25 hN hf hq
        have hF : f_r [9, 16, 17, 18, 19, 20, 21, 23, 25, 26, 27, 28, 29] [26, 27, 28, 29, 39] [] σ τ25 := f_t hF hf (by decide) (by decide) (by decide)
        have hB := hN
        refine lv_iinc (v := I (u1 + 1)) (lv' := [(1, .int (I (u1 + 1))), (0, .ref (q 0))]) hx hb dX13_readPacked_104 hl (k := 1) rfl (I_add _ _) (by decide) rfl (fun ls hl => ?_)
        refine lv_goto (tgt := 68) hx hb dX13_readPacked_107 (by decide) ?_
        obtain ⟨c26, hw⟩ := hw
        exact (hP68 _ _).mp hw c26 hN hF H locs ls hP hD hS (lv_sub hl [1, 0] rfl)
  ·
    intro τ hw
    refine (hP110 _).mpr ?_
    intro hN hF H locs ls hP hD hS hl
    have hB := hN
    refine lv_aload_n hx hb dX13_readPacked_110 rfl (lv_at hl 0 rfl) ?_
    refine gfX13_fault hx hb hts hK hP hown (hts _ tw_2065) (x := τ.1 20) rfl dX13_readPacked_111 ?_
    refine bi_if_ne (tgt := 36) hx hb (hB.1 20) dX13_readPacked_114 (by decide) (fun c27 => ?_) (fun c27 => ?_)
    ·
      replace hw := hw.1 c27
      exact (hP36 _).mp hw hN hF H locs ls hP hD hS (lv_sub hl [0] rfl)
    ·
      replace hw := hw.2 c27
      refine lv_aload_n hx hb dX13_readPacked_117 rfl (lv_at hl 0 rfl) ?_
      obtain ⟨Q28, hc, hw⟩ := hw
      refine wc_V (X := MX g q lb) (va_runV (As := []) (rest := []) ⟨hx, hb, hml, hown, hts⟩ (L_X13_next l g q lb hlb  hN hc H.size) (cwV 0 hts (TB_V tw_2536 tw_2538 ts_104 tw_15 co_X13_next) rfl rfl rfl (by decide +kernel) ⟨Nat.le_of_ble_eq_true rfl, Nat.le_of_ble_eq_true rfl⟩) (preV (q0 := 0) (ci := 13) rfl xT_bl hP hK hNb hD rfl rfl xT_at) rfl rfl hl.1 rfl (lv_room (Nat.le_of_ble_eq_true rfl)) dX13_readPacked_118 ⟨Nat.le_of_ble_eq_true rfl, Nat.le_of_ble_eq_true rfl⟩) hP hD hS hA (fun τ30 H locs hN hf hq hP hD hS => ?_)
      replace hw := hw τ30 hN hf hq
      have hF : f_r [9, 16, 17, 18, 19, 20, 21, 23, 25, 26, 27, 28, 29] [26, 27, 28, 29, 39] [] σ τ30 := f_t hF hf (by decide) (by decide) (by decide)
      have hB := hN
      refine lv_goto (tgt := 36) hx hb dX13_readPacked_121 (by decide) ?_
      exact (hP36 _).mp hw hN hF H locs ls hP hD hS (lv_sub hl [0] rfl)
  ·
    intro τ hw
    refine (hP124 _).mpr ?_
    intro hN hF H locs ls hP hD hS hl
    have hB := hN
    refine lv_aload_n hx hb dX13_readPacked_124 rfl (lv_at hl 0 rfl) ?_
    refine gfX13_fault hx hb hts hK hP hown (hts _ tw_2065) (x := τ.1 20) rfl dX13_readPacked_125 ?_
    refine bi_if_ne (tgt := 144) hx hb (hB.1 20) dX13_readPacked_128 (by decide) (fun c14 => ?_) (fun c14 => ?_)
    ·
      replace hw := hw.1 c14
      exact xrv hx hb hr hlk hP hK hD hS ⟨_, hN, hF, rfl, hw⟩ (Nat.le_of_ble_eq_true rfl) (Nat.le_of_ble_eq_true rfl) dX13_readPacked_144
    ·
      replace hw := hw.2 c14
      refine lv_aload_n hx hb dX13_readPacked_131 rfl (lv_at hl 0 rfl) ?_
      refine gfX13_inNumber hx hb hts hK hP hown (hts _ tw_2075) (x := τ.1 27) rfl dX13_readPacked_132 ?_
      refine bi_if_eq (tgt := 144) hx hb (hB.1 27) dX13_readPacked_135 (by decide) (fun c15 => ?_) (fun c15 => ?_)
      ·
        replace hw := hw.1 c15
        exact xrv hx hb hr hlk hP hK hD hS ⟨_, hN, hF, rfl, hw⟩ (Nat.le_of_ble_eq_true rfl) (Nat.le_of_ble_eq_true rfl) dX13_readPacked_144
      ·
        replace hw := hw.2 c15
        refine lv_aload_n hx hb dX13_readPacked_138 rfl (lv_at hl 0 rfl) ?_
        refine lv_bipush (v := I 14) hx hb dX13_readPacked_139 (by decide) ?_
        obtain ⟨Q16, hc, hw⟩ := hw
        refine wc_V (X := MX g q lb) (va_runV (As := [.int (I 14)]) (rest := []) ⟨hx, hb, hml, hown, hts⟩ (L_X13_failHere l g q lb hlb (by decide) hN hc H.size) (cwV 1 hts (TB_V tw_2585 tw_2587 ts_114 tw_15 co_X13_failHere) rfl rfl rfl (by decide +kernel) ⟨Nat.le_of_ble_eq_true rfl, Nat.le_of_ble_eq_true rfl⟩) (preV (q0 := 0) (ci := 13) rfl xT_bl hP hK hNb hD rfl rfl xT_at) rfl rfl hl.1 rfl (lv_room (Nat.le_of_ble_eq_true rfl)) dX13_readPacked_141 ⟨Nat.le_of_ble_eq_true rfl, Nat.le_of_ble_eq_true rfl⟩) hP hD hS hA (fun τ18 H locs hN hf hq hP hD hS => ?_)
        replace hw := hw τ18 hN hf hq
        have hF : f_r [9, 16, 17, 18, 19, 20, 21, 23, 25, 26, 27, 28, 29] [26, 27, 28, 29, 39] [] σ τ18 := f_t hF hf (by decide) (by decide) (by decide)
        have hB := hN
        exact xrv hx hb hr hlk hP hK hD hS ⟨_, hN, hF, rfl, hw⟩ (Nat.le_of_ble_eq_true rfl) (Nat.le_of_ble_eq_true rfl) dX13_readPacked_144
def W_X13_beginSteps (σ : S0) (Q : S0 → Prop) : Prop :=
  Q (s_v (s_v (s_v (s_v (s_v σ 30 0) 31 0) 32 0) 33 0) 35 0)
set_option maxRecDepth 100000 in
set_option maxHeartbeats 4000000 in
theorem L_X13_beginSteps (l : Launch) (g : gG) (q : Nat → Nat) (lb : Nat) (hlb : lb < 2 ^ 31) {σ : S0} {Q : S0 → Prop} (hN : n_m σ) (hw : W_X13_beginSteps σ Q) (sz : Nat) : MetV l yX13_beginSteps cX13_beginSteps 1 { frames := 0, cells := 0, slots := 0, locals := 0 } g [.ref (q 0)] (MX g q lb σ) sz xT (p_V (MX g q lb) [30, 31, 32, 33, 35] [] [] σ Q) 0 0 := by
  refine mkMet (Qc := fun A => QV g A (p_V (MX g q lb) [30, 31, 32, 33, 35] [] [] σ Q)) (by decide) (Nat.le_of_ble_eq_true rfl) ?_
  intro p e s m below meth c A H ls hx hb hr hml hown hts hlk hnm hsz hP hK hNb hD hA hAe hS hX hl
  have hl : lv_has ls 1 [(0, .ref (q 0))] := hl
  have hB := hN
  have hF : f_r [30, 31, 32, 33, 35] [] [] σ σ := f_0
  obtain ⟨locs, hlocs⟩ : ∃ z : List Loc, z = [] := ⟨_, rfl⟩
  rw [← hlocs] at hS ⊢
  refine lv_aload_n hx hb dX13_beginSteps_0 rfl (lv_at hl 0 rfl) ?_
  refine lv_iconst (v := I 0) hx hb dX13_beginSteps_1 rfl ?_
  refine pfX13_piled hx hb hts hK hP hD hS hown (hts _ tw_2081) dX13_beginSteps_2 (fun H locs hP hD hS => ?_)
  have hN : n_m (s_v σ 30 0) := n_v (i := 30) hN ((by decide) : rg 0)
  have hF : f_r [30, 31, 32, 33, 35] [] [] σ (s_v σ 30 0) := f_v hF (by decide)
  refine lv_aload_n hx hb dX13_beginSteps_5 rfl (lv_at hl 0 rfl) ?_
  refine lv_iconst (v := I 0) hx hb dX13_beginSteps_6 rfl ?_
  refine pfX13_pileTop hx hb hts hK hP hD hS hown (hts _ tw_2083) dX13_beginSteps_7 (fun H locs hP hD hS => ?_)
  have hN : n_m (s_v (s_v σ 30 0) 31 0) := n_v (i := 31) hN ((by decide) : rg 0)
  have hF : f_r [30, 31, 32, 33, 35] [] [] σ (s_v (s_v σ 30 0) 31 0) := f_v hF (by decide)
  refine lv_aload_n hx hb dX13_beginSteps_10 rfl (lv_at hl 0 rfl) ?_
  refine lv_iconst (v := I 0) hx hb dX13_beginSteps_11 rfl ?_
  refine pfX13_savedRows hx hb hts hK hP hD hS hown (hts _ tw_2087) dX13_beginSteps_12 (fun H locs hP hD hS => ?_)
  have hN : n_m (s_v (s_v (s_v σ 30 0) 31 0) 32 0) := n_v (i := 32) hN ((by decide) : rg 0)
  have hF : f_r [30, 31, 32, 33, 35] [] [] σ (s_v (s_v (s_v σ 30 0) 31 0) 32 0) := f_v hF (by decide)
  refine lv_aload_n hx hb dX13_beginSteps_15 rfl (lv_at hl 0 rfl) ?_
  refine lv_iconst (v := I 0) hx hb dX13_beginSteps_16 rfl ?_
  refine pfX13_savedTop hx hb hts hK hP hD hS hown (hts _ tw_2089) dX13_beginSteps_17 (fun H locs hP hD hS => ?_)
  have hN : n_m (s_v (s_v (s_v (s_v σ 30 0) 31 0) 32 0) 33 0) := n_v (i := 33) hN ((by decide) : rg 0)
  have hF : f_r [30, 31, 32, 33, 35] [] [] σ (s_v (s_v (s_v (s_v σ 30 0) 31 0) 32 0) 33 0) := f_v hF (by decide)
  refine lv_aload_n hx hb dX13_beginSteps_20 rfl (lv_at hl 0 rfl) ?_
  refine lv_iconst (v := I 0) hx hb dX13_beginSteps_21 rfl ?_
  refine pfX13_stepFault hx hb hts hK hP hD hS hown (hts _ tw_2094) dX13_beginSteps_22 (fun H locs hP hD hS => ?_)
  have hN : n_m (s_v (s_v (s_v (s_v (s_v σ 30 0) 31 0) 32 0) 33 0) 35 0) := n_v (i := 35) hN ((by decide) : rg 0)
  have hF : f_r [30, 31, 32, 33, 35] [] [] σ (s_v (s_v (s_v (s_v (s_v σ 30 0) 31 0) 32 0) 33 0) 35 0) := f_v hF (by decide)
  exact xrv hx hb hr hlk hP hK hD hS ⟨_, hN, hF, rfl, hw⟩ (Nat.le_of_ble_eq_true rfl) (Nat.le_of_ble_eq_true rfl) dX13_beginSteps_25
def W_X13_wrong (n1 : Int) (σ : S0) (Q : S0 → Prop) : Prop :=
  ∀ (P16 : Int → S0 → Prop),
  (∀ (k1 : Int) (τ : S0), (Q (s_v τ 35 k1)) → P16 k1 τ) →
  (¬ σ.1 35 = 0 → P16 (σ.1 35) σ) ∧ (σ.1 35 = 0 → P16 n1 σ)
set_option maxRecDepth 100000 in
set_option maxHeartbeats 4000000 in
theorem L_X13_wrong (l : Launch) (g : gG) (q : Nat → Nat) (lb : Nat) (hlb : lb < 2 ^ 31) {n1 : Int} {σ : S0} {Q : S0 → Prop} (r_n1 : rg n1) (hN : n_m σ) (hw : W_X13_wrong n1 σ Q) (sz : Nat) : MetV l yX13_wrong cX13_wrong 2 { frames := 0, cells := 0, slots := 0, locals := 0 } g [.ref (q 0), .int (I n1)] (MX g q lb σ) sz xT (p_V (MX g q lb) [35] [] [] σ Q) 0 0 := by
  refine mkMet (Qc := fun A => QV g A (p_V (MX g q lb) [35] [] [] σ Q)) (by decide) (Nat.le_of_ble_eq_true rfl) ?_
  intro p e s m below meth c A H ls hx hb hr hml hown hts hlk hnm hsz hP hK hNb hD hA hAe hS hX hl
  have hl : lv_has ls 2 [(0, .ref (q 0)), (1, .int (I n1))] := hl
  have hB := hN
  have hF : f_r [35] [] [] σ σ := f_0
  obtain ⟨locs, hlocs⟩ : ∃ z : List Loc, z = [] := ⟨_, rfl⟩
  rw [← hlocs] at hS ⊢
  obtain ⟨P16, hP16⟩ : ∃ P : Int → S0 → Prop, ∀ (k1 : Int) (τ : S0), (P k1 τ ↔ (rg k1 → n_m τ → f_r [35] [] [] σ τ → ∀ (H : Heap) (locs : List Loc) (ls : Array Slot), KP g (MX g q lb τ) H → va_D A (MX g q lb τ) → va_S A s.heap H locs → lv_has ls 2 [] → W p l e ({ frames := 0, cells := 0, slots := 0, locals := 0 }) s m [.ref (q 0), .int (I n1)].toArray below meth c H locs 0 0 (MQ below (QV g A (p_V (MX g q lb) [35] [] [] σ Q)) [.ref (q 0), .int (I n1)].toArray s 0 0 A) (F0 m 16 ls [.int (I k1), .ref (q 0)]))) := ⟨_, fun _ _ => Iff.rfl⟩
  refine (fun hw => ?_) (hw P16 ?_)
  ·
    refine lv_aload_n hx hb dX13_wrong_0 rfl (lv_at hl 0 rfl) ?_
    refine lv_aload_n hx hb dX13_wrong_1 rfl (lv_at hl 0 rfl) ?_
    refine gfX13_stepFault hx hb hts hK hP hown (hts _ tw_2094) (x := σ.1 35) rfl dX13_wrong_2 ?_
    refine bi_if_ne (tgt := 12) hx hb (hB.1 35) dX13_wrong_5 (by decide) (fun c1 => ?_) (fun c1 => ?_)
    ·
      replace hw := hw.1 c1
      refine lv_aload_n hx hb dX13_wrong_12 rfl (lv_at hl 0 rfl) ?_
      refine gfX13_stepFault hx hb hts hK hP hown (hts _ tw_2094) (x := σ.1 35) rfl dX13_wrong_13 ?_
      exact (hP16 _ _).mp hw (hB.1 35) hN hF H locs ls hP hD hS (lv_sub hl [] rfl)
    ·
      replace hw := hw.2 c1
      refine lv_iload_n hx hb dX13_wrong_8 rfl (lv_at hl 1 rfl) ?_
      refine lv_goto (tgt := 16) hx hb dX13_wrong_9 (by decide) ?_
      exact (hP16 _ _).mp hw r_n1 hN hF H locs ls hP hD hS (lv_sub hl [] rfl)
  ·
    intro k1 τ hw
    refine (hP16 _ _).mpr ?_
    intro r_k1 hN hF H locs ls hP hD hS hl
    have hB := hN
    refine pfX13_stepFault hx hb hts hK hP hD hS hown (hts _ tw_2094) dX13_wrong_16 (fun H locs hP hD hS => ?_)
    have hN : n_m (s_v τ 35 k1) := n_v (i := 35) hN (r_k1 : rg k1)
    have hF : f_r [35] [] [] σ (s_v τ 35 k1) := f_v hF (by decide)
    exact xrv hx hb hr hlk hP hK hD hS ⟨_, hN, hF, rfl, hw⟩ (Nat.le_of_ble_eq_true rfl) (Nat.le_of_ble_eq_true rfl) dX13_wrong_19
def W_X13_replace (n1 : Int) (σ : S0) (Q : S0 → Prop) : Prop :=
  ∀ (P12 : Int → Int → S0 → Prop) (P60 : Int → Int → Int → Int → Int → S0 → Prop) (P112 : Int → Int → Int → Int → Int → Int → Int → S0 → Prop),
  (∀ (u1 : Int) (u2 : Int) (τ : S0), ((0 ≤ u1 ∧ u1 < 1501) ∧ (∀ (x4 : Int), rg x4 → x4 = τ.2.1 14 u1 → (∀ (x5 : Int), rg x5 → x5 = τ.2.1 15 u1 → (rg (x4 + x5) ∧ ((x4 + x5) ≤ u2 → Q τ) ∧ (u2 < (x4 + x5) → (0 ≤ u2 ∧ u2 < 30400) ∧ (∀ (x9 : Int), rg x9 → x9 = τ.2.1 16 u2 → ((0 ≤ x9 ∧ x9 < 1001) ∧ (∀ (x11 : Int), rg x11 → x11 = τ.2.1 8 x9 → ((x11 = 0 → P60 u1 u2 x9 1 0 τ) ∧ (¬ x11 = 0 → ∀ (x13 : Int), rg x13 → x13 = τ.2.1 49 x9 → (P60 u1 u2 x9 x13 0 τ))))))))))) → P12 u1 u2 τ) →
  (∀ (u1 : Int) (u2 : Int) (u3 : Int) (u4 : Int) (u5 : Int) (τ : S0), ((u4 ≤ u5 → rg (u2 + 1) ∧ P12 u1 (u2 + 1) τ) ∧ (u5 < u4 → (1001 ≤ τ.1 34 → rg (u2 + 1) ∧ P12 u1 (u2 + 1) τ) ∧ (τ.1 34 < 1001 → (0 ≤ u3 ∧ u3 < 1001) ∧ (∀ (x19 : Int), rg x19 → x19 = τ.2.1 8 u3 → ((x19 = 0 → P112 u1 u2 u3 u4 u5 (τ.1 34) u3 τ) ∧ (¬ x19 = 0 → ∀ (x21 : Int), rg x21 → x21 = τ.2.1 48 u3 → ((0 ≤ (x21 + u5) ∧ (x21 + u5) < 42000) ∧ (∀ (x23 : Int), rg x23 → x23 = τ.2.1 43 (x21 + u5) → (P112 u1 u2 u3 u4 u5 (τ.1 34) x23 τ))))))))) → P60 u1 u2 u3 u4 u5 τ) →
  (∀ (u1 : Int) (u2 : Int) (u3 : Int) (u4 : Int) (u5 : Int) (k1 : Int) (k2 : Int) (τ : S0), ((0 ≤ k1 ∧ k1 < 1002) ∧ (rg (τ.1 34 + 1) ∧ rg (u5 + 1) ∧ P60 u1 u2 u3 u4 (u5 + 1) (s_v (s_a τ 50 k1 k2) 34 (τ.1 34 + 1)))) → P112 u1 u2 u3 u4 u5 k1 k2 τ) →
  (0 ≤ n1 ∧ n1 < 1501) ∧ (∀ (x2 : Int), rg x2 → x2 = σ.2.1 14 n1 → (P12 n1 x2 (s_v σ 34 0)))
set_option maxRecDepth 100000 in
set_option maxHeartbeats 4000000 in
theorem L_X13_replace (l : Launch) (g : gG) (q : Nat → Nat) (lb : Nat) (hlb : lb < 2 ^ 31) {n1 : Int} {σ : S0} {Q : S0 → Prop} (r_n1 : rg n1) (hN : n_m σ) (hw : W_X13_replace n1 σ Q) (sz : Nat) : MetV l yX13_replace cX13_replace 6 { frames := 0, cells := 0, slots := 0, locals := 0 } g [.ref (q 0), .int (I n1)] (MX g q lb σ) sz xT (p_V (MX g q lb) [34] [50] [] σ Q) 0 0 := by
  refine mkMet (Qc := fun A => QV g A (p_V (MX g q lb) [34] [50] [] σ Q)) (by decide) (Nat.le_of_ble_eq_true rfl) ?_
  intro p e s m below meth c A H ls hx hb hr hml hown hts hlk hnm hsz hP hK hNb hD hA hAe hS hX hl
  have hl : lv_has ls 6 [(0, .ref (q 0)), (1, .int (I n1))] := hl
  have hB := hN
  have hF : f_r [34] [50] [] σ σ := f_0
  obtain ⟨locs, hlocs⟩ : ∃ z : List Loc, z = [] := ⟨_, rfl⟩
  rw [← hlocs] at hS ⊢
  obtain ⟨P12, hP12⟩ : ∃ P : Int → Int → S0 → Prop, ∀ (u1 : Int) (u2 : Int) (τ : S0), (P u1 u2 τ ↔ (rg u1 → rg u2 → n_m τ → f_r [34] [50] [] σ τ → ∀ (H : Heap) (locs : List Loc) (ls : Array Slot), KP g (MX g q lb τ) H → va_D A (MX g q lb τ) → va_S A s.heap H locs → lv_has ls 6 [(0, .ref (q 0)), (1, .int (I u1)), (2, .int (I u2))] → W p l e ({ frames := 0, cells := 0, slots := 0, locals := 0 }) s m [.ref (q 0), .int (I n1)].toArray below meth c H locs 0 0 (MQ below (QV g A (p_V (MX g q lb) [34] [50] [] σ Q)) [.ref (q 0), .int (I n1)].toArray s 0 0 A) (F0 m 12 ls []))) := ⟨_, fun _ _ _ => Iff.rfl⟩
  obtain ⟨P60, hP60⟩ : ∃ P : Int → Int → Int → Int → Int → S0 → Prop, ∀ (u1 : Int) (u2 : Int) (u3 : Int) (u4 : Int) (u5 : Int) (τ : S0), (P u1 u2 u3 u4 u5 τ ↔ (rg u1 → rg u2 → rg u3 → rg u4 → rg u5 → n_m τ → f_r [34] [50] [] σ τ → ∀ (H : Heap) (locs : List Loc) (ls : Array Slot), KP g (MX g q lb τ) H → va_D A (MX g q lb τ) → va_S A s.heap H locs → lv_has ls 6 [(0, .ref (q 0)), (1, .int (I u1)), (2, .int (I u2)), (3, .int (I u3)), (4, .int (I u4)), (5, .int (I u5))] → W p l e ({ frames := 0, cells := 0, slots := 0, locals := 0 }) s m [.ref (q 0), .int (I n1)].toArray below meth c H locs 0 0 (MQ below (QV g A (p_V (MX g q lb) [34] [50] [] σ Q)) [.ref (q 0), .int (I n1)].toArray s 0 0 A) (F0 m 60 ls []))) := ⟨_, fun _ _ _ _ _ _ => Iff.rfl⟩
  obtain ⟨P112, hP112⟩ : ∃ P : Int → Int → Int → Int → Int → Int → Int → S0 → Prop, ∀ (u1 : Int) (u2 : Int) (u3 : Int) (u4 : Int) (u5 : Int) (k1 : Int) (k2 : Int) (τ : S0), (P u1 u2 u3 u4 u5 k1 k2 τ ↔ (rg u1 → rg u2 → rg u3 → rg u4 → rg u5 → rg k1 → rg k2 → n_m τ → f_r [34] [50] [] σ τ → ∀ (H : Heap) (locs : List Loc) (ls : Array Slot), KP g (MX g q lb τ) H → va_D A (MX g q lb τ) → va_S A s.heap H locs → lv_has ls 6 [(0, .ref (q 0)), (1, .int (I u1)), (2, .int (I u2)), (3, .int (I u3)), (4, .int (I u4)), (5, .int (I u5))] → W p l e ({ frames := 0, cells := 0, slots := 0, locals := 0 }) s m [.ref (q 0), .int (I n1)].toArray below meth c H locs 0 0 (MQ below (QV g A (p_V (MX g q lb) [34] [50] [] σ Q)) [.ref (q 0), .int (I n1)].toArray s 0 0 A) (F0 m 112 ls [.int (I k2), .int (I k1), .ref (q 53)]))) := ⟨_, fun _ _ _ _ _ _ _ _ => Iff.rfl⟩
  refine (fun hw => ?_) (hw P12 P60 P112 ?_ ?_ ?_)
  ·
    refine lv_aload_n hx hb dX13_replace_0 rfl (lv_at hl 0 rfl) ?_
    refine lv_iconst (v := I 0) hx hb dX13_replace_1 rfl ?_
    refine pfX13_made hx hb hts hK hP hD hS hown (hts _ tw_2093) dX13_replace_2 (fun H locs hP hD hS => ?_)
    have hN : n_m (s_v σ 34 0) := n_v (i := 34) hN ((by decide) : rg 0)
    have hF : f_r [34] [50] [] σ (s_v σ 34 0) := f_v hF (by decide)
    refine lv_aload_n hx hb dX13_replace_5 rfl (lv_at hl 0 rfl) ?_
    refine gfX13_textAt hx hb hts hK hP hown (hts _ tw_2026) dX13_replace_6 ?_
    refine lv_iload_n hx hb dX13_replace_9 rfl (lv_at hl 1 rfl) ?_
    obtain ⟨c1, hw⟩ := hw
    refine ldMX13_textAt hx hb hK hP hN c1 dX13_replace_10 (fun x2 r_x2 e_x2 => ?_)
    replace hw := hw x2 r_x2 e_x2
    refine lv_istore_n (lv' := [(2, .int (I x2)), (0, .ref (q 0)), (1, .int (I n1))]) hx hb dX13_replace_11 rfl hl (by decide) rfl (fun ls hl => ?_)
    exact (hP12 _ _ _).mp hw r_n1 r_x2 hN hF H locs ls hP hD hS (lv_sub hl [1, 2, 0] rfl)
  ·
    intro u1 u2 τ hw
    refine (hP12 _ _ _).mpr ?_
    intro r_u1 r_u2 hN hF H locs ls hP hD hS hl
    have hB := hN
    refine lv_iload_n hx hb dX13_replace_12 rfl (lv_at hl 2 rfl) ?_
    refine lv_aload_n hx hb dX13_replace_13 rfl (lv_at hl 0 rfl) ?_
    refine gfX13_textAt hx hb hts hK hP hown (hts _ tw_2026) dX13_replace_14 ?_
    refine lv_iload_n hx hb dX13_replace_17 rfl (lv_at hl 1 rfl) ?_
    obtain ⟨c3, hw⟩ := hw
    refine ldMX13_textAt hx hb hK hP hN c3 dX13_replace_18 (fun x4 r_x4 e_x4 => ?_)
    replace hw := hw x4 r_x4 e_x4
    refine lv_aload_n hx hb dX13_replace_19 rfl (lv_at hl 0 rfl) ?_
    refine gfX13_textSize hx hb hts hK hP hown (hts _ tw_2027) dX13_replace_20 ?_
    refine lv_iload_n hx hb dX13_replace_23 rfl (lv_at hl 1 rfl) ?_
    refine ldMX13_textSize hx hb hK hP hN c3 dX13_replace_24 (fun x5 r_x5 e_x5 => ?_)
    replace hw := hw x5 r_x5 e_x5
    refine bi_iadd hx hb dX13_replace_25 ?_
    obtain ⟨c6, hw⟩ := hw
    refine bi_icmp_ge (tgt := 135) hx hb r_u2 c6 dX13_replace_26 (by decide) (fun c7 => ?_) (fun c7 => ?_)
    ·
      replace hw := hw.1 c7
      exact xrv hx hb hr hlk hP hK hD hS ⟨_, hN, hF, rfl, hw⟩ (Nat.le_of_ble_eq_true rfl) (Nat.le_of_ble_eq_true rfl) dX13_replace_135
    ·
      replace hw := hw.2 c7
      refine lv_aload_n hx hb dX13_replace_29 rfl (lv_at hl 0 rfl) ?_
      refine gfX13_texts hx hb hts hK hP hown (hts _ tw_2028) dX13_replace_30 ?_
      refine lv_iload_n hx hb dX13_replace_33 rfl (lv_at hl 2 rfl) ?_
      obtain ⟨c8, hw⟩ := hw
      refine ldMX13_texts hx hb hK hP hN c8 dX13_replace_34 (fun x9 r_x9 e_x9 => ?_)
      replace hw := hw x9 r_x9 e_x9
      refine lv_istore_n (lv' := [(3, .int (I x9)), (0, .ref (q 0)), (1, .int (I u1)), (2, .int (I u2))]) hx hb dX13_replace_35 rfl hl (by decide) rfl (fun ls hl => ?_)
      refine lv_aload_n hx hb dX13_replace_36 rfl (lv_at hl 1 rfl) ?_
      refine gfX13_isVariable hx hb hts hK hP hown (hts _ tw_2018) dX13_replace_37 ?_
      refine lv_iload_n hx hb dX13_replace_40 rfl (lv_at hl 0 rfl) ?_
      obtain ⟨c10, hw⟩ := hw
      refine ldMX13_isVariable hx hb hK hP hN c10 dX13_replace_41 (fun x11 r_x11 e_x11 => ?_)
      replace hw := hw x11 r_x11 e_x11
      refine bi_if_eq (tgt := 54) hx hb r_x11 dX13_replace_42 (by decide) (fun c12 => ?_) (fun c12 => ?_)
      ·
        replace hw := hw.1 c12
        refine lv_iconst (v := I 1) hx hb dX13_replace_54 rfl ?_
        refine lv_istore (lv' := [(4, .int (I 1)), (3, .int (I x9)), (0, .ref (q 0)), (1, .int (I u1)), (2, .int (I u2))]) hx hb dX13_replace_55 hl (by decide) rfl (fun ls hl => ?_)
        refine lv_iconst (v := I 0) hx hb dX13_replace_57 rfl ?_
        refine lv_istore (lv' := [(5, .int (I 0)), (4, .int (I 1)), (3, .int (I x9)), (0, .ref (q 0)), (1, .int (I u1)), (2, .int (I u2))]) hx hb dX13_replace_58 hl (by decide) rfl (fun ls hl => ?_)
        exact (hP60 _ _ _ _ _ _).mp hw r_u1 r_u2 r_x9 (by decide) (by decide) hN hF H locs ls hP hD hS (lv_sub hl [3, 4, 5, 2, 1, 0] rfl)
      ·
        replace hw := hw.2 c12
        refine lv_aload_n hx hb dX13_replace_45 rfl (lv_at hl 1 rfl) ?_
        refine gfX13_becomesSize hx hb hts hK hP hown (hts _ tw_2091) dX13_replace_46 ?_
        refine lv_iload_n hx hb dX13_replace_49 rfl (lv_at hl 0 rfl) ?_
        refine ldMX13_becomesSize hx hb hK hP hN c10 dX13_replace_50 (fun x13 r_x13 e_x13 => ?_)
        replace hw := hw x13 r_x13 e_x13
        refine lv_goto (tgt := 55) hx hb dX13_replace_51 (by decide) ?_
        refine lv_istore (lv' := [(4, .int (I x13)), (3, .int (I x9)), (0, .ref (q 0)), (1, .int (I u1)), (2, .int (I u2))]) hx hb dX13_replace_55 hl (by decide) rfl (fun ls hl => ?_)
        refine lv_iconst (v := I 0) hx hb dX13_replace_57 rfl ?_
        refine lv_istore (lv' := [(5, .int (I 0)), (4, .int (I x13)), (3, .int (I x9)), (0, .ref (q 0)), (1, .int (I u1)), (2, .int (I u2))]) hx hb dX13_replace_58 hl (by decide) rfl (fun ls hl => ?_)
        exact (hP60 _ _ _ _ _ _).mp hw r_u1 r_u2 r_x9 r_x13 (by decide) hN hF H locs ls hP hD hS (lv_sub hl [3, 4, 5, 2, 1, 0] rfl)
  ·
    intro u1 u2 u3 u4 u5 τ hw
    refine (hP60 _ _ _ _ _ _).mpr ?_
    intro r_u1 r_u2 r_u3 r_u4 r_u5 hN hF H locs ls hP hD hS hl
    have hB := hN
    refine lv_iload hx hb dX13_replace_60 (lv_at hl 5 rfl) ?_
    refine lv_iload hx hb dX13_replace_62 (lv_at hl 4 rfl) ?_
    refine bi_icmp_ge (tgt := 129) hx hb r_u5 r_u4 dX13_replace_64 (by decide) (fun c14 => ?_) (fun c14 => ?_)
    ·
      replace hw := hw.1 c14
      refine lv_iinc (v := I (u2 + 1)) (lv' := [(2, .int (I (u2 + 1))), (0, .ref (q 0)), (1, .int (I u1)), (3, .int (I u3)), (4, .int (I u4)), (5, .int (I u5))]) hx hb dX13_replace_129 hl (k := 2) rfl (I_add _ _) (by decide) rfl (fun ls hl => ?_)
      refine lv_goto (tgt := 12) hx hb dX13_replace_132 (by decide) ?_
      obtain ⟨c15, hw⟩ := hw
      exact (hP12 _ _ _).mp hw r_u1 c15 hN hF H locs ls hP hD hS (lv_sub hl [1, 2, 0] rfl)
    ·
      replace hw := hw.2 c14
      refine lv_aload_n hx hb dX13_replace_67 rfl (lv_at hl 0 rfl) ?_
      refine gfX13_made hx hb hts hK hP hown (hts _ tw_2093) (x := τ.1 34) rfl dX13_replace_68 ?_
      refine lv_sipush (v := I 1001) hx hb dX13_replace_71 (by decide) ?_
      refine bi_icmp_ge (tgt := 129) hx hb (hB.1 34) (by decide) dX13_replace_74 (by decide) (fun c16 => ?_) (fun c16 => ?_)
      ·
        replace hw := hw.1 c16
        refine lv_iinc (v := I (u2 + 1)) (lv' := [(2, .int (I (u2 + 1))), (0, .ref (q 0)), (1, .int (I u1)), (3, .int (I u3)), (4, .int (I u4)), (5, .int (I u5))]) hx hb dX13_replace_129 hl (k := 2) rfl (I_add _ _) (by decide) rfl (fun ls hl => ?_)
        refine lv_goto (tgt := 12) hx hb dX13_replace_132 (by decide) ?_
        obtain ⟨c17, hw⟩ := hw
        exact (hP12 _ _ _).mp hw r_u1 c17 hN hF H locs ls hP hD hS (lv_sub hl [1, 2, 0] rfl)
      ·
        replace hw := hw.2 c16
        refine lv_aload_n hx hb dX13_replace_77 rfl (lv_at hl 0 rfl) ?_
        refine gfX13_madeRow hx hb hts hK hP hown (hts _ tw_2092) dX13_replace_78 ?_
        refine lv_aload_n hx hb dX13_replace_81 rfl (lv_at hl 0 rfl) ?_
        refine gfX13_made hx hb hts hK hP hown (hts _ tw_2093) (x := τ.1 34) rfl dX13_replace_82 ?_
        refine lv_aload_n hx hb dX13_replace_85 rfl (lv_at hl 0 rfl) ?_
        refine gfX13_isVariable hx hb hts hK hP hown (hts _ tw_2018) dX13_replace_86 ?_
        refine lv_iload_n hx hb dX13_replace_89 rfl (lv_at hl 3 rfl) ?_
        obtain ⟨c18, hw⟩ := hw
        refine ldMX13_isVariable hx hb hK hP hN c18 dX13_replace_90 (fun x19 r_x19 e_x19 => ?_)
        replace hw := hw x19 r_x19 e_x19
        refine bi_if_eq (tgt := 111) hx hb r_x19 dX13_replace_91 (by decide) (fun c20 => ?_) (fun c20 => ?_)
        ·
          replace hw := hw.1 c20
          refine lv_iload_n hx hb dX13_replace_111 rfl (lv_at hl 3 rfl) ?_
          exact (hP112 _ _ _ _ _ _ _ _).mp hw r_u1 r_u2 r_u3 r_u4 r_u5 (hB.1 34) r_u3 hN hF H locs ls hP hD hS (lv_sub hl [0, 1, 2, 3, 4, 5] rfl)
        ·
          replace hw := hw.2 c20
          refine lv_aload_n hx hb dX13_replace_94 rfl (lv_at hl 0 rfl) ?_
          refine gfX13_pileSymbols hx hb hts hK hP hown (hts _ tw_2082) dX13_replace_95 ?_
          refine lv_aload_n hx hb dX13_replace_98 rfl (lv_at hl 0 rfl) ?_
          refine gfX13_becomesAt hx hb hts hK hP hown (hts _ tw_2090) dX13_replace_99 ?_
          refine lv_iload_n hx hb dX13_replace_102 rfl (lv_at hl 3 rfl) ?_
          refine ldMX13_becomesAt hx hb hK hP hN c18 dX13_replace_103 (fun x21 r_x21 e_x21 => ?_)
          replace hw := hw x21 r_x21 e_x21
          refine lv_iload hx hb dX13_replace_104 (lv_at hl 5 rfl) ?_
          refine bi_iadd hx hb dX13_replace_106 ?_
          obtain ⟨c22, hw⟩ := hw
          refine ldMX13_pileSymbols hx hb hK hP hN c22 dX13_replace_107 (fun x23 r_x23 e_x23 => ?_)
          replace hw := hw x23 r_x23 e_x23
          refine lv_goto (tgt := 112) hx hb dX13_replace_108 (by decide) ?_
          exact (hP112 _ _ _ _ _ _ _ _).mp hw r_u1 r_u2 r_u3 r_u4 r_u5 (hB.1 34) r_x23 hN hF H locs ls hP hD hS (lv_sub hl [0, 1, 2, 3, 4, 5] rfl)
  ·
    intro u1 u2 u3 u4 u5 k1 k2 τ hw
    refine (hP112 _ _ _ _ _ _ _ _).mpr ?_
    intro r_u1 r_u2 r_u3 r_u4 r_u5 r_k1 r_k2 hN hF H locs ls hP hD hS hl
    have hB := hN
    obtain ⟨c24, hw⟩ := hw
    refine sdMX13_madeRow hx hb hK hP hD hS c24 dX13_replace_112 (fun H locs hP hD hS => ?_)
    have hN : n_m (s_a τ 50 k1 k2) := n_a (k := 50) (j := k1) hN (r_k2 : rg k2)
    have hF : f_r [34] [50] [] σ (s_a τ 50 k1 k2) := f_a hF (by decide)
    refine lv_aload_n hx hb dX13_replace_113 rfl (lv_at hl 0 rfl) ?_
    refine lv_dup hx hb dX13_replace_114 rfl ?_
    refine gfX13_made hx hb hts hK hP hown (hts _ tw_2093) (x := τ.1 34) rfl dX13_replace_115 ?_
    refine lv_iconst (v := I 1) hx hb dX13_replace_118 rfl ?_
    refine bi_iadd hx hb dX13_replace_119 ?_
    obtain ⟨c25, hw⟩ := hw
    refine pfX13_made hx hb hts hK hP hD hS hown (hts _ tw_2093) dX13_replace_120 (fun H locs hP hD hS => ?_)
    have hN : n_m (s_v (s_a τ 50 k1 k2) 34 (τ.1 34 + 1)) := n_v (i := 34) hN (c25 : rg (τ.1 34 + 1))
    have hF : f_r [34] [50] [] σ (s_v (s_a τ 50 k1 k2) 34 (τ.1 34 + 1)) := f_v hF (by decide)
    refine lv_iinc (v := I (u5 + 1)) (lv' := [(5, .int (I (u5 + 1))), (0, .ref (q 0)), (1, .int (I u1)), (2, .int (I u2)), (3, .int (I u3)), (4, .int (I u4))]) hx hb dX13_replace_123 hl (k := 5) rfl (I_add _ _) (by decide) rfl (fun ls hl => ?_)
    refine lv_goto (tgt := 60) hx hb dX13_replace_126 (by decide) ?_
    obtain ⟨c26, hw⟩ := hw
    exact (hP60 _ _ _ _ _ _).mp hw r_u1 r_u2 r_u3 r_u4 c26 hN hF H locs ls hP hD hS (lv_sub hl [1, 2, 3, 4, 5, 0] rfl)
def W_X13_isMade (n1 : Int) (n2 : Int) (σ : S0) (Q : Int → Prop) : Prop :=
  ∀ (P12 : Int → Int → Int → Prop),
  (∀ (u1 : Int) (u2 : Int) (u3 : Int), ((u2 ≤ u3 → Q 1) ∧ (u3 < u2 → (0 ≤ u3 ∧ u3 < 1002) ∧ (∀ (x4 : Int), rg x4 → x4 = σ.2.1 50 u3 → ((0 ≤ (u1 + u3) ∧ (u1 + u3) < 42000) ∧ (∀ (x6 : Int), rg x6 → x6 = σ.2.1 43 (u1 + u3) → ((x4 = x6 → rg (u3 + 1) ∧ P12 u1 u2 (u3 + 1)) ∧ (¬ x4 = x6 → Q 0))))))) → P12 u1 u2 u3) →
  (n2 = σ.1 34 → P12 n1 n2 0) ∧ (¬ n2 = σ.1 34 → Q 0)
set_option maxRecDepth 100000 in
set_option maxHeartbeats 4000000 in
theorem L_X13_isMade (l : Launch) (g : gG) (q : Nat → Nat) (lb : Nat) (hlb : lb < 2 ^ 31) {n1 : Int} {n2 : Int} {σ : S0} {Q : Int → Prop} (r_n1 : rg n1) (r_n2 : rg n2) (hN : n_m σ) (hw : W_X13_isMade n1 n2 σ Q) (sz : Nat) : MetI l yX13_isMade cX13_isMade 4 (some .boolean) { frames := 0, cells := 0, slots := 0, locals := 0 } g [.ref (q 0), .int (I n1), .int (I n2)] (MX g q lb σ) sz xT (p_i (MX g q lb) σ Q) 0 0 := by
  refine mkMet (Qc := fun A => QI g A (p_i (MX g q lb) σ Q)) (by decide) (Nat.le_of_ble_eq_true rfl) ?_
  intro p e s m below meth c A H ls hx hb hr hml hown hts hlk hnm hsz hP hK hNb hD hA hAe hS hX hl
  have hl : lv_has ls 4 [(0, .ref (q 0)), (1, .int (I n1)), (2, .int (I n2))] := hl
  have hB := hN
  obtain ⟨locs, hlocs⟩ : ∃ z : List Loc, z = [] := ⟨_, rfl⟩
  rw [← hlocs] at hS ⊢
  obtain ⟨P12, hP12⟩ : ∃ P : Int → Int → Int → Prop, ∀ (u1 : Int) (u2 : Int) (u3 : Int), (P u1 u2 u3 ↔ (rg u1 → rg u2 → rg u3 → ∀ (H : Heap) (locs : List Loc) (ls : Array Slot), KP g (MX g q lb σ) H → va_D A (MX g q lb σ) → va_S A s.heap H locs → lv_has ls 4 [(0, .ref (q 0)), (1, .int (I u1)), (2, .int (I u2)), (3, .int (I u3))] → W p l e ({ frames := 0, cells := 0, slots := 0, locals := 0 }) s m [.ref (q 0), .int (I n1), .int (I n2)].toArray below meth c H locs 0 0 (MQ below (QI g A (p_i (MX g q lb) σ Q)) [.ref (q 0), .int (I n1), .int (I n2)].toArray s 0 0 A) (F0 m 12 ls []))) := ⟨_, fun _ _ _ => Iff.rfl⟩
  refine (fun hw => ?_) (hw P12 ?_)
  ·
    refine lv_iload_n hx hb dX13_isMade_0 rfl (lv_at hl 2 rfl) ?_
    refine lv_aload_n hx hb dX13_isMade_1 rfl (lv_at hl 0 rfl) ?_
    refine gfX13_made hx hb hts hK hP hown (hts _ tw_2093) (x := σ.1 34) rfl dX13_isMade_2 ?_
    refine bi_icmp_eq (tgt := 10) hx hb r_n2 (hB.1 34) dX13_isMade_5 (by decide) (fun c1 => ?_) (fun c1 => ?_)
    ·
      replace hw := hw.1 c1
      refine lv_iconst (v := I 0) hx hb dX13_isMade_10 rfl ?_
      refine lv_istore_n (lv' := [(3, .int (I 0)), (0, .ref (q 0)), (1, .int (I n1)), (2, .int (I n2))]) hx hb dX13_isMade_11 rfl hl (by decide) rfl (fun ls hl => ?_)
      exact (hP12 _ _ _).mp hw r_n1 r_n2 (by decide)  H locs ls hP hD hS (lv_sub hl [1, 2, 3, 0] rfl)
    ·
      replace hw := hw.2 c1
      refine lv_iconst (v := I 0) hx hb dX13_isMade_8 rfl ?_
      exact xrz hx hb hr (by decide) hlk hP hK hD hS ⟨_, (by decide), rfl, rfl, hw⟩ (Nat.le_of_ble_eq_true rfl) (Nat.le_of_ble_eq_true rfl) dX13_isMade_9
  ·
    intro u1 u2 u3 hw
    refine (hP12 _ _ _).mpr ?_
    intro r_u1 r_u2 r_u3 H locs ls hP hD hS hl
    refine lv_iload_n hx hb dX13_isMade_12 rfl (lv_at hl 3 rfl) ?_
    refine lv_iload_n hx hb dX13_isMade_13 rfl (lv_at hl 2 rfl) ?_
    refine bi_icmp_ge (tgt := 42) hx hb r_u3 r_u2 dX13_isMade_14 (by decide) (fun c2 => ?_) (fun c2 => ?_)
    ·
      replace hw := hw.1 c2
      refine lv_iconst (v := I 1) hx hb dX13_isMade_42 rfl ?_
      exact xrz hx hb hr (by decide) hlk hP hK hD hS ⟨_, (by decide), rfl, rfl, hw⟩ (Nat.le_of_ble_eq_true rfl) (Nat.le_of_ble_eq_true rfl) dX13_isMade_43
    ·
      replace hw := hw.2 c2
      refine lv_aload_n hx hb dX13_isMade_17 rfl (lv_at hl 0 rfl) ?_
      refine gfX13_madeRow hx hb hts hK hP hown (hts _ tw_2092) dX13_isMade_18 ?_
      refine lv_iload_n hx hb dX13_isMade_21 rfl (lv_at hl 3 rfl) ?_
      obtain ⟨c3, hw⟩ := hw
      refine ldMX13_madeRow hx hb hK hP hN c3 dX13_isMade_22 (fun x4 r_x4 e_x4 => ?_)
      replace hw := hw x4 r_x4 e_x4
      refine lv_aload_n hx hb dX13_isMade_23 rfl (lv_at hl 0 rfl) ?_
      refine gfX13_pileSymbols hx hb hts hK hP hown (hts _ tw_2082) dX13_isMade_24 ?_
      refine lv_iload_n hx hb dX13_isMade_27 rfl (lv_at hl 1 rfl) ?_
      refine lv_iload_n hx hb dX13_isMade_28 rfl (lv_at hl 3 rfl) ?_
      refine bi_iadd hx hb dX13_isMade_29 ?_
      obtain ⟨c5, hw⟩ := hw
      refine ldMX13_pileSymbols hx hb hK hP hN c5 dX13_isMade_30 (fun x6 r_x6 e_x6 => ?_)
      replace hw := hw x6 r_x6 e_x6
      refine bi_icmp_eq (tgt := 36) hx hb r_x4 r_x6 dX13_isMade_31 (by decide) (fun c7 => ?_) (fun c7 => ?_)
      ·
        replace hw := hw.1 c7
        refine lv_iinc (v := I (u3 + 1)) (lv' := [(3, .int (I (u3 + 1))), (0, .ref (q 0)), (1, .int (I u1)), (2, .int (I u2))]) hx hb dX13_isMade_36 hl (k := 3) rfl (I_add _ _) (by decide) rfl (fun ls hl => ?_)
        refine lv_goto (tgt := 12) hx hb dX13_isMade_39 (by decide) ?_
        obtain ⟨c8, hw⟩ := hw
        exact (hP12 _ _ _).mp hw r_u1 r_u2 c8  H locs ls hP hD hS (lv_sub hl [1, 2, 3, 0] rfl)
      ·
        replace hw := hw.2 c7
        refine lv_iconst (v := I 0) hx hb dX13_isMade_34 rfl ?_
        exact xrz hx hb hr (by decide) hlk hP hK hD hS ⟨_, (by decide), rfl, rfl, hw⟩ (Nat.le_of_ble_eq_true rfl) (Nat.le_of_ble_eq_true rfl) dX13_isMade_35
def W_X13_areKept (n1 : Int) (n2 : Int) (σ : S0) (Q : Int → Prop) : Prop :=
  ∀ (P2 : Int → Int → Int → Prop) (P30 : Int → Int → Int → Int → Int → Prop),
  (∀ (u1 : Int) (u2 : Int) (u3 : Int), ((0 ≤ u1 ∧ u1 < 1001) ∧ (∀ (x2 : Int), rg x2 → x2 = σ.2.1 49 u1 → ((x2 ≤ u3 → Q 1) ∧ (u3 < x2 → ∀ (x4 : Int), rg x4 → x4 = σ.2.1 48 u1 → ((0 ≤ (x4 + u3) ∧ (x4 + u3) < 42000) ∧ (∀ (x6 : Int), rg x6 → x6 = σ.2.1 43 (x4 + u3) → (P30 u1 u2 u3 x6 0))))))) → P2 u1 u2 u3) →
  (∀ (u1 : Int) (u2 : Int) (u3 : Int) (u4 : Int) (u5 : Int), ((0 ≤ u2 ∧ u2 < 1001) ∧ (∀ (x8 : Int), rg x8 → x8 = σ.2.1 49 u2 → ((x8 ≤ u5 → rg (u3 + 1) ∧ P2 u1 u2 (u3 + 1)) ∧ (u5 < x8 → (0 ≤ u4 ∧ u4 < 1001) ∧ (∀ (x12 : Int), rg x12 → x12 = σ.2.1 8 u4 → ((x12 = 0 → rg (u3 + 1) ∧ P2 u1 u2 (u3 + 1)) ∧ (¬ x12 = 0 → ∀ (x15 : Int), rg x15 → x15 = σ.2.1 48 u2 → ((0 ≤ (x15 + u5) ∧ (x15 + u5) < 42000) ∧ (∀ (x17 : Int), rg x17 → x17 = σ.2.1 43 (x15 + u5) → ((0 ≤ x17 ∧ x17 < 1001) ∧ (∀ (x19 : Int), rg x19 → x19 = σ.2.1 8 x17 → ((x19 = 0 → rg (u5 + 1) ∧ P30 u1 u2 u3 u4 (u5 + 1)) ∧ (¬ x19 = 0 → (u4 = x17 → Q 0) ∧ (¬ u4 = x17 → ∃ (Q23 : Int → Prop), W_X13_areApart u4 x17 σ Q23 ∧ ∀ (x24 : Int), rg x24 → Q23 x24 → ((¬ x24 = 0 → rg (u5 + 1) ∧ P30 u1 u2 u3 u4 (u5 + 1)) ∧ (x24 = 0 → Q 0)))))))))))))))) → P30 u1 u2 u3 u4 u5) →
  P2 n1 n2 0
set_option maxRecDepth 100000 in
set_option maxHeartbeats 4000000 in
theorem L_X13_areKept (l : Launch) (g : gG) (q : Nat → Nat) (lb : Nat) (hlb : lb < 2 ^ 31) {n1 : Int} {n2 : Int} {σ : S0} {Q : Int → Prop} (r_n1 : rg n1) (r_n2 : rg n2) (hN : n_m σ) (hw : W_X13_areKept n1 n2 σ Q) (sz : Nat) : MetI l yX13_areKept cX13_areKept 7 (some .boolean) { frames := 1, cells := 0, slots := 0, locals := 22 } g [.ref (q 0), .int (I n1), .int (I n2)] (MX g q lb σ) sz xT (p_i (MX g q lb) σ Q) 0 0 := by
  refine mkMet (Qc := fun A => QI g A (p_i (MX g q lb) σ Q)) (by decide) (Nat.le_of_ble_eq_true rfl) ?_
  intro p e s m below meth c A H ls hx hb hr hml hown hts hlk hnm hsz hP hK hNb hD hA hAe hS hX hl
  have hl : lv_has ls 7 [(0, .ref (q 0)), (1, .int (I n1)), (2, .int (I n2))] := hl
  have hB := hN
  obtain ⟨locs, hlocs⟩ : ∃ z : List Loc, z = [] := ⟨_, rfl⟩
  rw [← hlocs] at hS ⊢
  obtain ⟨P2, hP2⟩ : ∃ P : Int → Int → Int → Prop, ∀ (u1 : Int) (u2 : Int) (u3 : Int), (P u1 u2 u3 ↔ (rg u1 → rg u2 → rg u3 → ∀ (H : Heap) (locs : List Loc) (ls : Array Slot), KP g (MX g q lb σ) H → va_D A (MX g q lb σ) → va_S A s.heap H locs → lv_has ls 7 [(0, .ref (q 0)), (1, .int (I u1)), (2, .int (I u2)), (3, .int (I u3))] → W p l e ({ frames := 1, cells := 0, slots := 0, locals := 22 }) s m [.ref (q 0), .int (I n1), .int (I n2)].toArray below meth c H locs 0 0 (MQ below (QI g A (p_i (MX g q lb) σ Q)) [.ref (q 0), .int (I n1), .int (I n2)].toArray s 0 0 A) (F0 m 2 ls []))) := ⟨_, fun _ _ _ => Iff.rfl⟩
  obtain ⟨P30, hP30⟩ : ∃ P : Int → Int → Int → Int → Int → Prop, ∀ (u1 : Int) (u2 : Int) (u3 : Int) (u4 : Int) (u5 : Int), (P u1 u2 u3 u4 u5 ↔ (rg u1 → rg u2 → rg u3 → rg u4 → rg u5 → ∀ (H : Heap) (locs : List Loc) (ls : Array Slot), KP g (MX g q lb σ) H → va_D A (MX g q lb σ) → va_S A s.heap H locs → lv_has ls 7 [(0, .ref (q 0)), (1, .int (I u1)), (2, .int (I u2)), (3, .int (I u3)), (4, .int (I u4)), (5, .int (I u5))] → W p l e ({ frames := 1, cells := 0, slots := 0, locals := 22 }) s m [.ref (q 0), .int (I n1), .int (I n2)].toArray below meth c H locs 0 0 (MQ below (QI g A (p_i (MX g q lb) σ Q)) [.ref (q 0), .int (I n1), .int (I n2)].toArray s 0 0 A) (F0 m 30 ls []))) := ⟨_, fun _ _ _ _ _ => Iff.rfl⟩
  refine (fun hw => ?_) (hw P2 P30 ?_ ?_)
  ·
    refine lv_iconst (v := I 0) hx hb dX13_areKept_0 rfl ?_
    refine lv_istore_n (lv' := [(3, .int (I 0)), (0, .ref (q 0)), (1, .int (I n1)), (2, .int (I n2))]) hx hb dX13_areKept_1 rfl hl (by decide) rfl (fun ls hl => ?_)
    exact (hP2 _ _ _).mp hw r_n1 r_n2 (by decide)  H locs ls hP hD hS (lv_sub hl [1, 2, 3, 0] rfl)
  ·
    intro u1 u2 u3 hw
    refine (hP2 _ _ _).mpr ?_
    intro r_u1 r_u2 r_u3 H locs ls hP hD hS hl
    refine lv_iload_n hx hb dX13_areKept_2 rfl (lv_at hl 3 rfl) ?_
    refine lv_aload_n hx hb dX13_areKept_3 rfl (lv_at hl 0 rfl) ?_
    refine gfX13_becomesSize hx hb hts hK hP hown (hts _ tw_2091) dX13_areKept_4 ?_
    refine lv_iload_n hx hb dX13_areKept_7 rfl (lv_at hl 1 rfl) ?_
    obtain ⟨c1, hw⟩ := hw
    refine ldMX13_becomesSize hx hb hK hP hN c1 dX13_areKept_8 (fun x2 r_x2 e_x2 => ?_)
    replace hw := hw x2 r_x2 e_x2
    refine bi_icmp_ge (tgt := 109) hx hb r_u3 r_x2 dX13_areKept_9 (by decide) (fun c3 => ?_) (fun c3 => ?_)
    ·
      replace hw := hw.1 c3
      refine lv_iconst (v := I 1) hx hb dX13_areKept_109 rfl ?_
      exact xrz hx hb hr (by decide) hlk hP hK hD hS ⟨_, (by decide), rfl, rfl, hw⟩ (Nat.le_of_ble_eq_true rfl) (Nat.le_of_ble_eq_true rfl) dX13_areKept_110
    ·
      replace hw := hw.2 c3
      refine lv_aload_n hx hb dX13_areKept_12 rfl (lv_at hl 0 rfl) ?_
      refine gfX13_pileSymbols hx hb hts hK hP hown (hts _ tw_2082) dX13_areKept_13 ?_
      refine lv_aload_n hx hb dX13_areKept_16 rfl (lv_at hl 0 rfl) ?_
      refine gfX13_becomesAt hx hb hts hK hP hown (hts _ tw_2090) dX13_areKept_17 ?_
      refine lv_iload_n hx hb dX13_areKept_20 rfl (lv_at hl 1 rfl) ?_
      refine ldMX13_becomesAt hx hb hK hP hN c1 dX13_areKept_21 (fun x4 r_x4 e_x4 => ?_)
      replace hw := hw x4 r_x4 e_x4
      refine lv_iload_n hx hb dX13_areKept_22 rfl (lv_at hl 3 rfl) ?_
      refine bi_iadd hx hb dX13_areKept_23 ?_
      obtain ⟨c5, hw⟩ := hw
      refine ldMX13_pileSymbols hx hb hK hP hN c5 dX13_areKept_24 (fun x6 r_x6 e_x6 => ?_)
      replace hw := hw x6 r_x6 e_x6
      refine lv_istore (lv' := [(4, .int (I x6)), (0, .ref (q 0)), (1, .int (I u1)), (2, .int (I u2)), (3, .int (I u3))]) hx hb dX13_areKept_25 hl (by decide) rfl (fun ls hl => ?_)
      refine lv_iconst (v := I 0) hx hb dX13_areKept_27 rfl ?_
      refine lv_istore (lv' := [(5, .int (I 0)), (4, .int (I x6)), (0, .ref (q 0)), (1, .int (I u1)), (2, .int (I u2)), (3, .int (I u3))]) hx hb dX13_areKept_28 hl (by decide) rfl (fun ls hl => ?_)
      exact (hP30 _ _ _ _ _).mp hw r_u1 r_u2 r_u3 r_x6 (by decide)  H locs ls hP hD hS (lv_sub hl [2, 3, 4, 5, 1, 0] rfl)
  ·
    intro u1 u2 u3 u4 u5 hw
    refine (hP30 _ _ _ _ _).mpr ?_
    intro r_u1 r_u2 r_u3 r_u4 r_u5 H locs ls hP hD hS hl
    refine lv_iload hx hb dX13_areKept_30 (lv_at hl 5 rfl) ?_
    refine lv_aload_n hx hb dX13_areKept_32 rfl (lv_at hl 0 rfl) ?_
    refine gfX13_becomesSize hx hb hts hK hP hown (hts _ tw_2091) dX13_areKept_33 ?_
    refine lv_iload_n hx hb dX13_areKept_36 rfl (lv_at hl 2 rfl) ?_
    obtain ⟨c7, hw⟩ := hw
    refine ldMX13_becomesSize hx hb hK hP hN c7 dX13_areKept_37 (fun x8 r_x8 e_x8 => ?_)
    replace hw := hw x8 r_x8 e_x8
    refine bi_icmp_ge (tgt := 103) hx hb r_u5 r_x8 dX13_areKept_38 (by decide) (fun c9 => ?_) (fun c9 => ?_)
    ·
      replace hw := hw.1 c9
      refine lv_iinc (v := I (u3 + 1)) (lv' := [(3, .int (I (u3 + 1))), (0, .ref (q 0)), (1, .int (I u1)), (2, .int (I u2)), (4, .int (I u4)), (5, .int (I u5))]) hx hb dX13_areKept_103 hl (k := 3) rfl (I_add _ _) (by decide) rfl (fun ls hl => ?_)
      refine lv_goto (tgt := 2) hx hb dX13_areKept_106 (by decide) ?_
      obtain ⟨c10, hw⟩ := hw
      exact (hP2 _ _ _).mp hw r_u1 r_u2 c10  H locs ls hP hD hS (lv_sub hl [1, 2, 3, 0] rfl)
    ·
      replace hw := hw.2 c9
      refine lv_aload_n hx hb dX13_areKept_41 rfl (lv_at hl 0 rfl) ?_
      refine gfX13_isVariable hx hb hts hK hP hown (hts _ tw_2018) dX13_areKept_42 ?_
      refine lv_iload hx hb dX13_areKept_45 (lv_at hl 4 rfl) ?_
      obtain ⟨c11, hw⟩ := hw
      refine ldMX13_isVariable hx hb hK hP hN c11 dX13_areKept_47 (fun x12 r_x12 e_x12 => ?_)
      replace hw := hw x12 r_x12 e_x12
      refine bi_if_eq (tgt := 103) hx hb r_x12 dX13_areKept_48 (by decide) (fun c13 => ?_) (fun c13 => ?_)
      ·
        replace hw := hw.1 c13
        refine lv_iinc (v := I (u3 + 1)) (lv' := [(3, .int (I (u3 + 1))), (0, .ref (q 0)), (1, .int (I u1)), (2, .int (I u2)), (4, .int (I u4)), (5, .int (I u5))]) hx hb dX13_areKept_103 hl (k := 3) rfl (I_add _ _) (by decide) rfl (fun ls hl => ?_)
        refine lv_goto (tgt := 2) hx hb dX13_areKept_106 (by decide) ?_
        obtain ⟨c14, hw⟩ := hw
        exact (hP2 _ _ _).mp hw r_u1 r_u2 c14  H locs ls hP hD hS (lv_sub hl [1, 2, 3, 0] rfl)
      ·
        replace hw := hw.2 c13
        refine lv_aload_n hx hb dX13_areKept_51 rfl (lv_at hl 0 rfl) ?_
        refine gfX13_pileSymbols hx hb hts hK hP hown (hts _ tw_2082) dX13_areKept_52 ?_
        refine lv_aload_n hx hb dX13_areKept_55 rfl (lv_at hl 0 rfl) ?_
        refine gfX13_becomesAt hx hb hts hK hP hown (hts _ tw_2090) dX13_areKept_56 ?_
        refine lv_iload_n hx hb dX13_areKept_59 rfl (lv_at hl 2 rfl) ?_
        refine ldMX13_becomesAt hx hb hK hP hN c7 dX13_areKept_60 (fun x15 r_x15 e_x15 => ?_)
        replace hw := hw x15 r_x15 e_x15
        refine lv_iload hx hb dX13_areKept_61 (lv_at hl 5 rfl) ?_
        refine bi_iadd hx hb dX13_areKept_63 ?_
        obtain ⟨c16, hw⟩ := hw
        refine ldMX13_pileSymbols hx hb hK hP hN c16 dX13_areKept_64 (fun x17 r_x17 e_x17 => ?_)
        replace hw := hw x17 r_x17 e_x17
        refine lv_istore (lv' := [(6, .int (I x17)), (0, .ref (q 0)), (1, .int (I u1)), (2, .int (I u2)), (3, .int (I u3)), (4, .int (I u4)), (5, .int (I u5))]) hx hb dX13_areKept_65 hl (by decide) rfl (fun ls hl => ?_)
        refine lv_aload_n hx hb dX13_areKept_67 rfl (lv_at hl 1 rfl) ?_
        refine gfX13_isVariable hx hb hts hK hP hown (hts _ tw_2018) dX13_areKept_68 ?_
        refine lv_iload hx hb dX13_areKept_71 (lv_at hl 0 rfl) ?_
        obtain ⟨c18, hw⟩ := hw
        refine ldMX13_isVariable hx hb hK hP hN c18 dX13_areKept_73 (fun x19 r_x19 e_x19 => ?_)
        replace hw := hw x19 r_x19 e_x19
        refine bi_if_eq (tgt := 97) hx hb r_x19 dX13_areKept_74 (by decide) (fun c20 => ?_) (fun c20 => ?_)
        ·
          replace hw := hw.1 c20
          refine lv_iinc (v := I (u5 + 1)) (lv' := [(5, .int (I (u5 + 1))), (6, .int (I x17)), (0, .ref (q 0)), (1, .int (I u1)), (2, .int (I u2)), (3, .int (I u3)), (4, .int (I u4))]) hx hb dX13_areKept_97 hl (k := 6) rfl (I_add _ _) (by decide) rfl (fun ls hl => ?_)
          refine lv_goto (tgt := 30) hx hb dX13_areKept_100 (by decide) ?_
          obtain ⟨c21, hw⟩ := hw
          exact (hP30 _ _ _ _ _).mp hw r_u1 r_u2 r_u3 r_u4 c21  H locs ls hP hD hS (lv_sub hl [2, 3, 4, 5, 6, 0] rfl)
        ·
          replace hw := hw.2 c20
          refine lv_iload hx hb dX13_areKept_77 (lv_at hl 5 rfl) ?_
          refine lv_iload hx hb dX13_areKept_79 (lv_at hl 0 rfl) ?_
          refine bi_icmp_eq (tgt := 95) hx hb r_u4 r_x17 dX13_areKept_81 (by decide) (fun c22 => ?_) (fun c22 => ?_)
          ·
            replace hw := hw.1 c22
            refine lv_iconst (v := I 0) hx hb dX13_areKept_95 rfl ?_
            exact xrz hx hb hr (by decide) hlk hP hK hD hS ⟨_, (by decide), rfl, rfl, hw⟩ (Nat.le_of_ble_eq_true rfl) (Nat.le_of_ble_eq_true rfl) dX13_areKept_96
          ·
            replace hw := hw.2 c22
            refine lv_aload_n hx hb dX13_areKept_84 rfl (lv_at hl 1 rfl) ?_
            refine lv_iload hx hb dX13_areKept_85 (lv_at hl 5 rfl) ?_
            refine lv_iload hx hb dX13_areKept_87 (lv_at hl 0 rfl) ?_
            obtain ⟨Q23, hc, hw⟩ := hw
            refine wc_i (X := MX g q lb) (va_runV (As := [.int (I u4), .int (I x17)]) (rest := []) ⟨hx, hb, hml, hown, hts⟩ (L_X13_areApart l g q lb hlb r_u4 r_x17 hN hc H.size) (cwV 2 hts (TB_V tw_2738 tw_2740 ts_148 tw_15 co_X13_areApart) rfl rfl rfl (by decide +kernel) ⟨Nat.le_of_ble_eq_true rfl, Nat.le_of_ble_eq_true rfl⟩) (preV (q0 := 0) (ci := 13) rfl xT_bl hP hK hNb hD rfl rfl xT_at) rfl rfl hl.1 rfl (lv_room (Nat.le_of_ble_eq_true rfl)) dX13_areKept_89 ⟨Nat.le_of_ble_eq_true rfl, Nat.le_of_ble_eq_true rfl⟩) hP hD hS hA (fun x24 H locs r_x24 hq hP hD hS => ?_)
            replace hw := hw x24 r_x24 hq
            refine bi_if_ne (tgt := 97) hx hb r_x24 dX13_areKept_92 (by decide) (fun c26 => ?_) (fun c26 => ?_)
            ·
              replace hw := hw.1 c26
              refine lv_iinc (v := I (u5 + 1)) (lv' := [(5, .int (I (u5 + 1))), (6, .int (I x17)), (0, .ref (q 0)), (1, .int (I u1)), (2, .int (I u2)), (3, .int (I u3)), (4, .int (I u4))]) hx hb dX13_areKept_97 hl (k := 6) rfl (I_add _ _) (by decide) rfl (fun ls hl => ?_)
              refine lv_goto (tgt := 30) hx hb dX13_areKept_100 (by decide) ?_
              obtain ⟨c27, hw⟩ := hw
              exact (hP30 _ _ _ _ _).mp hw r_u1 r_u2 r_u3 r_u4 c27  H locs ls hP hD hS (lv_sub hl [2, 3, 4, 5, 6, 0] rfl)
            ·
              replace hw := hw.2 c26
              refine lv_iconst (v := I 0) hx hb dX13_areKept_95 rfl ?_
              exact xrz hx hb hr (by decide) hlk hP hK hD hS ⟨_, (by decide), rfl, rfl, hw⟩ (Nat.le_of_ble_eq_true rfl) (Nat.le_of_ble_eq_true rfl) dX13_areKept_96
def W_X13_pushRow_q53 (n2 : Int) (n3 : Int) (n4 : Int) (σ : S0) (Q : S0 → Prop) : Prop :=
  ∀ (P34 : S0 → Prop) (P43 : Int → Int → Int → Int → S0 → Prop),
  (∀ (τ : S0), (∃ (Q5 : S0 → Prop), W_X13_wrong 5 τ Q5 ∧ ∀ (τ7 : S0), n_m τ7 → f_r [35] [] [] τ τ7 → Q5 τ7 → (Q τ7)) → P34 τ) →
  (∀ (u2 : Int) (u3 : Int) (u4 : Int) (u5 : Int) (τ : S0), ((u3 ≤ u5 → (0 ≤ τ.1 30 ∧ τ.1 30 < 202) ∧ (rg (τ.1 31 + u3) ∧ rg (τ.1 30 + 1) ∧ Q (s_v (s_v (s_a (s_a (s_a τ 40 (τ.1 30) (τ.1 31)) 41 (τ.1 30) u3) 42 (τ.1 30) u4) 31 (τ.1 31 + u3)) 30 (τ.1 30 + 1)))) ∧ (u5 < u3 → (0 ≤ (u2 + u5) ∧ (u2 + u5) < 1002) ∧ (∀ (x13 : Int), rg x13 → x13 = τ.2.1 50 (u2 + u5) → ((0 ≤ (τ.1 31 + u5) ∧ (τ.1 31 + u5) < 42000) ∧ (rg (u5 + 1) ∧ P43 u2 u3 u4 (u5 + 1) (s_a τ 43 (τ.1 31 + u5) x13)))))) → P43 u2 u3 u4 u5 τ) →
  (σ.1 30 = 200 → P34 σ) ∧ (¬ σ.1 30 = 200 → (1000 < n3 → P34 σ) ∧ (n3 ≤ 1000 → rg ((σ.1 31 + σ.1 33) + n3) ∧ (((σ.1 31 + σ.1 33) + n3) ≤ 40000 → P43 n2 n3 n4 0 σ) ∧ (40000 < ((σ.1 31 + σ.1 33) + n3) → P34 σ)))
set_option maxRecDepth 100000 in
set_option maxHeartbeats 4000000 in
theorem L_X13_pushRow_q53 (l : Launch) (g : gG) (q : Nat → Nat) (lb : Nat) (hlb : lb < 2 ^ 31) {n2 : Int} {n3 : Int} {n4 : Int} {σ : S0} {Q : S0 → Prop} (r_n2 : rg n2) (r_n3 : rg n3) (r_n4 : rg n4) (hN : n_m σ) (hw : W_X13_pushRow_q53 n2 n3 n4 σ Q) (sz : Nat) : MetV l yX13_pushRow cX13_pushRow 6 { frames := 1, cells := 0, slots := 0, locals := 21 } g [.ref (q 0), .ref (q 53), .int (I n2), .int (I n3), .int (I n4)] (MX g q lb σ) sz xT (p_V (MX g q lb) [30, 31, 35] [40, 41, 42, 43] [] σ Q) 0 0 := by
  refine mkMet (Qc := fun A => QV g A (p_V (MX g q lb) [30, 31, 35] [40, 41, 42, 43] [] σ Q)) (by decide) (Nat.le_of_ble_eq_true rfl) ?_
  intro p e s m below meth c A H ls hx hb hr hml hown hts hlk hnm hsz hP hK hNb hD hA hAe hS hX hl
  have hl : lv_has ls 6 [(0, .ref (q 0)), (1, .ref (q 53)), (2, .int (I n2)), (3, .int (I n3)), (4, .int (I n4))] := hl
  have hB := hN
  have hF : f_r [30, 31, 35] [40, 41, 42, 43] [] σ σ := f_0
  obtain ⟨locs, hlocs⟩ : ∃ z : List Loc, z = [] := ⟨_, rfl⟩
  rw [← hlocs] at hS ⊢
  obtain ⟨P34, hP34⟩ : ∃ P : S0 → Prop, ∀ (τ : S0), (P τ ↔ (n_m τ → f_r [30, 31, 35] [40, 41, 42, 43] [] σ τ → ∀ (H : Heap) (locs : List Loc) (ls : Array Slot), KP g (MX g q lb τ) H → va_D A (MX g q lb τ) → va_S A s.heap H locs → lv_has ls 6 [(0, .ref (q 0))] → W p l e ({ frames := 1, cells := 0, slots := 0, locals := 21 }) s m [.ref (q 0), .ref (q 53), .int (I n2), .int (I n3), .int (I n4)].toArray below meth c H locs 0 0 (MQ below (QV g A (p_V (MX g q lb) [30, 31, 35] [40, 41, 42, 43] [] σ Q)) [.ref (q 0), .ref (q 53), .int (I n2), .int (I n3), .int (I n4)].toArray s 0 0 A) (F0 m 34 ls []))) := ⟨_, fun _ => Iff.rfl⟩
  obtain ⟨P43, hP43⟩ : ∃ P : Int → Int → Int → Int → S0 → Prop, ∀ (u2 : Int) (u3 : Int) (u4 : Int) (u5 : Int) (τ : S0), (P u2 u3 u4 u5 τ ↔ (rg u2 → rg u3 → rg u4 → rg u5 → n_m τ → f_r [30, 31, 35] [40, 41, 42, 43] [] σ τ → ∀ (H : Heap) (locs : List Loc) (ls : Array Slot), KP g (MX g q lb τ) H → va_D A (MX g q lb τ) → va_S A s.heap H locs → lv_has ls 6 [(0, .ref (q 0)), (1, .ref (q 53)), (2, .int (I u2)), (3, .int (I u3)), (4, .int (I u4)), (5, .int (I u5))] → W p l e ({ frames := 1, cells := 0, slots := 0, locals := 21 }) s m [.ref (q 0), .ref (q 53), .int (I n2), .int (I n3), .int (I n4)].toArray below meth c H locs 0 0 (MQ below (QV g A (p_V (MX g q lb) [30, 31, 35] [40, 41, 42, 43] [] σ Q)) [.ref (q 0), .ref (q 53), .int (I n2), .int (I n3), .int (I n4)].toArray s 0 0 A) (F0 m 43 ls []))) := ⟨_, fun _ _ _ _ _ => Iff.rfl⟩
  refine (fun hw => ?_) (hw P34 P43 ?_ ?_)
  ·
    refine lv_aload_n hx hb dX13_pushRow_0 rfl (lv_at hl 0 rfl) ?_
    refine gfX13_piled hx hb hts hK hP hown (hts _ tw_2081) (x := σ.1 30) rfl dX13_pushRow_1 ?_
    refine lv_sipush (v := I 200) hx hb dX13_pushRow_4 (by decide) ?_
    refine bi_icmp_eq (tgt := 34) hx hb (hB.1 30) (by decide) dX13_pushRow_7 (by decide) (fun c1 => ?_) (fun c1 => ?_)
    ·
      replace hw := hw.1 c1
      exact (hP34 _).mp hw hN hF H locs ls hP hD hS (lv_sub hl [0] rfl)
    ·
      replace hw := hw.2 c1
      refine lv_iload_n hx hb dX13_pushRow_10 rfl (lv_at hl 3 rfl) ?_
      refine lv_sipush (v := I 1000) hx hb dX13_pushRow_11 (by decide) ?_
      refine bi_icmp_gt (tgt := 34) hx hb r_n3 (by decide) dX13_pushRow_14 (by decide) (fun c2 => ?_) (fun c2 => ?_)
      ·
        replace hw := hw.1 c2
        exact (hP34 _).mp hw hN hF H locs ls hP hD hS (lv_sub hl [0] rfl)
      ·
        replace hw := hw.2 c2
        refine lv_aload_n hx hb dX13_pushRow_17 rfl (lv_at hl 0 rfl) ?_
        refine gfX13_pileTop hx hb hts hK hP hown (hts _ tw_2083) (x := σ.1 31) rfl dX13_pushRow_18 ?_
        refine lv_aload_n hx hb dX13_pushRow_21 rfl (lv_at hl 0 rfl) ?_
        refine gfX13_savedTop hx hb hts hK hP hown (hts _ tw_2089) (x := σ.1 33) rfl dX13_pushRow_22 ?_
        refine bi_iadd hx hb dX13_pushRow_25 ?_
        refine lv_iload_n hx hb dX13_pushRow_26 rfl (lv_at hl 3 rfl) ?_
        refine bi_iadd hx hb dX13_pushRow_27 ?_
        refine lv_ldcw (own := RX13) (v := 40000) hx hb hown (hts _ tw_2717) dX13_pushRow_28 ?_
        refine xtop (y := I 40000) (by decide) ?_
        obtain ⟨c3, hw⟩ := hw
        refine bi_icmp_le (tgt := 40) hx hb c3 (by decide) dX13_pushRow_31 (by decide) (fun c4 => ?_) (fun c4 => ?_)
        ·
          replace hw := hw.1 c4
          refine lv_iconst (v := I 0) hx hb dX13_pushRow_40 rfl ?_
          refine lv_istore (lv' := [(5, .int (I 0)), (0, .ref (q 0)), (1, .ref (q 53)), (2, .int (I n2)), (3, .int (I n3)), (4, .int (I n4))]) hx hb dX13_pushRow_41 hl (by decide) rfl (fun ls hl => ?_)
          exact (hP43 _ _ _ _ _).mp hw r_n2 r_n3 r_n4 (by decide) hN hF H locs ls hP hD hS (lv_sub hl [1, 2, 3, 4, 5, 0] rfl)
        ·
          replace hw := hw.2 c4
          exact (hP34 _).mp hw hN hF H locs ls hP hD hS (lv_sub hl [0] rfl)
  ·
    intro τ hw
    refine (hP34 _).mpr ?_
    intro hN hF H locs ls hP hD hS hl
    have hB := hN
    refine lv_aload_n hx hb dX13_pushRow_34 rfl (lv_at hl 0 rfl) ?_
    refine lv_iconst (v := I 5) hx hb dX13_pushRow_35 rfl ?_
    obtain ⟨Q5, hc, hw⟩ := hw
    refine wc_V (X := MX g q lb) (va_runV (As := [.int (I 5)]) (rest := []) ⟨hx, hb, hml, hown, hts⟩ (L_X13_wrong l g q lb hlb (by decide) hN hc H.size) (cwV 1 hts (TB_V tw_2718 tw_2720 ts_143 tw_15 co_X13_wrong) rfl rfl rfl (by decide +kernel) ⟨Nat.le_of_ble_eq_true rfl, Nat.le_of_ble_eq_true rfl⟩) (preV (q0 := 0) (ci := 13) rfl xT_bl hP hK hNb hD rfl rfl xT_at) rfl rfl hl.1 rfl (lv_room (Nat.le_of_ble_eq_true rfl)) dX13_pushRow_36 ⟨Nat.le_of_ble_eq_true rfl, Nat.le_of_ble_eq_true rfl⟩) hP hD hS hA (fun τ7 H locs hN hf hq hP hD hS => ?_)
    replace hw := hw τ7 hN hf hq
    have hF : f_r [30, 31, 35] [40, 41, 42, 43] [] σ τ7 := f_t hF hf (by decide) (by decide) (by decide)
    have hB := hN
    exact xrv hx hb hr hlk hP hK hD hS ⟨_, hN, hF, rfl, hw⟩ (Nat.le_of_ble_eq_true rfl) (Nat.le_of_ble_eq_true rfl) dX13_pushRow_39
  ·
    intro u2 u3 u4 u5 τ hw
    refine (hP43 _ _ _ _ _).mpr ?_
    intro r_u2 r_u3 r_u4 r_u5 hN hF H locs ls hP hD hS hl
    have hB := hN
    refine lv_iload hx hb dX13_pushRow_43 (lv_at hl 5 rfl) ?_
    refine lv_iload_n hx hb dX13_pushRow_45 rfl (lv_at hl 3 rfl) ?_
    refine bi_icmp_ge (tgt := 73) hx hb r_u5 r_u3 dX13_pushRow_46 (by decide) (fun c8 => ?_) (fun c8 => ?_)
    ·
      replace hw := hw.1 c8
      refine lv_aload_n hx hb dX13_pushRow_73 rfl (lv_at hl 0 rfl) ?_
      refine gfX13_pileAt hx hb hts hK hP hown (hts _ tw_2078) dX13_pushRow_74 ?_
      refine lv_aload_n hx hb dX13_pushRow_77 rfl (lv_at hl 0 rfl) ?_
      refine gfX13_piled hx hb hts hK hP hown (hts _ tw_2081) (x := τ.1 30) rfl dX13_pushRow_78 ?_
      refine lv_aload_n hx hb dX13_pushRow_81 rfl (lv_at hl 0 rfl) ?_
      refine gfX13_pileTop hx hb hts hK hP hown (hts _ tw_2083) (x := τ.1 31) rfl dX13_pushRow_82 ?_
      obtain ⟨c9, hw⟩ := hw
      refine sdMX13_pileAt hx hb hK hP hD hS c9 dX13_pushRow_85 (fun H locs hP hD hS => ?_)
      have hN : n_m (s_a τ 40 (τ.1 30) (τ.1 31)) := n_a (k := 40) (j := τ.1 30) hN ((hB.1 31) : rg (τ.1 31))
      have hF : f_r [30, 31, 35] [40, 41, 42, 43] [] σ (s_a τ 40 (τ.1 30) (τ.1 31)) := f_a hF (by decide)
      refine lv_aload_n hx hb dX13_pushRow_86 rfl (lv_at hl 0 rfl) ?_
      refine gfX13_pileSize hx hb hts hK hP hown (hts _ tw_2079) dX13_pushRow_87 ?_
      refine lv_aload_n hx hb dX13_pushRow_90 rfl (lv_at hl 0 rfl) ?_
      refine gfX13_piled hx hb hts hK hP hown (hts _ tw_2081) (x := τ.1 30) rfl dX13_pushRow_91 ?_
      refine lv_iload_n hx hb dX13_pushRow_94 rfl (lv_at hl 3 rfl) ?_
      refine sdMX13_pileSize hx hb hK hP hD hS c9 dX13_pushRow_95 (fun H locs hP hD hS => ?_)
      have hN : n_m (s_a (s_a τ 40 (τ.1 30) (τ.1 31)) 41 (τ.1 30) u3) := n_a (k := 41) (j := τ.1 30) hN (r_u3 : rg u3)
      have hF : f_r [30, 31, 35] [40, 41, 42, 43] [] σ (s_a (s_a τ 40 (τ.1 30) (τ.1 31)) 41 (τ.1 30) u3) := f_a hF (by decide)
      refine lv_aload_n hx hb dX13_pushRow_96 rfl (lv_at hl 0 rfl) ?_
      refine gfX13_pileRow hx hb hts hK hP hown (hts _ tw_2080) dX13_pushRow_97 ?_
      refine lv_aload_n hx hb dX13_pushRow_100 rfl (lv_at hl 0 rfl) ?_
      refine gfX13_piled hx hb hts hK hP hown (hts _ tw_2081) (x := τ.1 30) rfl dX13_pushRow_101 ?_
      refine lv_iload hx hb dX13_pushRow_104 (lv_at hl 4 rfl) ?_
      refine sdMX13_pileRow hx hb hK hP hD hS c9 dX13_pushRow_106 (fun H locs hP hD hS => ?_)
      have hN : n_m (s_a (s_a (s_a τ 40 (τ.1 30) (τ.1 31)) 41 (τ.1 30) u3) 42 (τ.1 30) u4) := n_a (k := 42) (j := τ.1 30) hN (r_u4 : rg u4)
      have hF : f_r [30, 31, 35] [40, 41, 42, 43] [] σ (s_a (s_a (s_a τ 40 (τ.1 30) (τ.1 31)) 41 (τ.1 30) u3) 42 (τ.1 30) u4) := f_a hF (by decide)
      refine lv_aload_n hx hb dX13_pushRow_107 rfl (lv_at hl 0 rfl) ?_
      refine lv_dup hx hb dX13_pushRow_108 rfl ?_
      refine gfX13_pileTop hx hb hts hK hP hown (hts _ tw_2083) (x := τ.1 31) rfl dX13_pushRow_109 ?_
      refine lv_iload_n hx hb dX13_pushRow_112 rfl (lv_at hl 3 rfl) ?_
      refine bi_iadd hx hb dX13_pushRow_113 ?_
      obtain ⟨c10, hw⟩ := hw
      refine pfX13_pileTop hx hb hts hK hP hD hS hown (hts _ tw_2083) dX13_pushRow_114 (fun H locs hP hD hS => ?_)
      have hN : n_m (s_v (s_a (s_a (s_a τ 40 (τ.1 30) (τ.1 31)) 41 (τ.1 30) u3) 42 (τ.1 30) u4) 31 (τ.1 31 + u3)) := n_v (i := 31) hN (c10 : rg (τ.1 31 + u3))
      have hF : f_r [30, 31, 35] [40, 41, 42, 43] [] σ (s_v (s_a (s_a (s_a τ 40 (τ.1 30) (τ.1 31)) 41 (τ.1 30) u3) 42 (τ.1 30) u4) 31 (τ.1 31 + u3)) := f_v hF (by decide)
      refine lv_aload_n hx hb dX13_pushRow_117 rfl (lv_at hl 0 rfl) ?_
      refine lv_dup hx hb dX13_pushRow_118 rfl ?_
      refine gfX13_piled hx hb hts hK hP hown (hts _ tw_2081) (x := τ.1 30) rfl dX13_pushRow_119 ?_
      refine lv_iconst (v := I 1) hx hb dX13_pushRow_122 rfl ?_
      refine bi_iadd hx hb dX13_pushRow_123 ?_
      obtain ⟨c11, hw⟩ := hw
      refine pfX13_piled hx hb hts hK hP hD hS hown (hts _ tw_2081) dX13_pushRow_124 (fun H locs hP hD hS => ?_)
      have hN : n_m (s_v (s_v (s_a (s_a (s_a τ 40 (τ.1 30) (τ.1 31)) 41 (τ.1 30) u3) 42 (τ.1 30) u4) 31 (τ.1 31 + u3)) 30 (τ.1 30 + 1)) := n_v (i := 30) hN (c11 : rg (τ.1 30 + 1))
      have hF : f_r [30, 31, 35] [40, 41, 42, 43] [] σ (s_v (s_v (s_a (s_a (s_a τ 40 (τ.1 30) (τ.1 31)) 41 (τ.1 30) u3) 42 (τ.1 30) u4) 31 (τ.1 31 + u3)) 30 (τ.1 30 + 1)) := f_v hF (by decide)
      exact xrv hx hb hr hlk hP hK hD hS ⟨_, hN, hF, rfl, hw⟩ (Nat.le_of_ble_eq_true rfl) (Nat.le_of_ble_eq_true rfl) dX13_pushRow_127
    ·
      replace hw := hw.2 c8
      refine lv_aload_n hx hb dX13_pushRow_49 rfl (lv_at hl 0 rfl) ?_
      refine gfX13_pileSymbols hx hb hts hK hP hown (hts _ tw_2082) dX13_pushRow_50 ?_
      refine lv_aload_n hx hb dX13_pushRow_53 rfl (lv_at hl 0 rfl) ?_
      refine gfX13_pileTop hx hb hts hK hP hown (hts _ tw_2083) (x := τ.1 31) rfl dX13_pushRow_54 ?_
      refine lv_iload hx hb dX13_pushRow_57 (lv_at hl 5 rfl) ?_
      refine bi_iadd hx hb dX13_pushRow_59 ?_
      refine lv_aload_n hx hb dX13_pushRow_60 rfl (lv_at hl 1 rfl) ?_
      refine lv_iload_n hx hb dX13_pushRow_61 rfl (lv_at hl 2 rfl) ?_
      refine lv_iload hx hb dX13_pushRow_62 (lv_at hl 5 rfl) ?_
      refine bi_iadd hx hb dX13_pushRow_64 ?_
      obtain ⟨c12, hw⟩ := hw
      refine ldMX13_madeRow hx hb hK hP hN c12 dX13_pushRow_65 (fun x13 r_x13 e_x13 => ?_)
      replace hw := hw x13 r_x13 e_x13
      obtain ⟨c14, hw⟩ := hw
      refine sdMX13_pileSymbols hx hb hK hP hD hS c14 dX13_pushRow_66 (fun H locs hP hD hS => ?_)
      have hN : n_m (s_a τ 43 (τ.1 31 + u5) x13) := n_a (k := 43) (j := (τ.1 31 + u5)) hN (r_x13 : rg x13)
      have hF : f_r [30, 31, 35] [40, 41, 42, 43] [] σ (s_a τ 43 (τ.1 31 + u5) x13) := f_a hF (by decide)
      refine lv_iinc (v := I (u5 + 1)) (lv' := [(5, .int (I (u5 + 1))), (0, .ref (q 0)), (1, .ref (q 53)), (2, .int (I u2)), (3, .int (I u3)), (4, .int (I u4))]) hx hb dX13_pushRow_67 hl (k := 5) rfl (I_add _ _) (by decide) rfl (fun ls hl => ?_)
      refine lv_goto (tgt := 43) hx hb dX13_pushRow_70 (by decide) ?_
      obtain ⟨c15, hw⟩ := hw
      exact (hP43 _ _ _ _ _).mp hw r_u2 r_u3 r_u4 c15 hN hF H locs ls hP hD hS (lv_sub hl [1, 2, 3, 4, 5, 0] rfl)
def W_X13_applyStep (n1 : Int) (n2 : Int) (n3 : Int) (σ : S0) (Q : S0 → Prop) : Prop :=
  ∀ (P36 : Int → Int → Int → Int → Int → Int → S0 → Prop) (P117 : Int → Int → Int → Int → Int → Int → Int → Int → S0 → Prop) (P202 : Int → Int → Int → Int → Int → Int → S0 → Prop) (P294 : Int → Int → Int → Int → Int → Int → S0 → Prop) (P350 : Int → Int → Int → Int → S0 → Prop) (P375 : Int → Int → Int → S0 → Prop),
  (∀ (u1 : Int) (u2 : Int) (u3 : Int) (u4 : Int) (u5 : Int) (u6 : Int) (τ : S0), ((u4 ≤ u6 → P202 u1 u2 u3 u4 u5 0 τ) ∧ (u6 < u4 → (0 ≤ u1 ∧ u1 < 1501) ∧ (∀ (x10 : Int), rg x10 → x10 = τ.2.1 18 u1 → ((0 ≤ (x10 + u6) ∧ (x10 + u6) < 90100) ∧ (∀ (x12 : Int), rg x12 → x12 = τ.2.1 20 (x10 + u6) → ((0 ≤ x12 ∧ x12 < 1501) ∧ (∀ (x14 : Int), rg x14 → x14 = τ.2.1 13 x12 → ((¬ x14 = 0 → rg (u6 + 1) ∧ P36 u1 u2 u3 u4 u5 (u6 + 1) τ) ∧ (x14 = 0 → (0 ≤ (u5 + u6) ∧ (u5 + u6) < 202) ∧ (∀ (x18 : Int), rg x18 → x18 = τ.2.1 41 (u5 + u6) → ((x18 ≤ 0 → P117 u1 u2 u3 u4 u5 u6 x12 0 τ) ∧ (0 < x18 → ∀ (x20 : Int), rg x20 → x20 = τ.2.1 40 (u5 + u6) → ((0 ≤ x20 ∧ x20 < 42000) ∧ (∀ (x22 : Int), rg x22 → x22 = τ.2.1 43 x20 → (∀ (x23 : Int), rg x23 → x23 = τ.2.1 14 x12 → ((0 ≤ x23 ∧ x23 < 30400) ∧ (∀ (x25 : Int), rg x25 → x25 = τ.2.1 16 x23 → ((¬ x22 = x25 → P117 u1 u2 u3 u4 u5 u6 x12 0 τ) ∧ (x22 = x25 → P117 u1 u2 u3 u4 u5 u6 x12 1 τ))))))))))))))))))) → P36 u1 u2 u3 u4 u5 u6 τ) →
  (∀ (u1 : Int) (u2 : Int) (u3 : Int) (u4 : Int) (u5 : Int) (u6 : Int) (u7 : Int) (k0 : Int) (τ : S0), ((¬ k0 = 0 → (0 ≤ u7 ∧ u7 < 1501) ∧ (∀ (x57 : Int), rg x57 → x57 = τ.2.1 14 u7 → ((0 ≤ (x57 + 1) ∧ (x57 + 1) < 30400) ∧ (∀ (x59 : Int), rg x59 → x59 = τ.2.1 16 (x57 + 1) → ((0 ≤ (u5 + u6) ∧ (u5 + u6) < 202) ∧ (∀ (x61 : Int), rg x61 → x61 = τ.2.1 40 (u5 + u6) → ((0 ≤ x59 ∧ x59 < 1001) ∧ (rg (x61 + 1) ∧ ∀ (x64 : Int), rg x64 → x64 = τ.2.1 14 u7 → ((0 ≤ (x64 + 1) ∧ (x64 + 1) < 30400) ∧ (∀ (x66 : Int), rg x66 → x66 = τ.2.1 16 (x64 + 1) → (∀ (x67 : Int), rg x67 → x67 = τ.2.1 41 (u5 + u6) → ((0 ≤ x66 ∧ x66 < 1001) ∧ (rg (x67 - 1) ∧ rg (u6 + 1) ∧ P36 u1 u2 u3 u4 u5 (u6 + 1) (s_a (s_a τ 48 x59 (x61 + 1)) 49 x66 (x67 - 1))))))))))))))) ∧ (k0 = 0 → ∃ (Q71 : S0 → Prop), W_X13_wrong 16 τ Q71 ∧ ∀ (τ73 : S0), n_m τ73 → f_r [35] [] [] τ τ73 → Q71 τ73 → (Q τ73))) → P117 u1 u2 u3 u4 u5 u6 u7 k0 τ) →
  (∀ (u1 : Int) (u2 : Int) (u3 : Int) (u4 : Int) (u5 : Int) (u6 : Int) (τ : S0), ((u4 ≤ u6 → (0 ≤ u1 ∧ u1 < 1501) ∧ (∀ (x29 : Int), rg x29 → x29 = τ.2.1 21 u1 → (P294 u1 u2 u3 u4 u5 x29 τ))) ∧ (u6 < u4 → (u3 = 0 → (0 ≤ u1 ∧ u1 < 1501) ∧ (∀ (x32 : Int), rg x32 → x32 = τ.2.1 21 u1 → (P294 u1 u2 u3 u4 u5 x32 τ))) ∧ (¬ u3 = 0 → (0 ≤ u1 ∧ u1 < 1501) ∧ (∀ (x34 : Int), rg x34 → x34 = τ.2.1 18 u1 → ((0 ≤ (x34 + u6) ∧ (x34 + u6) < 90100) ∧ (∀ (x36 : Int), rg x36 → x36 = τ.2.1 20 (x34 + u6) → ((0 ≤ x36 ∧ x36 < 1501) ∧ (∀ (x38 : Int), rg x38 → x38 = τ.2.1 13 x36 → ((¬ x38 = 1 → rg (u6 + 1) ∧ P202 u1 u2 u3 u4 u5 (u6 + 1) τ) ∧ (x38 = 1 → ∃ (Q41 : S0 → Prop), W_X13_replace x36 τ Q41 ∧ ∀ (τ43 : S0), n_m τ43 → f_r [34] [50] [] τ τ43 → Q41 τ43 → ((0 ≤ (u5 + u6) ∧ (u5 + u6) < 202) ∧ (∀ (x45 : Int), rg x45 → x45 = τ43.2.1 40 (u5 + u6) → (∀ (x46 : Int), rg x46 → x46 = τ43.2.1 41 (u5 + u6) → (∃ (Q47 : Int → Prop), W_X13_isMade x45 x46 τ43 Q47 ∧ ∀ (x48 : Int), rg x48 → Q47 x48 → ((¬ x48 = 0 → rg (u6 + 1) ∧ P202 u1 u2 u3 u4 u5 (u6 + 1) τ43) ∧ (x48 = 0 → ∃ (Q52 : S0 → Prop), W_X13_wrong 16 τ43 Q52 ∧ ∀ (τ54 : S0), n_m τ54 → f_r [35] [] [] τ43 τ54 → Q52 τ54 → (Q τ54))))))))))))))))) → P202 u1 u2 u3 u4 u5 u6 τ) →
  (∀ (u1 : Int) (u2 : Int) (u3 : Int) (u4 : Int) (u5 : Int) (u6 : Int) (τ : S0), ((0 ≤ u1 ∧ u1 < 1501) ∧ (∀ (x75 : Int), rg x75 → x75 = τ.2.1 21 u1 → (∀ (x76 : Int), rg x76 → x76 = τ.2.1 22 u1 → (rg (x75 + x76) ∧ ((x75 + x76) ≤ u6 → P350 u1 u2 u4 u5 τ) ∧ (u6 < (x75 + x76) → (u3 = 0 → P350 u1 u2 u4 u5 τ) ∧ (¬ u3 = 0 → (0 ≤ u6 ∧ u6 < 20000) ∧ (∀ (x81 : Int), rg x81 → x81 = τ.2.1 23 u6 → (∀ (x82 : Int), rg x82 → x82 = τ.2.1 24 u6 → (∃ (Q83 : Int → Prop), W_X13_areKept x81 x82 τ Q83 ∧ ∀ (x84 : Int), rg x84 → Q83 x84 → ((¬ x84 = 0 → rg (u6 + 1) ∧ P294 u1 u2 u3 u4 u5 (u6 + 1) τ) ∧ (x84 = 0 → ∃ (Q88 : S0 → Prop), W_X13_wrong 17 τ Q88 ∧ ∀ (τ90 : S0), n_m τ90 → f_r [35] [] [] τ τ90 → Q88 τ90 → (Q τ90)))))))))))) → P294 u1 u2 u3 u4 u5 u6 τ) →
  (∀ (u1 : Int) (u2 : Int) (u4 : Int) (u5 : Int) (τ : S0), (∃ (Q91 : S0 → Prop), W_X13_replace u1 τ Q91 ∧ ∀ (τ93 : S0), n_m τ93 → f_r [34] [50] [] τ τ93 → Q91 τ93 → ((¬ u4 = 0 → (0 ≤ u5 ∧ u5 < 202) ∧ (∀ (x96 : Int), rg x96 → x96 = τ93.2.1 40 u5 → (P375 u2 u5 x96 τ93))) ∧ (u4 = 0 → P375 u2 u5 (τ93.1 31) τ93))) → P350 u1 u2 u4 u5 τ) →
  (∀ (u2 : Int) (u5 : Int) (k1 : Int) (τ : S0), (∃ (Q97 : S0 → Prop), W_X13_pushRow_q53 0 (τ.1 34) u2 (s_v (s_v τ 31 k1) 30 u5) Q97 ∧ ∀ (τ99 : S0), n_m τ99 → f_r [30, 31, 35] [40, 41, 42, 43] [] (s_v (s_v τ 31 k1) 30 u5) τ99 → Q97 τ99 → (Q τ99)) → P375 u2 u5 k1 τ) →
  (0 ≤ n1 ∧ n1 < 1501) ∧ (∀ (x2 : Int), rg x2 → x2 = σ.2.1 19 n1 → ((x2 ≤ σ.1 30 → rg (σ.1 30 - x2) ∧ P36 n1 n2 n3 x2 (σ.1 30 - x2) 0 σ) ∧ (σ.1 30 < x2 → ∃ (Q5 : S0 → Prop), W_X13_wrong 15 σ Q5 ∧ ∀ (τ7 : S0), n_m τ7 → f_r [35] [] [] σ τ7 → Q5 τ7 → (Q τ7))))
set_option maxRecDepth 100000 in
set_option maxHeartbeats 4000000 in
theorem L_X13_applyStep (l : Launch) (g : gG) (q : Nat → Nat) (lb : Nat) (hlb : lb < 2 ^ 31) {n1 : Int} {n2 : Int} {n3 : Int} {σ : S0} {Q : S0 → Prop} (r_n1 : rg n1) (r_n2 : rg n2) (r_n3 : rg n3) (hN : n_m σ) (hw : W_X13_applyStep n1 n2 n3 σ Q) (sz : Nat) : MetV l yX13_applyStep cX13_applyStep 9 { frames := 2, cells := 0, slots := 0, locals := 48 } g [.ref (q 0), .int (I n1), .int (I n2), .int (I n3)] (MX g q lb σ) sz xT (p_V (MX g q lb) [30, 31, 34, 35] [40, 41, 42, 43, 48, 49, 50] [] σ Q) 0 0 := by
  refine mkMet (Qc := fun A => QV g A (p_V (MX g q lb) [30, 31, 34, 35] [40, 41, 42, 43, 48, 49, 50] [] σ Q)) (by decide) (Nat.le_of_ble_eq_true rfl) ?_
  intro p e s m below meth c A H ls hx hb hr hml hown hts hlk hnm hsz hP hK hNb hD hA hAe hS hX hl
  have hl : lv_has ls 9 [(0, .ref (q 0)), (1, .int (I n1)), (2, .int (I n2)), (3, .int (I n3))] := hl
  have hB := hN
  have hF : f_r [30, 31, 34, 35] [40, 41, 42, 43, 48, 49, 50] [] σ σ := f_0
  obtain ⟨locs, hlocs⟩ : ∃ z : List Loc, z = [] := ⟨_, rfl⟩
  rw [← hlocs] at hS ⊢
  obtain ⟨P36, hP36⟩ : ∃ P : Int → Int → Int → Int → Int → Int → S0 → Prop, ∀ (u1 : Int) (u2 : Int) (u3 : Int) (u4 : Int) (u5 : Int) (u6 : Int) (τ : S0), (P u1 u2 u3 u4 u5 u6 τ ↔ (rg u1 → rg u2 → rg u3 → rg u4 → rg u5 → rg u6 → n_m τ → f_r [30, 31, 34, 35] [40, 41, 42, 43, 48, 49, 50] [] σ τ → ∀ (H : Heap) (locs : List Loc) (ls : Array Slot), KP g (MX g q lb τ) H → va_D A (MX g q lb τ) → va_S A s.heap H locs → lv_has ls 9 [(0, .ref (q 0)), (1, .int (I u1)), (2, .int (I u2)), (3, .int (I u3)), (4, .int (I u4)), (5, .int (I u5)), (6, .int (I u6))] → W p l e ({ frames := 2, cells := 0, slots := 0, locals := 48 }) s m [.ref (q 0), .int (I n1), .int (I n2), .int (I n3)].toArray below meth c H locs 0 0 (MQ below (QV g A (p_V (MX g q lb) [30, 31, 34, 35] [40, 41, 42, 43, 48, 49, 50] [] σ Q)) [.ref (q 0), .int (I n1), .int (I n2), .int (I n3)].toArray s 0 0 A) (F0 m 36 ls []))) := ⟨_, fun _ _ _ _ _ _ _ => Iff.rfl⟩
  obtain ⟨P117, hP117⟩ : ∃ P : Int → Int → Int → Int → Int → Int → Int → Int → S0 → Prop, ∀ (u1 : Int) (u2 : Int) (u3 : Int) (u4 : Int) (u5 : Int) (u6 : Int) (u7 : Int) (k0 : Int) (τ : S0), (P u1 u2 u3 u4 u5 u6 u7 k0 τ ↔ (rg u1 → rg u2 → rg u3 → rg u4 → rg u5 → rg u6 → rg u7 → rg k0 → n_m τ → f_r [30, 31, 34, 35] [40, 41, 42, 43, 48, 49, 50] [] σ τ → ∀ (H : Heap) (locs : List Loc) (ls : Array Slot), KP g (MX g q lb τ) H → va_D A (MX g q lb τ) → va_S A s.heap H locs → lv_has ls 9 [(0, .ref (q 0)), (1, .int (I u1)), (2, .int (I u2)), (3, .int (I u3)), (4, .int (I u4)), (5, .int (I u5)), (6, .int (I u6)), (7, .int (I u7))] → W p l e ({ frames := 2, cells := 0, slots := 0, locals := 48 }) s m [.ref (q 0), .int (I n1), .int (I n2), .int (I n3)].toArray below meth c H locs 0 0 (MQ below (QV g A (p_V (MX g q lb) [30, 31, 34, 35] [40, 41, 42, 43, 48, 49, 50] [] σ Q)) [.ref (q 0), .int (I n1), .int (I n2), .int (I n3)].toArray s 0 0 A) (F0 m 117 ls [.int (I k0)]))) := ⟨_, fun _ _ _ _ _ _ _ _ _ => Iff.rfl⟩
  obtain ⟨P202, hP202⟩ : ∃ P : Int → Int → Int → Int → Int → Int → S0 → Prop, ∀ (u1 : Int) (u2 : Int) (u3 : Int) (u4 : Int) (u5 : Int) (u6 : Int) (τ : S0), (P u1 u2 u3 u4 u5 u6 τ ↔ (rg u1 → rg u2 → rg u3 → rg u4 → rg u5 → rg u6 → n_m τ → f_r [30, 31, 34, 35] [40, 41, 42, 43, 48, 49, 50] [] σ τ → ∀ (H : Heap) (locs : List Loc) (ls : Array Slot), KP g (MX g q lb τ) H → va_D A (MX g q lb τ) → va_S A s.heap H locs → lv_has ls 9 [(0, .ref (q 0)), (1, .int (I u1)), (2, .int (I u2)), (3, .int (I u3)), (4, .int (I u4)), (5, .int (I u5)), (6, .int (I u6))] → W p l e ({ frames := 2, cells := 0, slots := 0, locals := 48 }) s m [.ref (q 0), .int (I n1), .int (I n2), .int (I n3)].toArray below meth c H locs 0 0 (MQ below (QV g A (p_V (MX g q lb) [30, 31, 34, 35] [40, 41, 42, 43, 48, 49, 50] [] σ Q)) [.ref (q 0), .int (I n1), .int (I n2), .int (I n3)].toArray s 0 0 A) (F0 m 202 ls []))) := ⟨_, fun _ _ _ _ _ _ _ => Iff.rfl⟩
  obtain ⟨P294, hP294⟩ : ∃ P : Int → Int → Int → Int → Int → Int → S0 → Prop, ∀ (u1 : Int) (u2 : Int) (u3 : Int) (u4 : Int) (u5 : Int) (u6 : Int) (τ : S0), (P u1 u2 u3 u4 u5 u6 τ ↔ (rg u1 → rg u2 → rg u3 → rg u4 → rg u5 → rg u6 → n_m τ → f_r [30, 31, 34, 35] [40, 41, 42, 43, 48, 49, 50] [] σ τ → ∀ (H : Heap) (locs : List Loc) (ls : Array Slot), KP g (MX g q lb τ) H → va_D A (MX g q lb τ) → va_S A s.heap H locs → lv_has ls 9 [(0, .ref (q 0)), (1, .int (I u1)), (2, .int (I u2)), (3, .int (I u3)), (4, .int (I u4)), (5, .int (I u5)), (6, .int (I u6))] → W p l e ({ frames := 2, cells := 0, slots := 0, locals := 48 }) s m [.ref (q 0), .int (I n1), .int (I n2), .int (I n3)].toArray below meth c H locs 0 0 (MQ below (QV g A (p_V (MX g q lb) [30, 31, 34, 35] [40, 41, 42, 43, 48, 49, 50] [] σ Q)) [.ref (q 0), .int (I n1), .int (I n2), .int (I n3)].toArray s 0 0 A) (F0 m 294 ls []))) := ⟨_, fun _ _ _ _ _ _ _ => Iff.rfl⟩
  obtain ⟨P350, hP350⟩ : ∃ P : Int → Int → Int → Int → S0 → Prop, ∀ (u1 : Int) (u2 : Int) (u4 : Int) (u5 : Int) (τ : S0), (P u1 u2 u4 u5 τ ↔ (rg u1 → rg u2 → rg u4 → rg u5 → n_m τ → f_r [30, 31, 34, 35] [40, 41, 42, 43, 48, 49, 50] [] σ τ → ∀ (H : Heap) (locs : List Loc) (ls : Array Slot), KP g (MX g q lb τ) H → va_D A (MX g q lb τ) → va_S A s.heap H locs → lv_has ls 9 [(0, .ref (q 0)), (1, .int (I u1)), (2, .int (I u2)), (4, .int (I u4)), (5, .int (I u5))] → W p l e ({ frames := 2, cells := 0, slots := 0, locals := 48 }) s m [.ref (q 0), .int (I n1), .int (I n2), .int (I n3)].toArray below meth c H locs 0 0 (MQ below (QV g A (p_V (MX g q lb) [30, 31, 34, 35] [40, 41, 42, 43, 48, 49, 50] [] σ Q)) [.ref (q 0), .int (I n1), .int (I n2), .int (I n3)].toArray s 0 0 A) (F0 m 350 ls []))) := ⟨_, fun _ _ _ _ _ => Iff.rfl⟩
  obtain ⟨P375, hP375⟩ : ∃ P : Int → Int → Int → S0 → Prop, ∀ (u2 : Int) (u5 : Int) (k1 : Int) (τ : S0), (P u2 u5 k1 τ ↔ (rg u2 → rg u5 → rg k1 → n_m τ → f_r [30, 31, 34, 35] [40, 41, 42, 43, 48, 49, 50] [] σ τ → ∀ (H : Heap) (locs : List Loc) (ls : Array Slot), KP g (MX g q lb τ) H → va_D A (MX g q lb τ) → va_S A s.heap H locs → lv_has ls 9 [(0, .ref (q 0)), (2, .int (I u2)), (5, .int (I u5))] → W p l e ({ frames := 2, cells := 0, slots := 0, locals := 48 }) s m [.ref (q 0), .int (I n1), .int (I n2), .int (I n3)].toArray below meth c H locs 0 0 (MQ below (QV g A (p_V (MX g q lb) [30, 31, 34, 35] [40, 41, 42, 43, 48, 49, 50] [] σ Q)) [.ref (q 0), .int (I n1), .int (I n2), .int (I n3)].toArray s 0 0 A) (F0 m 375 ls [.int (I k1), .ref (q 0)]))) := ⟨_, fun _ _ _ _ => Iff.rfl⟩
  refine (fun hw => ?_) (hw P36 P117 P202 P294 P350 P375 ?_ ?_ ?_ ?_ ?_ ?_)
  ·
    refine lv_aload_n hx hb dX13_applyStep_0 rfl (lv_at hl 0 rfl) ?_
    refine gfX13_hypSize hx hb hts hK hP hown (hts _ tw_2032) dX13_applyStep_1 ?_
    refine lv_iload_n hx hb dX13_applyStep_4 rfl (lv_at hl 1 rfl) ?_
    obtain ⟨c1, hw⟩ := hw
    refine ldMX13_hypSize hx hb hK hP hN c1 dX13_applyStep_5 (fun x2 r_x2 e_x2 => ?_)
    replace hw := hw x2 r_x2 e_x2
    refine lv_istore (lv' := [(4, .int (I x2)), (0, .ref (q 0)), (1, .int (I n1)), (2, .int (I n2)), (3, .int (I n3))]) hx hb dX13_applyStep_6 hl (by decide) rfl (fun ls hl => ?_)
    refine lv_aload_n hx hb dX13_applyStep_8 rfl (lv_at hl 1 rfl) ?_
    refine gfX13_piled hx hb hts hK hP hown (hts _ tw_2081) (x := σ.1 30) rfl dX13_applyStep_9 ?_
    refine lv_iload hx hb dX13_applyStep_12 (lv_at hl 0 rfl) ?_
    refine bi_icmp_ge (tgt := 24) hx hb (hB.1 30) r_x2 dX13_applyStep_14 (by decide) (fun c3 => ?_) (fun c3 => ?_)
    ·
      replace hw := hw.1 c3
      refine lv_aload_n hx hb dX13_applyStep_24 rfl (lv_at hl 1 rfl) ?_
      refine gfX13_piled hx hb hts hK hP hown (hts _ tw_2081) (x := σ.1 30) rfl dX13_applyStep_25 ?_
      refine lv_iload hx hb dX13_applyStep_28 (lv_at hl 0 rfl) ?_
      refine bi_isub hx hb dX13_applyStep_30 ?_
      refine lv_istore (lv' := [(5, .int (I (σ.1 30 - x2))), (4, .int (I x2)), (0, .ref (q 0)), (1, .int (I n1)), (2, .int (I n2)), (3, .int (I n3))]) hx hb dX13_applyStep_31 hl (by decide) rfl (fun ls hl => ?_)
      refine lv_iconst (v := I 0) hx hb dX13_applyStep_33 rfl ?_
      refine lv_istore (lv' := [(6, .int (I 0)), (5, .int (I (σ.1 30 - x2))), (4, .int (I x2)), (0, .ref (q 0)), (1, .int (I n1)), (2, .int (I n2)), (3, .int (I n3))]) hx hb dX13_applyStep_34 hl (by decide) rfl (fun ls hl => ?_)
      obtain ⟨c4, hw⟩ := hw
      exact (hP36 _ _ _ _ _ _ _).mp hw r_n1 r_n2 r_n3 r_x2 c4 (by decide) hN hF H locs ls hP hD hS (lv_sub hl [3, 4, 5, 6, 2, 1, 0] rfl)
    ·
      replace hw := hw.2 c3
      refine lv_aload_n hx hb dX13_applyStep_17 rfl (lv_at hl 1 rfl) ?_
      refine lv_bipush (v := I 15) hx hb dX13_applyStep_18 (by decide) ?_
      obtain ⟨Q5, hc, hw⟩ := hw
      refine wc_V (X := MX g q lb) (va_runV (As := [.int (I 15)]) (rest := []) ⟨hx, hb, hml, hown, hts⟩ (L_X13_wrong l g q lb hlb (by decide) hN hc H.size) (cwV 1 hts (TB_V tw_2718 tw_2720 ts_143 tw_15 co_X13_wrong) rfl rfl rfl (by decide +kernel) ⟨Nat.le_of_ble_eq_true rfl, Nat.le_of_ble_eq_true rfl⟩) (preV (q0 := 0) (ci := 13) rfl xT_bl hP hK hNb hD rfl rfl xT_at) rfl rfl hl.1 rfl (lv_room (Nat.le_of_ble_eq_true rfl)) dX13_applyStep_20 ⟨Nat.le_of_ble_eq_true rfl, Nat.le_of_ble_eq_true rfl⟩) hP hD hS hA (fun τ7 H locs hN hf hq hP hD hS => ?_)
      replace hw := hw τ7 hN hf hq
      have hF : f_r [30, 31, 34, 35] [40, 41, 42, 43, 48, 49, 50] [] σ τ7 := f_t hF hf (by decide) (by decide) (by decide)
      have hB := hN
      exact xrv hx hb hr hlk hP hK hD hS ⟨_, hN, hF, rfl, hw⟩ (Nat.le_of_ble_eq_true rfl) (Nat.le_of_ble_eq_true rfl) dX13_applyStep_23
  ·
    intro u1 u2 u3 u4 u5 u6 τ hw
    refine (hP36 _ _ _ _ _ _ _).mpr ?_
    intro r_u1 r_u2 r_u3 r_u4 r_u5 r_u6 hN hF H locs ls hP hD hS hl
    have hB := hN
    refine lv_iload hx hb dX13_applyStep_36 (lv_at hl 6 rfl) ?_
    refine lv_iload hx hb dX13_applyStep_38 (lv_at hl 4 rfl) ?_
    refine bi_icmp_ge (tgt := 199) hx hb r_u6 r_u4 dX13_applyStep_40 (by decide) (fun c8 => ?_) (fun c8 => ?_)
    ·
      replace hw := hw.1 c8
      refine lv_iconst (v := I 0) hx hb dX13_applyStep_199 rfl ?_
      refine lv_istore (lv' := [(6, .int (I 0)), (0, .ref (q 0)), (1, .int (I u1)), (2, .int (I u2)), (3, .int (I u3)), (4, .int (I u4)), (5, .int (I u5))]) hx hb dX13_applyStep_200 hl (by decide) rfl (fun ls hl => ?_)
      exact (hP202 _ _ _ _ _ _ _).mp hw r_u1 r_u2 r_u3 r_u4 r_u5 (by decide) hN hF H locs ls hP hD hS (lv_sub hl [1, 2, 3, 4, 5, 6, 0] rfl)
    ·
      replace hw := hw.2 c8
      refine lv_aload_n hx hb dX13_applyStep_43 rfl (lv_at hl 0 rfl) ?_
      refine gfX13_hyps hx hb hts hK hP hown (hts _ tw_2033) dX13_applyStep_44 ?_
      refine lv_aload_n hx hb dX13_applyStep_47 rfl (lv_at hl 0 rfl) ?_
      refine gfX13_hypAt hx hb hts hK hP hown (hts _ tw_2031) dX13_applyStep_48 ?_
      refine lv_iload_n hx hb dX13_applyStep_51 rfl (lv_at hl 1 rfl) ?_
      obtain ⟨c9, hw⟩ := hw
      refine ldMX13_hypAt hx hb hK hP hN c9 dX13_applyStep_52 (fun x10 r_x10 e_x10 => ?_)
      replace hw := hw x10 r_x10 e_x10
      refine lv_iload hx hb dX13_applyStep_53 (lv_at hl 6 rfl) ?_
      refine bi_iadd hx hb dX13_applyStep_55 ?_
      obtain ⟨c11, hw⟩ := hw
      refine ldMX13_hyps hx hb hK hP hN c11 dX13_applyStep_56 (fun x12 r_x12 e_x12 => ?_)
      replace hw := hw x12 r_x12 e_x12
      refine lv_istore (lv' := [(7, .int (I x12)), (0, .ref (q 0)), (1, .int (I u1)), (2, .int (I u2)), (3, .int (I u3)), (4, .int (I u4)), (5, .int (I u5)), (6, .int (I u6))]) hx hb dX13_applyStep_57 hl (by decide) rfl (fun ls hl => ?_)
      refine lv_aload_n hx hb dX13_applyStep_59 rfl (lv_at hl 1 rfl) ?_
      refine gfX13_kindOf hx hb hts hK hP hown (hts _ tw_2025) dX13_applyStep_60 ?_
      refine lv_iload hx hb dX13_applyStep_63 (lv_at hl 0 rfl) ?_
      obtain ⟨c13, hw⟩ := hw
      refine ldMX13_kindOf hx hb hK hP hN c13 dX13_applyStep_65 (fun x14 r_x14 e_x14 => ?_)
      replace hw := hw x14 r_x14 e_x14
      refine bi_if_ne (tgt := 193) hx hb r_x14 dX13_applyStep_66 (by decide) (fun c15 => ?_) (fun c15 => ?_)
      ·
        replace hw := hw.1 c15
        refine lv_iinc (v := I (u6 + 1)) (lv' := [(6, .int (I (u6 + 1))), (7, .int (I x12)), (0, .ref (q 0)), (1, .int (I u1)), (2, .int (I u2)), (3, .int (I u3)), (4, .int (I u4)), (5, .int (I u5))]) hx hb dX13_applyStep_193 hl (k := 7) rfl (I_add _ _) (by decide) rfl (fun ls hl => ?_)
        refine lv_goto (tgt := 36) hx hb dX13_applyStep_196 (by decide) ?_
        obtain ⟨c16, hw⟩ := hw
        exact (hP36 _ _ _ _ _ _ _).mp hw r_u1 r_u2 r_u3 r_u4 r_u5 c16 hN hF H locs ls hP hD hS (lv_sub hl [2, 3, 4, 5, 6, 7, 0] rfl)
      ·
        replace hw := hw.2 c15
        refine lv_aload_n hx hb dX13_applyStep_69 rfl (lv_at hl 1 rfl) ?_
        refine gfX13_pileSize hx hb hts hK hP hown (hts _ tw_2079) dX13_applyStep_70 ?_
        refine lv_iload hx hb dX13_applyStep_73 (lv_at hl 6 rfl) ?_
        refine lv_iload hx hb dX13_applyStep_75 (lv_at hl 7 rfl) ?_
        refine bi_iadd hx hb dX13_applyStep_77 ?_
        obtain ⟨c17, hw⟩ := hw
        refine ldMX13_pileSize hx hb hK hP hN c17 dX13_applyStep_78 (fun x18 r_x18 e_x18 => ?_)
        replace hw := hw x18 r_x18 e_x18
        refine bi_if_le (tgt := 116) hx hb r_x18 dX13_applyStep_79 (by decide) (fun c19 => ?_) (fun c19 => ?_)
        ·
          replace hw := hw.1 c19
          refine lv_iconst (v := I 0) hx hb dX13_applyStep_116 rfl ?_
          exact (hP117 _ _ _ _ _ _ _ _ _).mp hw r_u1 r_u2 r_u3 r_u4 r_u5 r_u6 r_x12 (by decide) hN hF H locs ls hP hD hS (lv_sub hl [1, 2, 3, 4, 5, 6, 7, 0] rfl)
        ·
          replace hw := hw.2 c19
          refine lv_aload_n hx hb dX13_applyStep_82 rfl (lv_at hl 1 rfl) ?_
          refine gfX13_pileSymbols hx hb hts hK hP hown (hts _ tw_2082) dX13_applyStep_83 ?_
          refine lv_aload_n hx hb dX13_applyStep_86 rfl (lv_at hl 1 rfl) ?_
          refine gfX13_pileAt hx hb hts hK hP hown (hts _ tw_2078) dX13_applyStep_87 ?_
          refine lv_iload hx hb dX13_applyStep_90 (lv_at hl 6 rfl) ?_
          refine lv_iload hx hb dX13_applyStep_92 (lv_at hl 7 rfl) ?_
          refine bi_iadd hx hb dX13_applyStep_94 ?_
          refine ldMX13_pileAt hx hb hK hP hN c17 dX13_applyStep_95 (fun x20 r_x20 e_x20 => ?_)
          replace hw := hw x20 r_x20 e_x20
          obtain ⟨c21, hw⟩ := hw
          refine ldMX13_pileSymbols hx hb hK hP hN c21 dX13_applyStep_96 (fun x22 r_x22 e_x22 => ?_)
          replace hw := hw x22 r_x22 e_x22
          refine lv_aload_n hx hb dX13_applyStep_97 rfl (lv_at hl 1 rfl) ?_
          refine gfX13_texts hx hb hts hK hP hown (hts _ tw_2028) dX13_applyStep_98 ?_
          refine lv_aload_n hx hb dX13_applyStep_101 rfl (lv_at hl 1 rfl) ?_
          refine gfX13_textAt hx hb hts hK hP hown (hts _ tw_2026) dX13_applyStep_102 ?_
          refine lv_iload hx hb dX13_applyStep_105 (lv_at hl 0 rfl) ?_
          refine ldMX13_textAt hx hb hK hP hN c13 dX13_applyStep_107 (fun x23 r_x23 e_x23 => ?_)
          replace hw := hw x23 r_x23 e_x23
          obtain ⟨c24, hw⟩ := hw
          refine ldMX13_texts hx hb hK hP hN c24 dX13_applyStep_108 (fun x25 r_x25 e_x25 => ?_)
          replace hw := hw x25 r_x25 e_x25
          refine bi_icmp_ne (tgt := 116) hx hb r_x22 r_x25 dX13_applyStep_109 (by decide) (fun c26 => ?_) (fun c26 => ?_)
          ·
            replace hw := hw.1 c26
            refine lv_iconst (v := I 0) hx hb dX13_applyStep_116 rfl ?_
            exact (hP117 _ _ _ _ _ _ _ _ _).mp hw r_u1 r_u2 r_u3 r_u4 r_u5 r_u6 r_x12 (by decide) hN hF H locs ls hP hD hS (lv_sub hl [1, 2, 3, 4, 5, 6, 7, 0] rfl)
          ·
            replace hw := hw.2 c26
            refine lv_iconst (v := I 1) hx hb dX13_applyStep_112 rfl ?_
            refine lv_goto (tgt := 117) hx hb dX13_applyStep_113 (by decide) ?_
            exact (hP117 _ _ _ _ _ _ _ _ _).mp hw r_u1 r_u2 r_u3 r_u4 r_u5 r_u6 r_x12 (by decide) hN hF H locs ls hP hD hS (lv_sub hl [1, 2, 3, 4, 5, 6, 7, 0] rfl)
  ·
    intro u1 u2 u3 u4 u5 u6 u7 k0 τ hw
    refine (hP117 _ _ _ _ _ _ _ _ _).mpr ?_
    intro r_u1 r_u2 r_u3 r_u4 r_u5 r_u6 r_u7 r_k0 hN hF H locs ls hP hD hS hl
    have hB := hN
    refine lv_istore (lv' := [(8, .int (I k0)), (0, .ref (q 0)), (1, .int (I u1)), (2, .int (I u2)), (3, .int (I u3)), (4, .int (I u4)), (5, .int (I u5)), (6, .int (I u6)), (7, .int (I u7))]) hx hb dX13_applyStep_117 hl (by decide) rfl (fun ls hl => ?_)
    refine lv_iload hx hb dX13_applyStep_119 (lv_at hl 0 rfl) ?_
    refine bi_if_ne (tgt := 131) hx hb r_k0 dX13_applyStep_121 (by decide) (fun c55 => ?_) (fun c55 => ?_)
    ·
      replace hw := hw.1 c55
      refine lv_aload_n hx hb dX13_applyStep_131 rfl (lv_at hl 1 rfl) ?_
      refine gfX13_becomesAt hx hb hts hK hP hown (hts _ tw_2090) dX13_applyStep_132 ?_
      refine lv_aload_n hx hb dX13_applyStep_135 rfl (lv_at hl 1 rfl) ?_
      refine gfX13_texts hx hb hts hK hP hown (hts _ tw_2028) dX13_applyStep_136 ?_
      refine lv_aload_n hx hb dX13_applyStep_139 rfl (lv_at hl 1 rfl) ?_
      refine gfX13_textAt hx hb hts hK hP hown (hts _ tw_2026) dX13_applyStep_140 ?_
      refine lv_iload hx hb dX13_applyStep_143 (lv_at hl 8 rfl) ?_
      obtain ⟨c56, hw⟩ := hw
      refine ldMX13_textAt hx hb hK hP hN c56 dX13_applyStep_145 (fun x57 r_x57 e_x57 => ?_)
      replace hw := hw x57 r_x57 e_x57
      refine lv_iconst (v := I 1) hx hb dX13_applyStep_146 rfl ?_
      refine bi_iadd hx hb dX13_applyStep_147 ?_
      obtain ⟨c58, hw⟩ := hw
      refine ldMX13_texts hx hb hK hP hN c58 dX13_applyStep_148 (fun x59 r_x59 e_x59 => ?_)
      replace hw := hw x59 r_x59 e_x59
      refine lv_aload_n hx hb dX13_applyStep_149 rfl (lv_at hl 1 rfl) ?_
      refine gfX13_pileAt hx hb hts hK hP hown (hts _ tw_2078) dX13_applyStep_150 ?_
      refine lv_iload hx hb dX13_applyStep_153 (lv_at hl 6 rfl) ?_
      refine lv_iload hx hb dX13_applyStep_155 (lv_at hl 7 rfl) ?_
      refine bi_iadd hx hb dX13_applyStep_157 ?_
      obtain ⟨c60, hw⟩ := hw
      refine ldMX13_pileAt hx hb hK hP hN c60 dX13_applyStep_158 (fun x61 r_x61 e_x61 => ?_)
      replace hw := hw x61 r_x61 e_x61
      refine lv_iconst (v := I 1) hx hb dX13_applyStep_159 rfl ?_
      refine bi_iadd hx hb dX13_applyStep_160 ?_
      obtain ⟨c62, hw⟩ := hw
      obtain ⟨c63, hw⟩ := hw
      refine sdMX13_becomesAt hx hb hK hP hD hS c62 dX13_applyStep_161 (fun H locs hP hD hS => ?_)
      have hN : n_m (s_a τ 48 x59 (x61 + 1)) := n_a (k := 48) (j := x59) hN (c63 : rg (x61 + 1))
      have hF : f_r [30, 31, 34, 35] [40, 41, 42, 43, 48, 49, 50] [] σ (s_a τ 48 x59 (x61 + 1)) := f_a hF (by decide)
      refine lv_aload_n hx hb dX13_applyStep_162 rfl (lv_at hl 1 rfl) ?_
      refine gfX13_becomesSize hx hb hts hK hP hown (hts _ tw_2091) dX13_applyStep_163 ?_
      refine lv_aload_n hx hb dX13_applyStep_166 rfl (lv_at hl 1 rfl) ?_
      refine gfX13_texts hx hb hts hK hP hown (hts _ tw_2028) dX13_applyStep_167 ?_
      refine lv_aload_n hx hb dX13_applyStep_170 rfl (lv_at hl 1 rfl) ?_
      refine gfX13_textAt hx hb hts hK hP hown (hts _ tw_2026) dX13_applyStep_171 ?_
      refine lv_iload hx hb dX13_applyStep_174 (lv_at hl 8 rfl) ?_
      refine ldMX13_textAt hx hb hK hP hN c56 dX13_applyStep_176 (fun x64 r_x64 e_x64 => ?_)
      replace hw := hw x64 r_x64 e_x64
      refine lv_iconst (v := I 1) hx hb dX13_applyStep_177 rfl ?_
      refine bi_iadd hx hb dX13_applyStep_178 ?_
      obtain ⟨c65, hw⟩ := hw
      refine ldMX13_texts hx hb hK hP hN c65 dX13_applyStep_179 (fun x66 r_x66 e_x66 => ?_)
      replace hw := hw x66 r_x66 e_x66
      refine lv_aload_n hx hb dX13_applyStep_180 rfl (lv_at hl 1 rfl) ?_
      refine gfX13_pileSize hx hb hts hK hP hown (hts _ tw_2079) dX13_applyStep_181 ?_
      refine lv_iload hx hb dX13_applyStep_184 (lv_at hl 6 rfl) ?_
      refine lv_iload hx hb dX13_applyStep_186 (lv_at hl 7 rfl) ?_
      refine bi_iadd hx hb dX13_applyStep_188 ?_
      refine ldMX13_pileSize hx hb hK hP hN c60 dX13_applyStep_189 (fun x67 r_x67 e_x67 => ?_)
      replace hw := hw x67 r_x67 e_x67
      refine lv_iconst (v := I 1) hx hb dX13_applyStep_190 rfl ?_
      refine bi_isub hx hb dX13_applyStep_191 ?_
      obtain ⟨c68, hw⟩ := hw
      obtain ⟨c69, hw⟩ := hw
      refine sdMX13_becomesSize hx hb hK hP hD hS c68 dX13_applyStep_192 (fun H locs hP hD hS => ?_)
      have hN : n_m (s_a (s_a τ 48 x59 (x61 + 1)) 49 x66 (x67 - 1)) := n_a (k := 49) (j := x66) hN (c69 : rg (x67 - 1))
      have hF : f_r [30, 31, 34, 35] [40, 41, 42, 43, 48, 49, 50] [] σ (s_a (s_a τ 48 x59 (x61 + 1)) 49 x66 (x67 - 1)) := f_a hF (by decide)
      refine lv_iinc (v := I (u6 + 1)) (lv' := [(6, .int (I (u6 + 1))), (8, .int (I k0)), (0, .ref (q 0)), (1, .int (I u1)), (2, .int (I u2)), (3, .int (I u3)), (4, .int (I u4)), (5, .int (I u5)), (7, .int (I u7))]) hx hb dX13_applyStep_193 hl (k := 7) rfl (I_add _ _) (by decide) rfl (fun ls hl => ?_)
      refine lv_goto (tgt := 36) hx hb dX13_applyStep_196 (by decide) ?_
      obtain ⟨c70, hw⟩ := hw
      exact (hP36 _ _ _ _ _ _ _).mp hw r_u1 r_u2 r_u3 r_u4 r_u5 c70 hN hF H locs ls hP hD hS (lv_sub hl [2, 3, 4, 5, 6, 7, 0] rfl)
    ·
      replace hw := hw.2 c55
      refine lv_aload_n hx hb dX13_applyStep_124 rfl (lv_at hl 1 rfl) ?_
      refine lv_bipush (v := I 16) hx hb dX13_applyStep_125 (by decide) ?_
      obtain ⟨Q71, hc, hw⟩ := hw
      refine wc_V (X := MX g q lb) (va_runV (As := [.int (I 16)]) (rest := []) ⟨hx, hb, hml, hown, hts⟩ (L_X13_wrong l g q lb hlb (by decide) hN hc H.size) (cwV 1 hts (TB_V tw_2718 tw_2720 ts_143 tw_15 co_X13_wrong) rfl rfl rfl (by decide +kernel) ⟨Nat.le_of_ble_eq_true rfl, Nat.le_of_ble_eq_true rfl⟩) (preV (q0 := 0) (ci := 13) rfl xT_bl hP hK hNb hD rfl rfl xT_at) rfl rfl hl.1 rfl (lv_room (Nat.le_of_ble_eq_true rfl)) dX13_applyStep_127 ⟨Nat.le_of_ble_eq_true rfl, Nat.le_of_ble_eq_true rfl⟩) hP hD hS hA (fun τ73 H locs hN hf hq hP hD hS => ?_)
      replace hw := hw τ73 hN hf hq
      have hF : f_r [30, 31, 34, 35] [40, 41, 42, 43, 48, 49, 50] [] σ τ73 := f_t hF hf (by decide) (by decide) (by decide)
      have hB := hN
      exact xrv hx hb hr hlk hP hK hD hS ⟨_, hN, hF, rfl, hw⟩ (Nat.le_of_ble_eq_true rfl) (Nat.le_of_ble_eq_true rfl) dX13_applyStep_130
  ·
    intro u1 u2 u3 u4 u5 u6 τ hw
    refine (hP202 _ _ _ _ _ _ _).mpr ?_
    intro r_u1 r_u2 r_u3 r_u4 r_u5 r_u6 hN hF H locs ls hP hD hS hl
    have hB := hN
    refine lv_iload hx hb dX13_applyStep_202 (lv_at hl 6 rfl) ?_
    refine lv_iload hx hb dX13_applyStep_204 (lv_at hl 4 rfl) ?_
    refine bi_icmp_ge (tgt := 286) hx hb r_u6 r_u4 dX13_applyStep_206 (by decide) (fun c27 => ?_) (fun c27 => ?_)
    ·
      replace hw := hw.1 c27
      refine lv_aload_n hx hb dX13_applyStep_286 rfl (lv_at hl 0 rfl) ?_
      refine gfX13_pairAt hx hb hts hK hP hown (hts _ tw_2035) dX13_applyStep_287 ?_
      refine lv_iload_n hx hb dX13_applyStep_290 rfl (lv_at hl 1 rfl) ?_
      obtain ⟨c28, hw⟩ := hw
      refine ldMX13_pairAt hx hb hK hP hN c28 dX13_applyStep_291 (fun x29 r_x29 e_x29 => ?_)
      replace hw := hw x29 r_x29 e_x29
      refine lv_istore (lv' := [(6, .int (I x29)), (0, .ref (q 0)), (1, .int (I u1)), (2, .int (I u2)), (3, .int (I u3)), (4, .int (I u4)), (5, .int (I u5))]) hx hb dX13_applyStep_292 hl (by decide) rfl (fun ls hl => ?_)
      exact (hP294 _ _ _ _ _ _ _).mp hw r_u1 r_u2 r_u3 r_u4 r_u5 r_x29 hN hF H locs ls hP hD hS (lv_sub hl [1, 2, 3, 4, 5, 6, 0] rfl)
    ·
      replace hw := hw.2 c27
      refine lv_iload_n hx hb dX13_applyStep_209 rfl (lv_at hl 3 rfl) ?_
      refine bi_if_eq (tgt := 286) hx hb r_u3 dX13_applyStep_210 (by decide) (fun c30 => ?_) (fun c30 => ?_)
      ·
        replace hw := hw.1 c30
        refine lv_aload_n hx hb dX13_applyStep_286 rfl (lv_at hl 0 rfl) ?_
        refine gfX13_pairAt hx hb hts hK hP hown (hts _ tw_2035) dX13_applyStep_287 ?_
        refine lv_iload_n hx hb dX13_applyStep_290 rfl (lv_at hl 1 rfl) ?_
        obtain ⟨c31, hw⟩ := hw
        refine ldMX13_pairAt hx hb hK hP hN c31 dX13_applyStep_291 (fun x32 r_x32 e_x32 => ?_)
        replace hw := hw x32 r_x32 e_x32
        refine lv_istore (lv' := [(6, .int (I x32)), (0, .ref (q 0)), (1, .int (I u1)), (2, .int (I u2)), (3, .int (I u3)), (4, .int (I u4)), (5, .int (I u5))]) hx hb dX13_applyStep_292 hl (by decide) rfl (fun ls hl => ?_)
        exact (hP294 _ _ _ _ _ _ _).mp hw r_u1 r_u2 r_u3 r_u4 r_u5 r_x32 hN hF H locs ls hP hD hS (lv_sub hl [1, 2, 3, 4, 5, 6, 0] rfl)
      ·
        replace hw := hw.2 c30
        refine lv_aload_n hx hb dX13_applyStep_213 rfl (lv_at hl 0 rfl) ?_
        refine gfX13_hyps hx hb hts hK hP hown (hts _ tw_2033) dX13_applyStep_214 ?_
        refine lv_aload_n hx hb dX13_applyStep_217 rfl (lv_at hl 0 rfl) ?_
        refine gfX13_hypAt hx hb hts hK hP hown (hts _ tw_2031) dX13_applyStep_218 ?_
        refine lv_iload_n hx hb dX13_applyStep_221 rfl (lv_at hl 1 rfl) ?_
        obtain ⟨c33, hw⟩ := hw
        refine ldMX13_hypAt hx hb hK hP hN c33 dX13_applyStep_222 (fun x34 r_x34 e_x34 => ?_)
        replace hw := hw x34 r_x34 e_x34
        refine lv_iload hx hb dX13_applyStep_223 (lv_at hl 6 rfl) ?_
        refine bi_iadd hx hb dX13_applyStep_225 ?_
        obtain ⟨c35, hw⟩ := hw
        refine ldMX13_hyps hx hb hK hP hN c35 dX13_applyStep_226 (fun x36 r_x36 e_x36 => ?_)
        replace hw := hw x36 r_x36 e_x36
        refine lv_istore (lv' := [(7, .int (I x36)), (0, .ref (q 0)), (1, .int (I u1)), (2, .int (I u2)), (3, .int (I u3)), (4, .int (I u4)), (5, .int (I u5)), (6, .int (I u6))]) hx hb dX13_applyStep_227 hl (by decide) rfl (fun ls hl => ?_)
        refine lv_aload_n hx hb dX13_applyStep_229 rfl (lv_at hl 1 rfl) ?_
        refine gfX13_kindOf hx hb hts hK hP hown (hts _ tw_2025) dX13_applyStep_230 ?_
        refine lv_iload hx hb dX13_applyStep_233 (lv_at hl 0 rfl) ?_
        obtain ⟨c37, hw⟩ := hw
        refine ldMX13_kindOf hx hb hK hP hN c37 dX13_applyStep_235 (fun x38 r_x38 e_x38 => ?_)
        replace hw := hw x38 r_x38 e_x38
        refine lv_iconst (v := I 1) hx hb dX13_applyStep_236 rfl ?_
        refine bi_icmp_ne (tgt := 280) hx hb r_x38 (by decide) dX13_applyStep_237 (by decide) (fun c39 => ?_) (fun c39 => ?_)
        ·
          replace hw := hw.1 c39
          refine lv_iinc (v := I (u6 + 1)) (lv' := [(6, .int (I (u6 + 1))), (7, .int (I x36)), (0, .ref (q 0)), (1, .int (I u1)), (2, .int (I u2)), (3, .int (I u3)), (4, .int (I u4)), (5, .int (I u5))]) hx hb dX13_applyStep_280 hl (k := 7) rfl (I_add _ _) (by decide) rfl (fun ls hl => ?_)
          refine lv_goto (tgt := 202) hx hb dX13_applyStep_283 (by decide) ?_
          obtain ⟨c40, hw⟩ := hw
          exact (hP202 _ _ _ _ _ _ _).mp hw r_u1 r_u2 r_u3 r_u4 r_u5 c40 hN hF H locs ls hP hD hS (lv_sub hl [2, 3, 4, 5, 6, 7, 0] rfl)
        ·
          replace hw := hw.2 c39
          refine lv_aload_n hx hb dX13_applyStep_240 rfl (lv_at hl 1 rfl) ?_
          refine lv_iload hx hb dX13_applyStep_241 (lv_at hl 0 rfl) ?_
          obtain ⟨Q41, hc, hw⟩ := hw
          refine wc_V (X := MX g q lb) (va_runV (As := [.int (I x36)]) (rest := []) ⟨hx, hb, hml, hown, hts⟩ (L_X13_replace l g q lb hlb r_x36 hN hc H.size) (cwV 1 hts (TB_V tw_2726 tw_2728 ts_145 tw_15 co_X13_replace) rfl rfl rfl (by decide +kernel) ⟨Nat.le_of_ble_eq_true rfl, Nat.le_of_ble_eq_true rfl⟩) (preV (q0 := 0) (ci := 13) rfl xT_bl hP hK hNb hD rfl rfl xT_at) rfl rfl hl.1 rfl (lv_room (Nat.le_of_ble_eq_true rfl)) dX13_applyStep_243 ⟨Nat.le_of_ble_eq_true rfl, Nat.le_of_ble_eq_true rfl⟩) hP hD hS hA (fun τ43 H locs hN hf hq hP hD hS => ?_)
          replace hw := hw τ43 hN hf hq
          have hF : f_r [30, 31, 34, 35] [40, 41, 42, 43, 48, 49, 50] [] σ τ43 := f_t hF hf (by decide) (by decide) (by decide)
          have hB := hN
          refine lv_aload_n hx hb dX13_applyStep_246 rfl (lv_at hl 1 rfl) ?_
          refine lv_aload_n hx hb dX13_applyStep_247 rfl (lv_at hl 1 rfl) ?_
          refine gfX13_pileAt hx hb hts hK hP hown (hts _ tw_2078) dX13_applyStep_248 ?_
          refine lv_iload hx hb dX13_applyStep_251 (lv_at hl 6 rfl) ?_
          refine lv_iload hx hb dX13_applyStep_253 (lv_at hl 7 rfl) ?_
          refine bi_iadd hx hb dX13_applyStep_255 ?_
          obtain ⟨c44, hw⟩ := hw
          refine ldMX13_pileAt hx hb hK hP hN c44 dX13_applyStep_256 (fun x45 r_x45 e_x45 => ?_)
          replace hw := hw x45 r_x45 e_x45
          refine lv_aload_n hx hb dX13_applyStep_257 rfl (lv_at hl 1 rfl) ?_
          refine gfX13_pileSize hx hb hts hK hP hown (hts _ tw_2079) dX13_applyStep_258 ?_
          refine lv_iload hx hb dX13_applyStep_261 (lv_at hl 6 rfl) ?_
          refine lv_iload hx hb dX13_applyStep_263 (lv_at hl 7 rfl) ?_
          refine bi_iadd hx hb dX13_applyStep_265 ?_
          refine ldMX13_pileSize hx hb hK hP hN c44 dX13_applyStep_266 (fun x46 r_x46 e_x46 => ?_)
          replace hw := hw x46 r_x46 e_x46
          obtain ⟨Q47, hc, hw⟩ := hw
          refine wc_i (X := MX g q lb) (va_runV (As := [.int (I x45), .int (I x46)]) (rest := []) ⟨hx, hb, hml, hown, hts⟩ (L_X13_isMade l g q lb hlb r_x45 r_x46 hN hc H.size) (cwV 2 hts (TB_V tw_2730 tw_2732 ts_146 tw_15 co_X13_isMade) rfl rfl rfl (by decide +kernel) ⟨Nat.le_of_ble_eq_true rfl, Nat.le_of_ble_eq_true rfl⟩) (preV (q0 := 0) (ci := 13) rfl xT_bl hP hK hNb hD rfl rfl xT_at) rfl rfl hl.1 rfl (lv_room (Nat.le_of_ble_eq_true rfl)) dX13_applyStep_267 ⟨Nat.le_of_ble_eq_true rfl, Nat.le_of_ble_eq_true rfl⟩) hP hD hS hA (fun x48 H locs r_x48 hq hP hD hS => ?_)
          replace hw := hw x48 r_x48 hq
          refine bi_if_ne (tgt := 280) hx hb r_x48 dX13_applyStep_270 (by decide) (fun c50 => ?_) (fun c50 => ?_)
          ·
            replace hw := hw.1 c50
            refine lv_iinc (v := I (u6 + 1)) (lv' := [(6, .int (I (u6 + 1))), (7, .int (I x36)), (0, .ref (q 0)), (1, .int (I u1)), (2, .int (I u2)), (3, .int (I u3)), (4, .int (I u4)), (5, .int (I u5))]) hx hb dX13_applyStep_280 hl (k := 7) rfl (I_add _ _) (by decide) rfl (fun ls hl => ?_)
            refine lv_goto (tgt := 202) hx hb dX13_applyStep_283 (by decide) ?_
            obtain ⟨c51, hw⟩ := hw
            exact (hP202 _ _ _ _ _ _ _).mp hw r_u1 r_u2 r_u3 r_u4 r_u5 c51 hN hF H locs ls hP hD hS (lv_sub hl [2, 3, 4, 5, 6, 7, 0] rfl)
          ·
            replace hw := hw.2 c50
            refine lv_aload_n hx hb dX13_applyStep_273 rfl (lv_at hl 1 rfl) ?_
            refine lv_bipush (v := I 16) hx hb dX13_applyStep_274 (by decide) ?_
            obtain ⟨Q52, hc, hw⟩ := hw
            refine wc_V (X := MX g q lb) (va_runV (As := [.int (I 16)]) (rest := []) ⟨hx, hb, hml, hown, hts⟩ (L_X13_wrong l g q lb hlb (by decide) hN hc H.size) (cwV 1 hts (TB_V tw_2718 tw_2720 ts_143 tw_15 co_X13_wrong) rfl rfl rfl (by decide +kernel) ⟨Nat.le_of_ble_eq_true rfl, Nat.le_of_ble_eq_true rfl⟩) (preV (q0 := 0) (ci := 13) rfl xT_bl hP hK hNb hD rfl rfl xT_at) rfl rfl hl.1 rfl (lv_room (Nat.le_of_ble_eq_true rfl)) dX13_applyStep_276 ⟨Nat.le_of_ble_eq_true rfl, Nat.le_of_ble_eq_true rfl⟩) hP hD hS hA (fun τ54 H locs hN hf hq hP hD hS => ?_)
            replace hw := hw τ54 hN hf hq
            have hF : f_r [30, 31, 34, 35] [40, 41, 42, 43, 48, 49, 50] [] σ τ54 := f_t hF hf (by decide) (by decide) (by decide)
            have hB := hN
            exact xrv hx hb hr hlk hP hK hD hS ⟨_, hN, hF, rfl, hw⟩ (Nat.le_of_ble_eq_true rfl) (Nat.le_of_ble_eq_true rfl) dX13_applyStep_279
  ·
    intro u1 u2 u3 u4 u5 u6 τ hw
    refine (hP294 _ _ _ _ _ _ _).mpr ?_
    intro r_u1 r_u2 r_u3 r_u4 r_u5 r_u6 hN hF H locs ls hP hD hS hl
    have hB := hN
    refine lv_iload hx hb dX13_applyStep_294 (lv_at hl 6 rfl) ?_
    refine lv_aload_n hx hb dX13_applyStep_296 rfl (lv_at hl 0 rfl) ?_
    refine gfX13_pairAt hx hb hts hK hP hown (hts _ tw_2035) dX13_applyStep_297 ?_
    refine lv_iload_n hx hb dX13_applyStep_300 rfl (lv_at hl 1 rfl) ?_
    obtain ⟨c74, hw⟩ := hw
    refine ldMX13_pairAt hx hb hK hP hN c74 dX13_applyStep_301 (fun x75 r_x75 e_x75 => ?_)
    replace hw := hw x75 r_x75 e_x75
    refine lv_aload_n hx hb dX13_applyStep_302 rfl (lv_at hl 0 rfl) ?_
    refine gfX13_pairSize hx hb hts hK hP hown (hts _ tw_2036) dX13_applyStep_303 ?_
    refine lv_iload_n hx hb dX13_applyStep_306 rfl (lv_at hl 1 rfl) ?_
    refine ldMX13_pairSize hx hb hK hP hN c74 dX13_applyStep_307 (fun x76 r_x76 e_x76 => ?_)
    replace hw := hw x76 r_x76 e_x76
    refine bi_iadd hx hb dX13_applyStep_308 ?_
    obtain ⟨c77, hw⟩ := hw
    refine bi_icmp_ge (tgt := 350) hx hb r_u6 c77 dX13_applyStep_309 (by decide) (fun c78 => ?_) (fun c78 => ?_)
    ·
      replace hw := hw.1 c78
      exact (hP350 _ _ _ _ _).mp hw r_u1 r_u2 r_u4 r_u5 hN hF H locs ls hP hD hS (lv_sub hl [0, 1, 2, 4, 5] rfl)
    ·
      replace hw := hw.2 c78
      refine lv_iload_n hx hb dX13_applyStep_312 rfl (lv_at hl 3 rfl) ?_
      refine bi_if_eq (tgt := 350) hx hb r_u3 dX13_applyStep_313 (by decide) (fun c79 => ?_) (fun c79 => ?_)
      ·
        replace hw := hw.1 c79
        exact (hP350 _ _ _ _ _).mp hw r_u1 r_u2 r_u4 r_u5 hN hF H locs ls hP hD hS (lv_sub hl [0, 1, 2, 4, 5] rfl)
      ·
        replace hw := hw.2 c79
        refine lv_aload_n hx hb dX13_applyStep_316 rfl (lv_at hl 0 rfl) ?_
        refine lv_aload_n hx hb dX13_applyStep_317 rfl (lv_at hl 0 rfl) ?_
        refine gfX13_pairA hx hb hts hK hP hown (hts _ tw_2037) dX13_applyStep_318 ?_
        refine lv_iload hx hb dX13_applyStep_321 (lv_at hl 6 rfl) ?_
        obtain ⟨c80, hw⟩ := hw
        refine ldMX13_pairA hx hb hK hP hN c80 dX13_applyStep_323 (fun x81 r_x81 e_x81 => ?_)
        replace hw := hw x81 r_x81 e_x81
        refine lv_aload_n hx hb dX13_applyStep_324 rfl (lv_at hl 0 rfl) ?_
        refine gfX13_pairB hx hb hts hK hP hown (hts _ tw_2038) dX13_applyStep_325 ?_
        refine lv_iload hx hb dX13_applyStep_328 (lv_at hl 6 rfl) ?_
        refine ldMX13_pairB hx hb hK hP hN c80 dX13_applyStep_330 (fun x82 r_x82 e_x82 => ?_)
        replace hw := hw x82 r_x82 e_x82
        obtain ⟨Q83, hc, hw⟩ := hw
        refine wc_i (X := MX g q lb) (va_runV (As := [.int (I x81), .int (I x82)]) (rest := []) ⟨hx, hb, hml, hown, hts⟩ (L_X13_areKept l g q lb hlb r_x81 r_x82 hN hc H.size) (cwV 2 hts (TB_V tw_2734 tw_2736 ts_147 tw_15 co_X13_areKept) rfl rfl rfl (by decide +kernel) ⟨Nat.le_of_ble_eq_true rfl, Nat.le_of_ble_eq_true rfl⟩) (preV (q0 := 0) (ci := 13) rfl xT_bl hP hK hNb hD rfl rfl xT_at) rfl rfl hl.1 rfl (lv_room (Nat.le_of_ble_eq_true rfl)) dX13_applyStep_331 ⟨Nat.le_of_ble_eq_true rfl, Nat.le_of_ble_eq_true rfl⟩) hP hD hS hA (fun x84 H locs r_x84 hq hP hD hS => ?_)
        replace hw := hw x84 r_x84 hq
        refine bi_if_ne (tgt := 344) hx hb r_x84 dX13_applyStep_334 (by decide) (fun c86 => ?_) (fun c86 => ?_)
        ·
          replace hw := hw.1 c86
          refine lv_iinc (v := I (u6 + 1)) (lv' := [(6, .int (I (u6 + 1))), (0, .ref (q 0)), (1, .int (I u1)), (2, .int (I u2)), (3, .int (I u3)), (4, .int (I u4)), (5, .int (I u5))]) hx hb dX13_applyStep_344 hl (k := 6) rfl (I_add _ _) (by decide) rfl (fun ls hl => ?_)
          refine lv_goto (tgt := 294) hx hb dX13_applyStep_347 (by decide) ?_
          obtain ⟨c87, hw⟩ := hw
          exact (hP294 _ _ _ _ _ _ _).mp hw r_u1 r_u2 r_u3 r_u4 r_u5 c87 hN hF H locs ls hP hD hS (lv_sub hl [1, 2, 3, 4, 5, 6, 0] rfl)
        ·
          replace hw := hw.2 c86
          refine lv_aload_n hx hb dX13_applyStep_337 rfl (lv_at hl 0 rfl) ?_
          refine lv_bipush (v := I 17) hx hb dX13_applyStep_338 (by decide) ?_
          obtain ⟨Q88, hc, hw⟩ := hw
          refine wc_V (X := MX g q lb) (va_runV (As := [.int (I 17)]) (rest := []) ⟨hx, hb, hml, hown, hts⟩ (L_X13_wrong l g q lb hlb (by decide) hN hc H.size) (cwV 1 hts (TB_V tw_2718 tw_2720 ts_143 tw_15 co_X13_wrong) rfl rfl rfl (by decide +kernel) ⟨Nat.le_of_ble_eq_true rfl, Nat.le_of_ble_eq_true rfl⟩) (preV (q0 := 0) (ci := 13) rfl xT_bl hP hK hNb hD rfl rfl xT_at) rfl rfl hl.1 rfl (lv_room (Nat.le_of_ble_eq_true rfl)) dX13_applyStep_340 ⟨Nat.le_of_ble_eq_true rfl, Nat.le_of_ble_eq_true rfl⟩) hP hD hS hA (fun τ90 H locs hN hf hq hP hD hS => ?_)
          replace hw := hw τ90 hN hf hq
          have hF : f_r [30, 31, 34, 35] [40, 41, 42, 43, 48, 49, 50] [] σ τ90 := f_t hF hf (by decide) (by decide) (by decide)
          have hB := hN
          exact xrv hx hb hr hlk hP hK hD hS ⟨_, hN, hF, rfl, hw⟩ (Nat.le_of_ble_eq_true rfl) (Nat.le_of_ble_eq_true rfl) dX13_applyStep_343
  ·
    intro u1 u2 u4 u5 τ hw
    refine (hP350 _ _ _ _ _).mpr ?_
    intro r_u1 r_u2 r_u4 r_u5 hN hF H locs ls hP hD hS hl
    have hB := hN
    refine lv_aload_n hx hb dX13_applyStep_350 rfl (lv_at hl 0 rfl) ?_
    refine lv_iload_n hx hb dX13_applyStep_351 rfl (lv_at hl 1 rfl) ?_
    obtain ⟨Q91, hc, hw⟩ := hw
    refine wc_V (X := MX g q lb) (va_runV (As := [.int (I u1)]) (rest := []) ⟨hx, hb, hml, hown, hts⟩ (L_X13_replace l g q lb hlb r_u1 hN hc H.size) (cwV 1 hts (TB_V tw_2726 tw_2728 ts_145 tw_15 co_X13_replace) rfl rfl rfl (by decide +kernel) ⟨Nat.le_of_ble_eq_true rfl, Nat.le_of_ble_eq_true rfl⟩) (preV (q0 := 0) (ci := 13) rfl xT_bl hP hK hNb hD rfl rfl xT_at) rfl rfl hl.1 rfl (lv_room (Nat.le_of_ble_eq_true rfl)) dX13_applyStep_352 ⟨Nat.le_of_ble_eq_true rfl, Nat.le_of_ble_eq_true rfl⟩) hP hD hS hA (fun τ93 H locs hN hf hq hP hD hS => ?_)
    replace hw := hw τ93 hN hf hq
    have hF : f_r [30, 31, 34, 35] [40, 41, 42, 43, 48, 49, 50] [] σ τ93 := f_t hF hf (by decide) (by decide) (by decide)
    have hB := hN
    refine lv_aload_n hx hb dX13_applyStep_355 rfl (lv_at hl 0 rfl) ?_
    refine lv_iload hx hb dX13_applyStep_356 (lv_at hl 3 rfl) ?_
    refine bi_if_ne (tgt := 368) hx hb r_u4 dX13_applyStep_358 (by decide) (fun c94 => ?_) (fun c94 => ?_)
    ·
      replace hw := hw.1 c94
      refine lv_aload_n hx hb dX13_applyStep_368 rfl (lv_at hl 0 rfl) ?_
      refine gfX13_pileAt hx hb hts hK hP hown (hts _ tw_2078) dX13_applyStep_369 ?_
      refine lv_iload hx hb dX13_applyStep_372 (lv_at hl 4 rfl) ?_
      obtain ⟨c95, hw⟩ := hw
      refine ldMX13_pileAt hx hb hK hP hN c95 dX13_applyStep_374 (fun x96 r_x96 e_x96 => ?_)
      replace hw := hw x96 r_x96 e_x96
      exact (hP375 _ _ _ _).mp hw r_u2 r_u5 r_x96 hN hF H locs ls hP hD hS (lv_sub hl [0, 2, 4] rfl)
    ·
      replace hw := hw.2 c94
      refine lv_aload_n hx hb dX13_applyStep_361 rfl (lv_at hl 0 rfl) ?_
      refine gfX13_pileTop hx hb hts hK hP hown (hts _ tw_2083) (x := τ93.1 31) rfl dX13_applyStep_362 ?_
      refine lv_goto (tgt := 375) hx hb dX13_applyStep_365 (by decide) ?_
      exact (hP375 _ _ _ _).mp hw r_u2 r_u5 (hB.1 31) hN hF H locs ls hP hD hS (lv_sub hl [0, 2, 4] rfl)
  ·
    intro u2 u5 k1 τ hw
    refine (hP375 _ _ _ _).mpr ?_
    intro r_u2 r_u5 r_k1 hN hF H locs ls hP hD hS hl
    have hB := hN
    refine pfX13_pileTop hx hb hts hK hP hD hS hown (hts _ tw_2083) dX13_applyStep_375 (fun H locs hP hD hS => ?_)
    have hN : n_m (s_v τ 31 k1) := n_v (i := 31) hN (r_k1 : rg k1)
    have hF : f_r [30, 31, 34, 35] [40, 41, 42, 43, 48, 49, 50] [] σ (s_v τ 31 k1) := f_v hF (by decide)
    refine lv_aload_n hx hb dX13_applyStep_378 rfl (lv_at hl 0 rfl) ?_
    refine lv_iload hx hb dX13_applyStep_379 (lv_at hl 2 rfl) ?_
    refine pfX13_piled hx hb hts hK hP hD hS hown (hts _ tw_2081) dX13_applyStep_381 (fun H locs hP hD hS => ?_)
    have hN : n_m (s_v (s_v τ 31 k1) 30 u5) := n_v (i := 30) hN (r_u5 : rg u5)
    have hF : f_r [30, 31, 34, 35] [40, 41, 42, 43, 48, 49, 50] [] σ (s_v (s_v τ 31 k1) 30 u5) := f_v hF (by decide)
    refine lv_aload_n hx hb dX13_applyStep_384 rfl (lv_at hl 0 rfl) ?_
    refine lv_aload_n hx hb dX13_applyStep_385 rfl (lv_at hl 0 rfl) ?_
    refine gfX13_madeRow hx hb hts hK hP hown (hts _ tw_2092) dX13_applyStep_386 ?_
    refine lv_iconst (v := I 0) hx hb dX13_applyStep_389 rfl ?_
    refine lv_aload_n hx hb dX13_applyStep_390 rfl (lv_at hl 0 rfl) ?_
    refine gfX13_made hx hb hts hK hP hown (hts _ tw_2093) (x := τ.1 34) rfl dX13_applyStep_391 ?_
    refine lv_iload_n hx hb dX13_applyStep_394 rfl (lv_at hl 1 rfl) ?_
    obtain ⟨Q97, hc, hw⟩ := hw
    refine wc_V (X := MX g q lb) (va_runV (As := [.ref (q 53), .int (I 0), .int (I (τ.1 34)), .int (I u2)]) (rest := []) ⟨hx, hb, hml, hown, hts⟩ (L_X13_pushRow_q53 l g q lb hlb (by decide) (hB.1 34) r_u2 hN hc H.size) (cwV 4 hts (TB_V tw_2713 tw_2715 ts_142 tw_15 co_X13_pushRow) rfl rfl rfl (by decide +kernel) ⟨Nat.le_of_ble_eq_true rfl, Nat.le_of_ble_eq_true rfl⟩) (preV (q0 := 0) (ci := 13) rfl xT_bl hP hK hNb hD rfl rfl xT_at) rfl rfl hl.1 rfl (lv_room (Nat.le_of_ble_eq_true rfl)) dX13_applyStep_395 ⟨Nat.le_of_ble_eq_true rfl, Nat.le_of_ble_eq_true rfl⟩) hP hD hS hA (fun τ99 H locs hN hf hq hP hD hS => ?_)
    replace hw := hw τ99 hN hf hq
    have hF : f_r [30, 31, 34, 35] [40, 41, 42, 43, 48, 49, 50] [] σ τ99 := f_t hF hf (by decide) (by decide) (by decide)
    have hB := hN
    exact xrv hx hb hr hlk hP hK hD hS ⟨_, hN, hF, rfl, hw⟩ (Nat.le_of_ble_eq_true rfl) (Nat.le_of_ble_eq_true rfl) dX13_applyStep_398
