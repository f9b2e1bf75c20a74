-- methods told as propositions, and tied to the machine
def W_X13_pushRow_q17 (n2 : Int) (n3 : Int) (n4 : Int) (σ : S0) (Q : S0 → Prop) : Prop :=
  ∀ (P34 : S0 → Prop) (P43 : Int → Int → Int → Int → S0 → Prop),
  (∀ (τ : S0), (∃ (Q5 : S0 → Prop), W_X13_wrong 5 τ Q5 ∧ ∀ (τ7 : S0), n_m τ7 → f_r [35] [] [] τ τ7 → Q5 τ7 → (Q τ7)) → P34 τ) →
  (∀ (u2 : Int) (u3 : Int) (u4 : Int) (u5 : Int) (τ : S0), ((u3 ≤ u5 → (0 ≤ τ.1 30 ∧ τ.1 30 < 202) ∧ (rg (τ.1 31 + u3) ∧ rg (τ.1 30 + 1) ∧ Q (s_v (s_v (s_a (s_a (s_a τ 40 (τ.1 30) (τ.1 31)) 41 (τ.1 30) u3) 42 (τ.1 30) u4) 31 (τ.1 31 + u3)) 30 (τ.1 30 + 1)))) ∧ (u5 < u3 → (0 ≤ (u2 + u5) ∧ (u2 + u5) < 30400) ∧ (∀ (x13 : Int), rg x13 → x13 = τ.2.1 16 (u2 + u5) → ((0 ≤ (τ.1 31 + u5) ∧ (τ.1 31 + u5) < 42000) ∧ (rg (u5 + 1) ∧ P43 u2 u3 u4 (u5 + 1) (s_a τ 43 (τ.1 31 + u5) x13)))))) → P43 u2 u3 u4 u5 τ) →
  (σ.1 30 = 200 → P34 σ) ∧ (¬ σ.1 30 = 200 → (1000 < n3 → P34 σ) ∧ (n3 ≤ 1000 → rg ((σ.1 31 + σ.1 33) + n3) ∧ (((σ.1 31 + σ.1 33) + n3) ≤ 40000 → P43 n2 n3 n4 0 σ) ∧ (40000 < ((σ.1 31 + σ.1 33) + n3) → P34 σ)))
set_option maxRecDepth 100000 in
set_option maxHeartbeats 4000000 in
theorem L_X13_pushRow_q17 (l : Launch) (g : gG) (q : Nat → Nat) (lb : Nat) (hlb : lb < 2 ^ 31) {n2 : Int} {n3 : Int} {n4 : Int} {σ : S0} {Q : S0 → Prop} (r_n2 : rg n2) (r_n3 : rg n3) (r_n4 : rg n4) (hN : n_m σ) (hw : W_X13_pushRow_q17 n2 n3 n4 σ Q) (sz : Nat) : MetV l yX13_pushRow cX13_pushRow 6 { frames := 1, cells := 0, slots := 0, locals := 21 } g [.ref (q 0), .ref (q 17), .int (I n2), .int (I n3), .int (I n4)] (MX g q lb σ) sz xT (p_V (MX g q lb) [30, 31, 35] [40, 41, 42, 43] [] σ Q) 0 0 := by
  refine mkMet (Qc := fun A => QV g A (p_V (MX g q lb) [30, 31, 35] [40, 41, 42, 43] [] σ Q)) (by decide) (Nat.le_of_ble_eq_true rfl) ?_
  intro p e s m below meth c A H ls hx hb hr hml hown hts hlk hnm hsz hP hK hNb hD hA hAe hS hX hl
  have hl : lv_has ls 6 [(0, .ref (q 0)), (1, .ref (q 17)), (2, .int (I n2)), (3, .int (I n3)), (4, .int (I n4))] := hl
  have hB := hN
  have hF : f_r [30, 31, 35] [40, 41, 42, 43] [] σ σ := f_0
  obtain ⟨locs, hlocs⟩ : ∃ z : List Loc, z = [] := ⟨_, rfl⟩
  rw [← hlocs] at hS ⊢
  obtain ⟨P34, hP34⟩ : ∃ P : S0 → Prop, ∀ (τ : S0), (P τ ↔ (n_m τ → f_r [30, 31, 35] [40, 41, 42, 43] [] σ τ → ∀ (H : Heap) (locs : List Loc) (ls : Array Slot), KP g (MX g q lb τ) H → va_D A (MX g q lb τ) → va_S A s.heap H locs → lv_has ls 6 [(0, .ref (q 0))] → W p l e ({ frames := 1, cells := 0, slots := 0, locals := 21 }) s m [.ref (q 0), .ref (q 17), .int (I n2), .int (I n3), .int (I n4)].toArray below meth c H locs 0 0 (MQ below (QV g A (p_V (MX g q lb) [30, 31, 35] [40, 41, 42, 43] [] σ Q)) [.ref (q 0), .ref (q 17), .int (I n2), .int (I n3), .int (I n4)].toArray s 0 0 A) (F0 m 34 ls []))) := ⟨_, fun _ => Iff.rfl⟩
  obtain ⟨P43, hP43⟩ : ∃ P : Int → Int → Int → Int → S0 → Prop, ∀ (u2 : Int) (u3 : Int) (u4 : Int) (u5 : Int) (τ : S0), (P u2 u3 u4 u5 τ ↔ (rg u2 → rg u3 → rg u4 → rg u5 → n_m τ → f_r [30, 31, 35] [40, 41, 42, 43] [] σ τ → ∀ (H : Heap) (locs : List Loc) (ls : Array Slot), KP g (MX g q lb τ) H → va_D A (MX g q lb τ) → va_S A s.heap H locs → lv_has ls 6 [(0, .ref (q 0)), (1, .ref (q 17)), (2, .int (I u2)), (3, .int (I u3)), (4, .int (I u4)), (5, .int (I u5))] → W p l e ({ frames := 1, cells := 0, slots := 0, locals := 21 }) s m [.ref (q 0), .ref (q 17), .int (I n2), .int (I n3), .int (I n4)].toArray below meth c H locs 0 0 (MQ below (QV g A (p_V (MX g q lb) [30, 31, 35] [40, 41, 42, 43] [] σ Q)) [.ref (q 0), .ref (q 17), .int (I n2), .int (I n3), .int (I n4)].toArray s 0 0 A) (F0 m 43 ls []))) := ⟨_, fun _ _ _ _ _ => Iff.rfl⟩
  refine (fun hw => ?_) (hw P34 P43 ?_ ?_)
  ·
    refine lv_aload_n hx hb dX13_pushRow_0 rfl (lv_at hl 0 rfl) ?_
    refine gfX13_piled hx hb hts hK hP hown (hts _ tw_2081) (x := σ.1 30) rfl dX13_pushRow_1 ?_
    refine lv_sipush (v := I 200) hx hb dX13_pushRow_4 (by decide) ?_
    refine bi_icmp_eq (tgt := 34) hx hb (hB.1 30) (by decide) dX13_pushRow_7 (by decide) (fun c1 => ?_) (fun c1 => ?_)
    ·
      replace hw := hw.1 c1
      exact (hP34 _).mp hw hN hF H locs ls hP hD hS (lv_sub hl [0] rfl)
    ·
      replace hw := hw.2 c1
      refine lv_iload_n hx hb dX13_pushRow_10 rfl (lv_at hl 3 rfl) ?_
      refine lv_sipush (v := I 1000) hx hb dX13_pushRow_11 (by decide) ?_
      refine bi_icmp_gt (tgt := 34) hx hb r_n3 (by decide) dX13_pushRow_14 (by decide) (fun c2 => ?_) (fun c2 => ?_)
      ·
        replace hw := hw.1 c2
        exact (hP34 _).mp hw hN hF H locs ls hP hD hS (lv_sub hl [0] rfl)
      ·
        replace hw := hw.2 c2
        refine lv_aload_n hx hb dX13_pushRow_17 rfl (lv_at hl 0 rfl) ?_
        refine gfX13_pileTop hx hb hts hK hP hown (hts _ tw_2083) (x := σ.1 31) rfl dX13_pushRow_18 ?_
        refine lv_aload_n hx hb dX13_pushRow_21 rfl (lv_at hl 0 rfl) ?_
        refine gfX13_savedTop hx hb hts hK hP hown (hts _ tw_2089) (x := σ.1 33) rfl dX13_pushRow_22 ?_
        refine bi_iadd hx hb dX13_pushRow_25 ?_
        refine lv_iload_n hx hb dX13_pushRow_26 rfl (lv_at hl 3 rfl) ?_
        refine bi_iadd hx hb dX13_pushRow_27 ?_
        refine lv_ldcw (own := RX13) (v := 40000) hx hb hown (hts _ tw_2717) dX13_pushRow_28 ?_
        refine xtop (y := I 40000) (by decide) ?_
        obtain ⟨c3, hw⟩ := hw
        refine bi_icmp_le (tgt := 40) hx hb c3 (by decide) dX13_pushRow_31 (by decide) (fun c4 => ?_) (fun c4 => ?_)
        ·
          replace hw := hw.1 c4
          refine lv_iconst (v := I 0) hx hb dX13_pushRow_40 rfl ?_
          refine lv_istore (lv' := [(5, .int (I 0)), (0, .ref (q 0)), (1, .ref (q 17)), (2, .int (I n2)), (3, .int (I n3)), (4, .int (I n4))]) hx hb dX13_pushRow_41 hl (by decide) rfl (fun ls hl => ?_)
          exact (hP43 _ _ _ _ _).mp hw r_n2 r_n3 r_n4 (by decide) hN hF H locs ls hP hD hS (lv_sub hl [1, 2, 3, 4, 5, 0] rfl)
        ·
          replace hw := hw.2 c4
          exact (hP34 _).mp hw hN hF H locs ls hP hD hS (lv_sub hl [0] rfl)
  ·
    intro τ hw
    refine (hP34 _).mpr ?_
    intro hN hF H locs ls hP hD hS hl
    have hB := hN
    refine lv_aload_n hx hb dX13_pushRow_34 rfl (lv_at hl 0 rfl) ?_
    refine lv_iconst (v := I 5) hx hb dX13_pushRow_35 rfl ?_
    obtain ⟨Q5, hc, hw⟩ := hw
    refine wc_V (X := MX g q lb) (va_runV (As := [.int (I 5)]) (rest := []) ⟨hx, hb, hml, hown, hts⟩ (L_X13_wrong l g q lb hlb (by decide) hN hc H.size) (cwV 1 hts (TB_V tw_2718 tw_2720 ts_143 tw_15 co_X13_wrong) rfl rfl rfl (by decide +kernel) ⟨Nat.le_of_ble_eq_true rfl, Nat.le_of_ble_eq_true rfl⟩) (preV (q0 := 0) (ci := 13) rfl xT_bl hP hK hNb hD rfl rfl xT_at) rfl rfl hl.1 rfl (lv_room (Nat.le_of_ble_eq_true rfl)) dX13_pushRow_36 ⟨Nat.le_of_ble_eq_true rfl, Nat.le_of_ble_eq_true rfl⟩) hP hD hS hA (fun τ7 H locs hN hf hq hP hD hS => ?_)
    replace hw := hw τ7 hN hf hq
    have hF : f_r [30, 31, 35] [40, 41, 42, 43] [] σ τ7 := f_t hF hf (by decide) (by decide) (by decide)
    have hB := hN
    exact xrv hx hb hr hlk hP hK hD hS ⟨_, hN, hF, rfl, hw⟩ (Nat.le_of_ble_eq_true rfl) (Nat.le_of_ble_eq_true rfl) dX13_pushRow_39
  ·
    intro u2 u3 u4 u5 τ hw
    refine (hP43 _ _ _ _ _).mpr ?_
    intro r_u2 r_u3 r_u4 r_u5 hN hF H locs ls hP hD hS hl
    have hB := hN
    refine lv_iload hx hb dX13_pushRow_43 (lv_at hl 5 rfl) ?_
    refine lv_iload_n hx hb dX13_pushRow_45 rfl (lv_at hl 3 rfl) ?_
    refine bi_icmp_ge (tgt := 73) hx hb r_u5 r_u3 dX13_pushRow_46 (by decide) (fun c8 => ?_) (fun c8 => ?_)
    ·
      replace hw := hw.1 c8
      refine lv_aload_n hx hb dX13_pushRow_73 rfl (lv_at hl 0 rfl) ?_
      refine gfX13_pileAt hx hb hts hK hP hown (hts _ tw_2078) dX13_pushRow_74 ?_
      refine lv_aload_n hx hb dX13_pushRow_77 rfl (lv_at hl 0 rfl) ?_
      refine gfX13_piled hx hb hts hK hP hown (hts _ tw_2081) (x := τ.1 30) rfl dX13_pushRow_78 ?_
      refine lv_aload_n hx hb dX13_pushRow_81 rfl (lv_at hl 0 rfl) ?_
      refine gfX13_pileTop hx hb hts hK hP hown (hts _ tw_2083) (x := τ.1 31) rfl dX13_pushRow_82 ?_
      obtain ⟨c9, hw⟩ := hw
      refine sdMX13_pileAt hx hb hK hP hD hS c9 dX13_pushRow_85 (fun H locs hP hD hS => ?_)
      have hN : n_m (s_a τ 40 (τ.1 30) (τ.1 31)) := n_a (k := 40) (j := τ.1 30) hN ((hB.1 31) : rg (τ.1 31))
      have hF : f_r [30, 31, 35] [40, 41, 42, 43] [] σ (s_a τ 40 (τ.1 30) (τ.1 31)) := f_a hF (by decide)
      refine lv_aload_n hx hb dX13_pushRow_86 rfl (lv_at hl 0 rfl) ?_
      refine gfX13_pileSize hx hb hts hK hP hown (hts _ tw_2079) dX13_pushRow_87 ?_
      refine lv_aload_n hx hb dX13_pushRow_90 rfl (lv_at hl 0 rfl) ?_
      refine gfX13_piled hx hb hts hK hP hown (hts _ tw_2081) (x := τ.1 30) rfl dX13_pushRow_91 ?_
      refine lv_iload_n hx hb dX13_pushRow_94 rfl (lv_at hl 3 rfl) ?_
      refine sdMX13_pileSize hx hb hK hP hD hS c9 dX13_pushRow_95 (fun H locs hP hD hS => ?_)
      have hN : n_m (s_a (s_a τ 40 (τ.1 30) (τ.1 31)) 41 (τ.1 30) u3) := n_a (k := 41) (j := τ.1 30) hN (r_u3 : rg u3)
      have hF : f_r [30, 31, 35] [40, 41, 42, 43] [] σ (s_a (s_a τ 40 (τ.1 30) (τ.1 31)) 41 (τ.1 30) u3) := f_a hF (by decide)
      refine lv_aload_n hx hb dX13_pushRow_96 rfl (lv_at hl 0 rfl) ?_
      refine gfX13_pileRow hx hb hts hK hP hown (hts _ tw_2080) dX13_pushRow_97 ?_
      refine lv_aload_n hx hb dX13_pushRow_100 rfl (lv_at hl 0 rfl) ?_
      refine gfX13_piled hx hb hts hK hP hown (hts _ tw_2081) (x := τ.1 30) rfl dX13_pushRow_101 ?_
      refine lv_iload hx hb dX13_pushRow_104 (lv_at hl 4 rfl) ?_
      refine sdMX13_pileRow hx hb hK hP hD hS c9 dX13_pushRow_106 (fun H locs hP hD hS => ?_)
      have hN : n_m (s_a (s_a (s_a τ 40 (τ.1 30) (τ.1 31)) 41 (τ.1 30) u3) 42 (τ.1 30) u4) := n_a (k := 42) (j := τ.1 30) hN (r_u4 : rg u4)
      have hF : f_r [30, 31, 35] [40, 41, 42, 43] [] σ (s_a (s_a (s_a τ 40 (τ.1 30) (τ.1 31)) 41 (τ.1 30) u3) 42 (τ.1 30) u4) := f_a hF (by decide)
      refine lv_aload_n hx hb dX13_pushRow_107 rfl (lv_at hl 0 rfl) ?_
      refine lv_dup hx hb dX13_pushRow_108 rfl ?_
      refine gfX13_pileTop hx hb hts hK hP hown (hts _ tw_2083) (x := τ.1 31) rfl dX13_pushRow_109 ?_
      refine lv_iload_n hx hb dX13_pushRow_112 rfl (lv_at hl 3 rfl) ?_
      refine bi_iadd hx hb dX13_pushRow_113 ?_
      obtain ⟨c10, hw⟩ := hw
      refine pfX13_pileTop hx hb hts hK hP hD hS hown (hts _ tw_2083) dX13_pushRow_114 (fun H locs hP hD hS => ?_)
      have hN : n_m (s_v (s_a (s_a (s_a τ 40 (τ.1 30) (τ.1 31)) 41 (τ.1 30) u3) 42 (τ.1 30) u4) 31 (τ.1 31 + u3)) := n_v (i := 31) hN (c10 : rg (τ.1 31 + u3))
      have hF : f_r [30, 31, 35] [40, 41, 42, 43] [] σ (s_v (s_a (s_a (s_a τ 40 (τ.1 30) (τ.1 31)) 41 (τ.1 30) u3) 42 (τ.1 30) u4) 31 (τ.1 31 + u3)) := f_v hF (by decide)
      refine lv_aload_n hx hb dX13_pushRow_117 rfl (lv_at hl 0 rfl) ?_
      refine lv_dup hx hb dX13_pushRow_118 rfl ?_
      refine gfX13_piled hx hb hts hK hP hown (hts _ tw_2081) (x := τ.1 30) rfl dX13_pushRow_119 ?_
      refine lv_iconst (v := I 1) hx hb dX13_pushRow_122 rfl ?_
      refine bi_iadd hx hb dX13_pushRow_123 ?_
      obtain ⟨c11, hw⟩ := hw
      refine pfX13_piled hx hb hts hK hP hD hS hown (hts _ tw_2081) dX13_pushRow_124 (fun H locs hP hD hS => ?_)
      have hN : n_m (s_v (s_v (s_a (s_a (s_a τ 40 (τ.1 30) (τ.1 31)) 41 (τ.1 30) u3) 42 (τ.1 30) u4) 31 (τ.1 31 + u3)) 30 (τ.1 30 + 1)) := n_v (i := 30) hN (c11 : rg (τ.1 30 + 1))
      have hF : f_r [30, 31, 35] [40, 41, 42, 43] [] σ (s_v (s_v (s_a (s_a (s_a τ 40 (τ.1 30) (τ.1 31)) 41 (τ.1 30) u3) 42 (τ.1 30) u4) 31 (τ.1 31 + u3)) 30 (τ.1 30 + 1)) := f_v hF (by decide)
      exact xrv hx hb hr hlk hP hK hD hS ⟨_, hN, hF, rfl, hw⟩ (Nat.le_of_ble_eq_true rfl) (Nat.le_of_ble_eq_true rfl) dX13_pushRow_127
    ·
      replace hw := hw.2 c8
      refine lv_aload_n hx hb dX13_pushRow_49 rfl (lv_at hl 0 rfl) ?_
      refine gfX13_pileSymbols hx hb hts hK hP hown (hts _ tw_2082) dX13_pushRow_50 ?_
      refine lv_aload_n hx hb dX13_pushRow_53 rfl (lv_at hl 0 rfl) ?_
      refine gfX13_pileTop hx hb hts hK hP hown (hts _ tw_2083) (x := τ.1 31) rfl dX13_pushRow_54 ?_
      refine lv_iload hx hb dX13_pushRow_57 (lv_at hl 5 rfl) ?_
      refine bi_iadd hx hb dX13_pushRow_59 ?_
      refine lv_aload_n hx hb dX13_pushRow_60 rfl (lv_at hl 1 rfl) ?_
      refine lv_iload_n hx hb dX13_pushRow_61 rfl (lv_at hl 2 rfl) ?_
      refine lv_iload hx hb dX13_pushRow_62 (lv_at hl 5 rfl) ?_
      refine bi_iadd hx hb dX13_pushRow_64 ?_
      obtain ⟨c12, hw⟩ := hw
      refine ldMX13_texts hx hb hK hP hN c12 dX13_pushRow_65 (fun x13 r_x13 e_x13 => ?_)
      replace hw := hw x13 r_x13 e_x13
      obtain ⟨c14, hw⟩ := hw
      refine sdMX13_pileSymbols hx hb hK hP hD hS c14 dX13_pushRow_66 (fun H locs hP hD hS => ?_)
      have hN : n_m (s_a τ 43 (τ.1 31 + u5) x13) := n_a (k := 43) (j := (τ.1 31 + u5)) hN (r_x13 : rg x13)
      have hF : f_r [30, 31, 35] [40, 41, 42, 43] [] σ (s_a τ 43 (τ.1 31 + u5) x13) := f_a hF (by decide)
      refine lv_iinc (v := I (u5 + 1)) (lv' := [(5, .int (I (u5 + 1))), (0, .ref (q 0)), (1, .ref (q 17)), (2, .int (I u2)), (3, .int (I u3)), (4, .int (I u4))]) hx hb dX13_pushRow_67 hl (k := 5) rfl (I_add _ _) (by decide) rfl (fun ls hl => ?_)
      refine lv_goto (tgt := 43) hx hb dX13_pushRow_70 (by decide) ?_
      obtain ⟨c15, hw⟩ := hw
      exact (hP43 _ _ _ _ _).mp hw r_u2 r_u3 r_u4 c15 hN hF H locs ls hP hD hS (lv_sub hl [1, 2, 3, 4, 5, 0] rfl)
def W_X13_pushRow_q50 (n2 : Int) (n3 : Int) (n4 : Int) (σ : S0) (Q : S0 → Prop) : Prop :=
  ∀ (P34 : S0 → Prop) (P43 : Int → Int → Int → Int → S0 → Prop),
  (∀ (τ : S0), (∃ (Q5 : S0 → Prop), W_X13_wrong 5 τ Q5 ∧ ∀ (τ7 : S0), n_m τ7 → f_r [35] [] [] τ τ7 → Q5 τ7 → (Q τ7)) → P34 τ) →
  (∀ (u2 : Int) (u3 : Int) (u4 : Int) (u5 : Int) (τ : S0), ((u3 ≤ u5 → (0 ≤ τ.1 30 ∧ τ.1 30 < 202) ∧ (rg (τ.1 31 + u3) ∧ rg (τ.1 30 + 1) ∧ Q (s_v (s_v (s_a (s_a (s_a τ 40 (τ.1 30) (τ.1 31)) 41 (τ.1 30) u3) 42 (τ.1 30) u4) 31 (τ.1 31 + u3)) 30 (τ.1 30 + 1)))) ∧ (u5 < u3 → (0 ≤ (u2 + u5) ∧ (u2 + u5) < 42000) ∧ (∀ (x13 : Int), rg x13 → x13 = τ.2.1 47 (u2 + u5) → ((0 ≤ (τ.1 31 + u5) ∧ (τ.1 31 + u5) < 42000) ∧ (rg (u5 + 1) ∧ P43 u2 u3 u4 (u5 + 1) (s_a τ 43 (τ.1 31 + u5) x13)))))) → P43 u2 u3 u4 u5 τ) →
  (σ.1 30 = 200 → P34 σ) ∧ (¬ σ.1 30 = 200 → (1000 < n3 → P34 σ) ∧ (n3 ≤ 1000 → rg ((σ.1 31 + σ.1 33) + n3) ∧ (((σ.1 31 + σ.1 33) + n3) ≤ 40000 → P43 n2 n3 n4 0 σ) ∧ (40000 < ((σ.1 31 + σ.1 33) + n3) → P34 σ)))
set_option maxRecDepth 100000 in
set_option maxHeartbeats 4000000 in
theorem L_X13_pushRow_q50 (l : Launch) (g : gG) (q : Nat → Nat) (lb : Nat) (hlb : lb < 2 ^ 31) {n2 : Int} {n3 : Int} {n4 : Int} {σ : S0} {Q : S0 → Prop} (r_n2 : rg n2) (r_n3 : rg n3) (r_n4 : rg n4) (hN : n_m σ) (hw : W_X13_pushRow_q50 n2 n3 n4 σ Q) (sz : Nat) : MetV l yX13_pushRow cX13_pushRow 6 { frames := 1, cells := 0, slots := 0, locals := 21 } g [.ref (q 0), .ref (q 50), .int (I n2), .int (I n3), .int (I n4)] (MX g q lb σ) sz xT (p_V (MX g q lb) [30, 31, 35] [40, 41, 42, 43] [] σ Q) 0 0 := by
  refine mkMet (Qc := fun A => QV g A (p_V (MX g q lb) [30, 31, 35] [40, 41, 42, 43] [] σ Q)) (by decide) (Nat.le_of_ble_eq_true rfl) ?_
  intro p e s m below meth c A H ls hx hb hr hml hown hts hlk hnm hsz hP hK hNb hD hA hAe hS hX hl
  have hl : lv_has ls 6 [(0, .ref (q 0)), (1, .ref (q 50)), (2, .int (I n2)), (3, .int (I n3)), (4, .int (I n4))] := hl
  have hB := hN
  have hF : f_r [30, 31, 35] [40, 41, 42, 43] [] σ σ := f_0
  obtain ⟨locs, hlocs⟩ : ∃ z : List Loc, z = [] := ⟨_, rfl⟩
  rw [← hlocs] at hS ⊢
  obtain ⟨P34, hP34⟩ : ∃ P : S0 → Prop, ∀ (τ : S0), (P τ ↔ (n_m τ → f_r [30, 31, 35] [40, 41, 42, 43] [] σ τ → ∀ (H : Heap) (locs : List Loc) (ls : Array Slot), KP g (MX g q lb τ) H → va_D A (MX g q lb τ) → va_S A s.heap H locs → lv_has ls 6 [(0, .ref (q 0))] → W p l e ({ frames := 1, cells := 0, slots := 0, locals := 21 }) s m [.ref (q 0), .ref (q 50), .int (I n2), .int (I n3), .int (I n4)].toArray below meth c H locs 0 0 (MQ below (QV g A (p_V (MX g q lb) [30, 31, 35] [40, 41, 42, 43] [] σ Q)) [.ref (q 0), .ref (q 50), .int (I n2), .int (I n3), .int (I n4)].toArray s 0 0 A) (F0 m 34 ls []))) := ⟨_, fun _ => Iff.rfl⟩
  obtain ⟨P43, hP43⟩ : ∃ P : Int → Int → Int → Int → S0 → Prop, ∀ (u2 : Int) (u3 : Int) (u4 : Int) (u5 : Int) (τ : S0), (P u2 u3 u4 u5 τ ↔ (rg u2 → rg u3 → rg u4 → rg u5 → n_m τ → f_r [30, 31, 35] [40, 41, 42, 43] [] σ τ → ∀ (H : Heap) (locs : List Loc) (ls : Array Slot), KP g (MX g q lb τ) H → va_D A (MX g q lb τ) → va_S A s.heap H locs → lv_has ls 6 [(0, .ref (q 0)), (1, .ref (q 50)), (2, .int (I u2)), (3, .int (I u3)), (4, .int (I u4)), (5, .int (I u5))] → W p l e ({ frames := 1, cells := 0, slots := 0, locals := 21 }) s m [.ref (q 0), .ref (q 50), .int (I n2), .int (I n3), .int (I n4)].toArray below meth c H locs 0 0 (MQ below (QV g A (p_V (MX g q lb) [30, 31, 35] [40, 41, 42, 43] [] σ Q)) [.ref (q 0), .ref (q 50), .int (I n2), .int (I n3), .int (I n4)].toArray s 0 0 A) (F0 m 43 ls []))) := ⟨_, fun _ _ _ _ _ => Iff.rfl⟩
  refine (fun hw => ?_) (hw P34 P43 ?_ ?_)
  ·
    refine lv_aload_n hx hb dX13_pushRow_0 rfl (lv_at hl 0 rfl) ?_
    refine gfX13_piled hx hb hts hK hP hown (hts _ tw_2081) (x := σ.1 30) rfl dX13_pushRow_1 ?_
    refine lv_sipush (v := I 200) hx hb dX13_pushRow_4 (by decide) ?_
    refine bi_icmp_eq (tgt := 34) hx hb (hB.1 30) (by decide) dX13_pushRow_7 (by decide) (fun c1 => ?_) (fun c1 => ?_)
    ·
      replace hw := hw.1 c1
      exact (hP34 _).mp hw hN hF H locs ls hP hD hS (lv_sub hl [0] rfl)
    ·
      replace hw := hw.2 c1
      refine lv_iload_n hx hb dX13_pushRow_10 rfl (lv_at hl 3 rfl) ?_
      refine lv_sipush (v := I 1000) hx hb dX13_pushRow_11 (by decide) ?_
      refine bi_icmp_gt (tgt := 34) hx hb r_n3 (by decide) dX13_pushRow_14 (by decide) (fun c2 => ?_) (fun c2 => ?_)
      ·
        replace hw := hw.1 c2
        exact (hP34 _).mp hw hN hF H locs ls hP hD hS (lv_sub hl [0] rfl)
      ·
        replace hw := hw.2 c2
        refine lv_aload_n hx hb dX13_pushRow_17 rfl (lv_at hl 0 rfl) ?_
        refine gfX13_pileTop hx hb hts hK hP hown (hts _ tw_2083) (x := σ.1 31) rfl dX13_pushRow_18 ?_
        refine lv_aload_n hx hb dX13_pushRow_21 rfl (lv_at hl 0 rfl) ?_
        refine gfX13_savedTop hx hb hts hK hP hown (hts _ tw_2089) (x := σ.1 33) rfl dX13_pushRow_22 ?_
        refine bi_iadd hx hb dX13_pushRow_25 ?_
        refine lv_iload_n hx hb dX13_pushRow_26 rfl (lv_at hl 3 rfl) ?_
        refine bi_iadd hx hb dX13_pushRow_27 ?_
        refine lv_ldcw (own := RX13) (v := 40000) hx hb hown (hts _ tw_2717) dX13_pushRow_28 ?_
        refine xtop (y := I 40000) (by decide) ?_
        obtain ⟨c3, hw⟩ := hw
        refine bi_icmp_le (tgt := 40) hx hb c3 (by decide) dX13_pushRow_31 (by decide) (fun c4 => ?_) (fun c4 => ?_)
        ·
          replace hw := hw.1 c4
          refine lv_iconst (v := I 0) hx hb dX13_pushRow_40 rfl ?_
          refine lv_istore (lv' := [(5, .int (I 0)), (0, .ref (q 0)), (1, .ref (q 50)), (2, .int (I n2)), (3, .int (I n3)), (4, .int (I n4))]) hx hb dX13_pushRow_41 hl (by decide) rfl (fun ls hl => ?_)
          exact (hP43 _ _ _ _ _).mp hw r_n2 r_n3 r_n4 (by decide) hN hF H locs ls hP hD hS (lv_sub hl [1, 2, 3, 4, 5, 0] rfl)
        ·
          replace hw := hw.2 c4
          exact (hP34 _).mp hw hN hF H locs ls hP hD hS (lv_sub hl [0] rfl)
  ·
    intro τ hw
    refine (hP34 _).mpr ?_
    intro hN hF H locs ls hP hD hS hl
    have hB := hN
    refine lv_aload_n hx hb dX13_pushRow_34 rfl (lv_at hl 0 rfl) ?_
    refine lv_iconst (v := I 5) hx hb dX13_pushRow_35 rfl ?_
    obtain ⟨Q5, hc, hw⟩ := hw
    refine wc_V (X := MX g q lb) (va_runV (As := [.int (I 5)]) (rest := []) ⟨hx, hb, hml, hown, hts⟩ (L_X13_wrong l g q lb hlb (by decide) hN hc H.size) (cwV 1 hts (TB_V tw_2718 tw_2720 ts_143 tw_15 co_X13_wrong) rfl rfl rfl (by decide +kernel) ⟨Nat.le_of_ble_eq_true rfl, Nat.le_of_ble_eq_true rfl⟩) (preV (q0 := 0) (ci := 13) rfl xT_bl hP hK hNb hD rfl rfl xT_at) rfl rfl hl.1 rfl (lv_room (Nat.le_of_ble_eq_true rfl)) dX13_pushRow_36 ⟨Nat.le_of_ble_eq_true rfl, Nat.le_of_ble_eq_true rfl⟩) hP hD hS hA (fun τ7 H locs hN hf hq hP hD hS => ?_)
    replace hw := hw τ7 hN hf hq
    have hF : f_r [30, 31, 35] [40, 41, 42, 43] [] σ τ7 := f_t hF hf (by decide) (by decide) (by decide)
    have hB := hN
    exact xrv hx hb hr hlk hP hK hD hS ⟨_, hN, hF, rfl, hw⟩ (Nat.le_of_ble_eq_true rfl) (Nat.le_of_ble_eq_true rfl) dX13_pushRow_39
  ·
    intro u2 u3 u4 u5 τ hw
    refine (hP43 _ _ _ _ _).mpr ?_
    intro r_u2 r_u3 r_u4 r_u5 hN hF H locs ls hP hD hS hl
    have hB := hN
    refine lv_iload hx hb dX13_pushRow_43 (lv_at hl 5 rfl) ?_
    refine lv_iload_n hx hb dX13_pushRow_45 rfl (lv_at hl 3 rfl) ?_
    refine bi_icmp_ge (tgt := 73) hx hb r_u5 r_u3 dX13_pushRow_46 (by decide) (fun c8 => ?_) (fun c8 => ?_)
    ·
      replace hw := hw.1 c8
      refine lv_aload_n hx hb dX13_pushRow_73 rfl (lv_at hl 0 rfl) ?_
      refine gfX13_pileAt hx hb hts hK hP hown (hts _ tw_2078) dX13_pushRow_74 ?_
      refine lv_aload_n hx hb dX13_pushRow_77 rfl (lv_at hl 0 rfl) ?_
      refine gfX13_piled hx hb hts hK hP hown (hts _ tw_2081) (x := τ.1 30) rfl dX13_pushRow_78 ?_
      refine lv_aload_n hx hb dX13_pushRow_81 rfl (lv_at hl 0 rfl) ?_
      refine gfX13_pileTop hx hb hts hK hP hown (hts _ tw_2083) (x := τ.1 31) rfl dX13_pushRow_82 ?_
      obtain ⟨c9, hw⟩ := hw
      refine sdMX13_pileAt hx hb hK hP hD hS c9 dX13_pushRow_85 (fun H locs hP hD hS => ?_)
      have hN : n_m (s_a τ 40 (τ.1 30) (τ.1 31)) := n_a (k := 40) (j := τ.1 30) hN ((hB.1 31) : rg (τ.1 31))
      have hF : f_r [30, 31, 35] [40, 41, 42, 43] [] σ (s_a τ 40 (τ.1 30) (τ.1 31)) := f_a hF (by decide)
      refine lv_aload_n hx hb dX13_pushRow_86 rfl (lv_at hl 0 rfl) ?_
      refine gfX13_pileSize hx hb hts hK hP hown (hts _ tw_2079) dX13_pushRow_87 ?_
      refine lv_aload_n hx hb dX13_pushRow_90 rfl (lv_at hl 0 rfl) ?_
      refine gfX13_piled hx hb hts hK hP hown (hts _ tw_2081) (x := τ.1 30) rfl dX13_pushRow_91 ?_
      refine lv_iload_n hx hb dX13_pushRow_94 rfl (lv_at hl 3 rfl) ?_
      refine sdMX13_pileSize hx hb hK hP hD hS c9 dX13_pushRow_95 (fun H locs hP hD hS => ?_)
      have hN : n_m (s_a (s_a τ 40 (τ.1 30) (τ.1 31)) 41 (τ.1 30) u3) := n_a (k := 41) (j := τ.1 30) hN (r_u3 : rg u3)
      have hF : f_r [30, 31, 35] [40, 41, 42, 43] [] σ (s_a (s_a τ 40 (τ.1 30) (τ.1 31)) 41 (τ.1 30) u3) := f_a hF (by decide)
      refine lv_aload_n hx hb dX13_pushRow_96 rfl (lv_at hl 0 rfl) ?_
      refine gfX13_pileRow hx hb hts hK hP hown (hts _ tw_2080) dX13_pushRow_97 ?_
      refine lv_aload_n hx hb dX13_pushRow_100 rfl (lv_at hl 0 rfl) ?_
      refine gfX13_piled hx hb hts hK hP hown (hts _ tw_2081) (x := τ.1 30) rfl dX13_pushRow_101 ?_
      refine lv_iload hx hb dX13_pushRow_104 (lv_at hl 4 rfl) ?_
      refine sdMX13_pileRow hx hb hK hP hD hS c9 dX13_pushRow_106 (fun H locs hP hD hS => ?_)
      have hN : n_m (s_a (s_a (s_a τ 40 (τ.1 30) (τ.1 31)) 41 (τ.1 30) u3) 42 (τ.1 30) u4) := n_a (k := 42) (j := τ.1 30) hN (r_u4 : rg u4)
      have hF : f_r [30, 31, 35] [40, 41, 42, 43] [] σ (s_a (s_a (s_a τ 40 (τ.1 30) (τ.1 31)) 41 (τ.1 30) u3) 42 (τ.1 30) u4) := f_a hF (by decide)
      refine lv_aload_n hx hb dX13_pushRow_107 rfl (lv_at hl 0 rfl) ?_
      refine lv_dup hx hb dX13_pushRow_108 rfl ?_
      refine gfX13_pileTop hx hb hts hK hP hown (hts _ tw_2083) (x := τ.1 31) rfl dX13_pushRow_109 ?_
      refine lv_iload_n hx hb dX13_pushRow_112 rfl (lv_at hl 3 rfl) ?_
      refine bi_iadd hx hb dX13_pushRow_113 ?_
      obtain ⟨c10, hw⟩ := hw
      refine pfX13_pileTop hx hb hts hK hP hD hS hown (hts _ tw_2083) dX13_pushRow_114 (fun H locs hP hD hS => ?_)
      have hN : n_m (s_v (s_a (s_a (s_a τ 40 (τ.1 30) (τ.1 31)) 41 (τ.1 30) u3) 42 (τ.1 30) u4) 31 (τ.1 31 + u3)) := n_v (i := 31) hN (c10 : rg (τ.1 31 + u3))
      have hF : f_r [30, 31, 35] [40, 41, 42, 43] [] σ (s_v (s_a (s_a (s_a τ 40 (τ.1 30) (τ.1 31)) 41 (τ.1 30) u3) 42 (τ.1 30) u4) 31 (τ.1 31 + u3)) := f_v hF (by decide)
      refine lv_aload_n hx hb dX13_pushRow_117 rfl (lv_at hl 0 rfl) ?_
      refine lv_dup hx hb dX13_pushRow_118 rfl ?_
      refine gfX13_piled hx hb hts hK hP hown (hts _ tw_2081) (x := τ.1 30) rfl dX13_pushRow_119 ?_
      refine lv_iconst (v := I 1) hx hb dX13_pushRow_122 rfl ?_
      refine bi_iadd hx hb dX13_pushRow_123 ?_
      obtain ⟨c11, hw⟩ := hw
      refine pfX13_piled hx hb hts hK hP hD hS hown (hts _ tw_2081) dX13_pushRow_124 (fun H locs hP hD hS => ?_)
      have hN : n_m (s_v (s_v (s_a (s_a (s_a τ 40 (τ.1 30) (τ.1 31)) 41 (τ.1 30) u3) 42 (τ.1 30) u4) 31 (τ.1 31 + u3)) 30 (τ.1 30 + 1)) := n_v (i := 30) hN (c11 : rg (τ.1 30 + 1))
      have hF : f_r [30, 31, 35] [40, 41, 42, 43] [] σ (s_v (s_v (s_a (s_a (s_a τ 40 (τ.1 30) (τ.1 31)) 41 (τ.1 30) u3) 42 (τ.1 30) u4) 31 (τ.1 31 + u3)) 30 (τ.1 30 + 1)) := f_v hF (by decide)
      exact xrv hx hb hr hlk hP hK hD hS ⟨_, hN, hF, rfl, hw⟩ (Nat.le_of_ble_eq_true rfl) (Nat.le_of_ble_eq_true rfl) dX13_pushRow_127
    ·
      replace hw := hw.2 c8
      refine lv_aload_n hx hb dX13_pushRow_49 rfl (lv_at hl 0 rfl) ?_
      refine gfX13_pileSymbols hx hb hts hK hP hown (hts _ tw_2082) dX13_pushRow_50 ?_
      refine lv_aload_n hx hb dX13_pushRow_53 rfl (lv_at hl 0 rfl) ?_
      refine gfX13_pileTop hx hb hts hK hP hown (hts _ tw_2083) (x := τ.1 31) rfl dX13_pushRow_54 ?_
      refine lv_iload hx hb dX13_pushRow_57 (lv_at hl 5 rfl) ?_
      refine bi_iadd hx hb dX13_pushRow_59 ?_
      refine lv_aload_n hx hb dX13_pushRow_60 rfl (lv_at hl 1 rfl) ?_
      refine lv_iload_n hx hb dX13_pushRow_61 rfl (lv_at hl 2 rfl) ?_
      refine lv_iload hx hb dX13_pushRow_62 (lv_at hl 5 rfl) ?_
      refine bi_iadd hx hb dX13_pushRow_64 ?_
      obtain ⟨c12, hw⟩ := hw
      refine ldMX13_savedSymbols hx hb hK hP hN c12 dX13_pushRow_65 (fun x13 r_x13 e_x13 => ?_)
      replace hw := hw x13 r_x13 e_x13
      obtain ⟨c14, hw⟩ := hw
      refine sdMX13_pileSymbols hx hb hK hP hD hS c14 dX13_pushRow_66 (fun H locs hP hD hS => ?_)
      have hN : n_m (s_a τ 43 (τ.1 31 + u5) x13) := n_a (k := 43) (j := (τ.1 31 + u5)) hN (r_x13 : rg x13)
      have hF : f_r [30, 31, 35] [40, 41, 42, 43] [] σ (s_a τ 43 (τ.1 31 + u5) x13) := f_a hF (by decide)
      refine lv_iinc (v := I (u5 + 1)) (lv' := [(5, .int (I (u5 + 1))), (0, .ref (q 0)), (1, .ref (q 50)), (2, .int (I u2)), (3, .int (I u3)), (4, .int (I u4))]) hx hb dX13_pushRow_67 hl (k := 5) rfl (I_add _ _) (by decide) rfl (fun ls hl => ?_)
      refine lv_goto (tgt := 43) hx hb dX13_pushRow_70 (by decide) ?_
      obtain ⟨c15, hw⟩ := hw
      exact (hP43 _ _ _ _ _).mp hw r_u2 r_u3 r_u4 c15 hN hF H locs ls hP hD hS (lv_sub hl [1, 2, 3, 4, 5, 0] rfl)
def W_X13_saveTop (σ : S0) (Q : S0 → Prop) : Prop :=
  ∀ (P37 : Int → Int → S0 → Prop),
  (∀ (u1 : Int) (u2 : Int) (τ : S0), ((u1 ≤ u2 → (0 ≤ τ.1 32 ∧ τ.1 32 < 300) ∧ ((0 ≤ (τ.1 30 - 1) ∧ (τ.1 30 - 1) < 202) ∧ (∀ (x11 : Int), rg x11 → x11 = τ.2.1 42 (τ.1 30 - 1) → (rg (τ.1 33 + u1) ∧ rg (τ.1 32 + 1) ∧ Q (s_v (s_v (s_a (s_a (s_a τ 44 (τ.1 32) (τ.1 33)) 45 (τ.1 32) u1) 46 (τ.1 32) x11) 33 (τ.1 33 + u1)) 32 (τ.1 32 + 1)))))) ∧ (u2 < u1 → (0 ≤ (τ.1 30 - 1) ∧ (τ.1 30 - 1) < 202) ∧ (∀ (x15 : Int), rg x15 → x15 = τ.2.1 40 (τ.1 30 - 1) → ((0 ≤ (x15 + u2) ∧ (x15 + u2) < 42000) ∧ (∀ (x17 : Int), rg x17 → x17 = τ.2.1 43 (x15 + u2) → ((0 ≤ (τ.1 33 + u2) ∧ (τ.1 33 + u2) < 42000) ∧ (rg (u2 + 1) ∧ P37 u1 (u2 + 1) (s_a τ 47 (τ.1 33 + u2) x17)))))))) → P37 u1 u2 τ) →
  (0 ≤ (σ.1 30 - 1) ∧ (σ.1 30 - 1) < 202) ∧ (∀ (x2 : Int), rg x2 → x2 = σ.2.1 41 (σ.1 30 - 1) → (rg ((σ.1 31 + σ.1 33) + x2) ∧ (((σ.1 31 + σ.1 33) + x2) ≤ 40000 → P37 x2 0 σ) ∧ (40000 < ((σ.1 31 + σ.1 33) + x2) → ∃ (Q5 : S0 → Prop), W_X13_wrong 5 σ Q5 ∧ ∀ (τ7 : S0), n_m τ7 → f_r [35] [] [] σ τ7 → Q5 τ7 → (Q τ7))))
set_option maxRecDepth 100000 in
set_option maxHeartbeats 4000000 in
theorem L_X13_saveTop (l : Launch) (g : gG) (q : Nat → Nat) (lb : Nat) (hlb : lb < 2 ^ 31) {σ : S0} {Q : S0 → Prop} (hN : n_m σ) (hw : W_X13_saveTop σ Q) (sz : Nat) : MetV l yX13_saveTop cX13_saveTop 3 { frames := 1, cells := 0, slots := 0, locals := 21 } g [.ref (q 0)] (MX g q lb σ) sz xT (p_V (MX g q lb) [32, 33, 35] [44, 45, 46, 47] [] σ Q) 0 0 := by
  refine mkMet (Qc := fun A => QV g A (p_V (MX g q lb) [32, 33, 35] [44, 45, 46, 47] [] σ Q)) (by decide) (Nat.le_of_ble_eq_true rfl) ?_
  intro p e s m below meth c A H ls hx hb hr hml hown hts hlk hnm hsz hP hK hNb hD hA hAe hS hX hl
  have hl : lv_has ls 3 [(0, .ref (q 0))] := hl
  have hB := hN
  have hF : f_r [32, 33, 35] [44, 45, 46, 47] [] σ σ := f_0
  obtain ⟨locs, hlocs⟩ : ∃ z : List Loc, z = [] := ⟨_, rfl⟩
  rw [← hlocs] at hS ⊢
  obtain ⟨P37, hP37⟩ : ∃ P : Int → Int → S0 → Prop, ∀ (u1 : Int) (u2 : Int) (τ : S0), (P u1 u2 τ ↔ (rg u1 → rg u2 → n_m τ → f_r [32, 33, 35] [44, 45, 46, 47] [] σ τ → ∀ (H : Heap) (locs : List Loc) (ls : Array Slot), KP g (MX g q lb τ) H → va_D A (MX g q lb τ) → va_S A s.heap H locs → lv_has ls 3 [(0, .ref (q 0)), (1, .int (I u1)), (2, .int (I u2))] → W p l e ({ frames := 1, cells := 0, slots := 0, locals := 21 }) s m [.ref (q 0)].toArray below meth c H locs 0 0 (MQ below (QV g A (p_V (MX g q lb) [32, 33, 35] [44, 45, 46, 47] [] σ Q)) [.ref (q 0)].toArray s 0 0 A) (F0 m 37 ls []))) := ⟨_, fun _ _ _ => Iff.rfl⟩
  refine (fun hw => ?_) (hw P37 ?_)
  ·
    refine lv_aload_n hx hb dX13_saveTop_0 rfl (lv_at hl 0 rfl) ?_
    refine gfX13_pileSize hx hb hts hK hP hown (hts _ tw_2079) dX13_saveTop_1 ?_
    refine lv_aload_n hx hb dX13_saveTop_4 rfl (lv_at hl 0 rfl) ?_
    refine gfX13_piled hx hb hts hK hP hown (hts _ tw_2081) (x := σ.1 30) rfl dX13_saveTop_5 ?_
    refine lv_iconst (v := I 1) hx hb dX13_saveTop_8 rfl ?_
    refine bi_isub hx hb dX13_saveTop_9 ?_
    obtain ⟨c1, hw⟩ := hw
    refine ldMX13_pileSize hx hb hK hP hN c1 dX13_saveTop_10 (fun x2 r_x2 e_x2 => ?_)
    replace hw := hw x2 r_x2 e_x2
    refine lv_istore_n (lv' := [(1, .int (I x2)), (0, .ref (q 0))]) hx hb dX13_saveTop_11 rfl hl (by decide) rfl (fun ls hl => ?_)
    refine lv_aload_n hx hb dX13_saveTop_12 rfl (lv_at hl 1 rfl) ?_
    refine gfX13_pileTop hx hb hts hK hP hown (hts _ tw_2083) (x := σ.1 31) rfl dX13_saveTop_13 ?_
    refine lv_aload_n hx hb dX13_saveTop_16 rfl (lv_at hl 1 rfl) ?_
    refine gfX13_savedTop hx hb hts hK hP hown (hts _ tw_2089) (x := σ.1 33) rfl dX13_saveTop_17 ?_
    refine bi_iadd hx hb dX13_saveTop_20 ?_
    refine lv_iload_n hx hb dX13_saveTop_21 rfl (lv_at hl 0 rfl) ?_
    refine bi_iadd hx hb dX13_saveTop_22 ?_
    refine lv_ldcw (own := RX13) (v := 40000) hx hb hown (hts _ tw_2717) dX13_saveTop_23 ?_
    refine xtop (y := I 40000) (by decide) ?_
    obtain ⟨c3, hw⟩ := hw
    refine bi_icmp_le (tgt := 35) hx hb c3 (by decide) dX13_saveTop_26 (by decide) (fun c4 => ?_) (fun c4 => ?_)
    ·
      replace hw := hw.1 c4
      refine lv_iconst (v := I 0) hx hb dX13_saveTop_35 rfl ?_
      refine lv_istore_n (lv' := [(2, .int (I 0)), (1, .int (I x2)), (0, .ref (q 0))]) hx hb dX13_saveTop_36 rfl hl (by decide) rfl (fun ls hl => ?_)
      exact (hP37 _ _ _).mp hw r_x2 (by decide) hN hF H locs ls hP hD hS (lv_sub hl [2, 1, 0] rfl)
    ·
      replace hw := hw.2 c4
      refine lv_aload_n hx hb dX13_saveTop_29 rfl (lv_at hl 1 rfl) ?_
      refine lv_iconst (v := I 5) hx hb dX13_saveTop_30 rfl ?_
      obtain ⟨Q5, hc, hw⟩ := hw
      refine wc_V (X := MX g q lb) (va_runV (As := [.int (I 5)]) (rest := []) ⟨hx, hb, hml, hown, hts⟩ (L_X13_wrong l g q lb hlb (by decide) hN hc H.size) (cwV 1 hts (TB_V tw_2718 tw_2720 ts_143 tw_15 co_X13_wrong) rfl rfl rfl (by decide +kernel) ⟨Nat.le_of_ble_eq_true rfl, Nat.le_of_ble_eq_true rfl⟩) (preV (q0 := 0) (ci := 13) rfl xT_bl hP hK hNb hD rfl rfl xT_at) rfl rfl hl.1 rfl (lv_room (Nat.le_of_ble_eq_true rfl)) dX13_saveTop_31 ⟨Nat.le_of_ble_eq_true rfl, Nat.le_of_ble_eq_true rfl⟩) hP hD hS hA (fun τ7 H locs hN hf hq hP hD hS => ?_)
      replace hw := hw τ7 hN hf hq
      have hF : f_r [32, 33, 35] [44, 45, 46, 47] [] σ τ7 := f_t hF hf (by decide) (by decide) (by decide)
      have hB := hN
      exact xrv hx hb hr hlk hP hK hD hS ⟨_, hN, hF, rfl, hw⟩ (Nat.le_of_ble_eq_true rfl) (Nat.le_of_ble_eq_true rfl) dX13_saveTop_34
  ·
    intro u1 u2 τ hw
    refine (hP37 _ _ _).mpr ?_
    intro r_u1 r_u2 hN hF H locs ls hP hD hS hl
    have hB := hN
    refine lv_iload_n hx hb dX13_saveTop_37 rfl (lv_at hl 2 rfl) ?_
    refine lv_iload_n hx hb dX13_saveTop_38 rfl (lv_at hl 1 rfl) ?_
    refine bi_icmp_ge (tgt := 77) hx hb r_u2 r_u1 dX13_saveTop_39 (by decide) (fun c8 => ?_) (fun c8 => ?_)
    ·
      replace hw := hw.1 c8
      refine lv_aload_n hx hb dX13_saveTop_77 rfl (lv_at hl 0 rfl) ?_
      refine gfX13_savedAt hx hb hts hK hP hown (hts _ tw_2084) dX13_saveTop_78 ?_
      refine lv_aload_n hx hb dX13_saveTop_81 rfl (lv_at hl 0 rfl) ?_
      refine gfX13_savedRows hx hb hts hK hP hown (hts _ tw_2087) (x := τ.1 32) rfl dX13_saveTop_82 ?_
      refine lv_aload_n hx hb dX13_saveTop_85 rfl (lv_at hl 0 rfl) ?_
      refine gfX13_savedTop hx hb hts hK hP hown (hts _ tw_2089) (x := τ.1 33) rfl dX13_saveTop_86 ?_
      obtain ⟨c9, hw⟩ := hw
      refine sdMX13_savedAt hx hb hK hP hD hS c9 dX13_saveTop_89 (fun H locs hP hD hS => ?_)
      have hN : n_m (s_a τ 44 (τ.1 32) (τ.1 33)) := n_a (k := 44) (j := τ.1 32) hN ((hB.1 33) : rg (τ.1 33))
      have hF : f_r [32, 33, 35] [44, 45, 46, 47] [] σ (s_a τ 44 (τ.1 32) (τ.1 33)) := f_a hF (by decide)
      refine lv_aload_n hx hb dX13_saveTop_90 rfl (lv_at hl 0 rfl) ?_
      refine gfX13_savedSize hx hb hts hK hP hown (hts _ tw_2085) dX13_saveTop_91 ?_
      refine lv_aload_n hx hb dX13_saveTop_94 rfl (lv_at hl 0 rfl) ?_
      refine gfX13_savedRows hx hb hts hK hP hown (hts _ tw_2087) (x := τ.1 32) rfl dX13_saveTop_95 ?_
      refine lv_iload_n hx hb dX13_saveTop_98 rfl (lv_at hl 1 rfl) ?_
      refine sdMX13_savedSize hx hb hK hP hD hS c9 dX13_saveTop_99 (fun H locs hP hD hS => ?_)
      have hN : n_m (s_a (s_a τ 44 (τ.1 32) (τ.1 33)) 45 (τ.1 32) u1) := n_a (k := 45) (j := τ.1 32) hN (r_u1 : rg u1)
      have hF : f_r [32, 33, 35] [44, 45, 46, 47] [] σ (s_a (s_a τ 44 (τ.1 32) (τ.1 33)) 45 (τ.1 32) u1) := f_a hF (by decide)
      refine lv_aload_n hx hb dX13_saveTop_100 rfl (lv_at hl 0 rfl) ?_
      refine gfX13_savedRow hx hb hts hK hP hown (hts _ tw_2086) dX13_saveTop_101 ?_
      refine lv_aload_n hx hb dX13_saveTop_104 rfl (lv_at hl 0 rfl) ?_
      refine gfX13_savedRows hx hb hts hK hP hown (hts _ tw_2087) (x := τ.1 32) rfl dX13_saveTop_105 ?_
      refine lv_aload_n hx hb dX13_saveTop_108 rfl (lv_at hl 0 rfl) ?_
      refine gfX13_pileRow hx hb hts hK hP hown (hts _ tw_2080) dX13_saveTop_109 ?_
      refine lv_aload_n hx hb dX13_saveTop_112 rfl (lv_at hl 0 rfl) ?_
      refine gfX13_piled hx hb hts hK hP hown (hts _ tw_2081) (x := τ.1 30) rfl dX13_saveTop_113 ?_
      refine lv_iconst (v := I 1) hx hb dX13_saveTop_116 rfl ?_
      refine bi_isub hx hb dX13_saveTop_117 ?_
      obtain ⟨c10, hw⟩ := hw
      refine ldMX13_pileRow hx hb hK hP hN c10 dX13_saveTop_118 (fun x11 r_x11 e_x11 => ?_)
      replace hw := hw x11 r_x11 e_x11
      refine sdMX13_savedRow hx hb hK hP hD hS c9 dX13_saveTop_119 (fun H locs hP hD hS => ?_)
      have hN : n_m (s_a (s_a (s_a τ 44 (τ.1 32) (τ.1 33)) 45 (τ.1 32) u1) 46 (τ.1 32) x11) := n_a (k := 46) (j := τ.1 32) hN (r_x11 : rg x11)
      have hF : f_r [32, 33, 35] [44, 45, 46, 47] [] σ (s_a (s_a (s_a τ 44 (τ.1 32) (τ.1 33)) 45 (τ.1 32) u1) 46 (τ.1 32) x11) := f_a hF (by decide)
      refine lv_aload_n hx hb dX13_saveTop_120 rfl (lv_at hl 0 rfl) ?_
      refine lv_dup hx hb dX13_saveTop_121 rfl ?_
      refine gfX13_savedTop hx hb hts hK hP hown (hts _ tw_2089) (x := τ.1 33) rfl dX13_saveTop_122 ?_
      refine lv_iload_n hx hb dX13_saveTop_125 rfl (lv_at hl 1 rfl) ?_
      refine bi_iadd hx hb dX13_saveTop_126 ?_
      obtain ⟨c12, hw⟩ := hw
      refine pfX13_savedTop hx hb hts hK hP hD hS hown (hts _ tw_2089) dX13_saveTop_127 (fun H locs hP hD hS => ?_)
      have hN : n_m (s_v (s_a (s_a (s_a τ 44 (τ.1 32) (τ.1 33)) 45 (τ.1 32) u1) 46 (τ.1 32) x11) 33 (τ.1 33 + u1)) := n_v (i := 33) hN (c12 : rg (τ.1 33 + u1))
      have hF : f_r [32, 33, 35] [44, 45, 46, 47] [] σ (s_v (s_a (s_a (s_a τ 44 (τ.1 32) (τ.1 33)) 45 (τ.1 32) u1) 46 (τ.1 32) x11) 33 (τ.1 33 + u1)) := f_v hF (by decide)
      refine lv_aload_n hx hb dX13_saveTop_130 rfl (lv_at hl 0 rfl) ?_
      refine lv_dup hx hb dX13_saveTop_131 rfl ?_
      refine gfX13_savedRows hx hb hts hK hP hown (hts _ tw_2087) (x := τ.1 32) rfl dX13_saveTop_132 ?_
      refine lv_iconst (v := I 1) hx hb dX13_saveTop_135 rfl ?_
      refine bi_iadd hx hb dX13_saveTop_136 ?_
      obtain ⟨c13, hw⟩ := hw
      refine pfX13_savedRows hx hb hts hK hP hD hS hown (hts _ tw_2087) dX13_saveTop_137 (fun H locs hP hD hS => ?_)
      have hN : n_m (s_v (s_v (s_a (s_a (s_a τ 44 (τ.1 32) (τ.1 33)) 45 (τ.1 32) u1) 46 (τ.1 32) x11) 33 (τ.1 33 + u1)) 32 (τ.1 32 + 1)) := n_v (i := 32) hN (c13 : rg (τ.1 32 + 1))
      have hF : f_r [32, 33, 35] [44, 45, 46, 47] [] σ (s_v (s_v (s_a (s_a (s_a τ 44 (τ.1 32) (τ.1 33)) 45 (τ.1 32) u1) 46 (τ.1 32) x11) 33 (τ.1 33 + u1)) 32 (τ.1 32 + 1)) := f_v hF (by decide)
      exact xrv hx hb hr hlk hP hK hD hS ⟨_, hN, hF, rfl, hw⟩ (Nat.le_of_ble_eq_true rfl) (Nat.le_of_ble_eq_true rfl) dX13_saveTop_140
    ·
      replace hw := hw.2 c8
      refine lv_aload_n hx hb dX13_saveTop_42 rfl (lv_at hl 0 rfl) ?_
      refine gfX13_savedSymbols hx hb hts hK hP hown (hts _ tw_2088) dX13_saveTop_43 ?_
      refine lv_aload_n hx hb dX13_saveTop_46 rfl (lv_at hl 0 rfl) ?_
      refine gfX13_savedTop hx hb hts hK hP hown (hts _ tw_2089) (x := τ.1 33) rfl dX13_saveTop_47 ?_
      refine lv_iload_n hx hb dX13_saveTop_50 rfl (lv_at hl 2 rfl) ?_
      refine bi_iadd hx hb dX13_saveTop_51 ?_
      refine lv_aload_n hx hb dX13_saveTop_52 rfl (lv_at hl 0 rfl) ?_
      refine gfX13_pileSymbols hx hb hts hK hP hown (hts _ tw_2082) dX13_saveTop_53 ?_
      refine lv_aload_n hx hb dX13_saveTop_56 rfl (lv_at hl 0 rfl) ?_
      refine gfX13_pileAt hx hb hts hK hP hown (hts _ tw_2078) dX13_saveTop_57 ?_
      refine lv_aload_n hx hb dX13_saveTop_60 rfl (lv_at hl 0 rfl) ?_
      refine gfX13_piled hx hb hts hK hP hown (hts _ tw_2081) (x := τ.1 30) rfl dX13_saveTop_61 ?_
      refine lv_iconst (v := I 1) hx hb dX13_saveTop_64 rfl ?_
      refine bi_isub hx hb dX13_saveTop_65 ?_
      obtain ⟨c14, hw⟩ := hw
      refine ldMX13_pileAt hx hb hK hP hN c14 dX13_saveTop_66 (fun x15 r_x15 e_x15 => ?_)
      replace hw := hw x15 r_x15 e_x15
      refine lv_iload_n hx hb dX13_saveTop_67 rfl (lv_at hl 2 rfl) ?_
      refine bi_iadd hx hb dX13_saveTop_68 ?_
      obtain ⟨c16, hw⟩ := hw
      refine ldMX13_pileSymbols hx hb hK hP hN c16 dX13_saveTop_69 (fun x17 r_x17 e_x17 => ?_)
      replace hw := hw x17 r_x17 e_x17
      obtain ⟨c18, hw⟩ := hw
      refine sdMX13_savedSymbols hx hb hK hP hD hS c18 dX13_saveTop_70 (fun H locs hP hD hS => ?_)
      have hN : n_m (s_a τ 47 (τ.1 33 + u2) x17) := n_a (k := 47) (j := (τ.1 33 + u2)) hN (r_x17 : rg x17)
      have hF : f_r [32, 33, 35] [44, 45, 46, 47] [] σ (s_a τ 47 (τ.1 33 + u2) x17) := f_a hF (by decide)
      refine lv_iinc (v := I (u2 + 1)) (lv' := [(2, .int (I (u2 + 1))), (0, .ref (q 0)), (1, .int (I u1))]) hx hb dX13_saveTop_71 hl (k := 2) rfl (I_add _ _) (by decide) rfl (fun ls hl => ?_)
      refine lv_goto (tgt := 37) hx hb dX13_saveTop_74 (by decide) ?_
      obtain ⟨c19, hw⟩ := hw
      exact (hP37 _ _ _).mp hw r_u1 c19 hN hF H locs ls hP hD hS (lv_sub hl [1, 2, 0] rfl)
def W_X13_doStep (n1 : Int) (n2 : Int) (n3 : Int) (σ : S0) (Q : S0 → Prop) : Prop :=
  ∀ (P96 : Int → S0 → Prop),
  (∀ (u1 : Int) (τ : S0), ((¬ τ.1 35 = 0 → Q τ) ∧ (τ.1 35 = 0 → (0 ≤ u1 ∧ u1 < 20001) ∧ (∀ (x24 : Int), rg x24 → x24 = τ.2.1 28 u1 → ((x24 = 0 → Q τ) ∧ (¬ x24 = 0 → ∃ (Q26 : S0 → Prop), W_X13_saveTop τ Q26 ∧ ∀ (τ28 : S0), n_m τ28 → f_r [32, 33, 35] [44, 45, 46, 47] [] τ τ28 → Q26 τ28 → (Q τ28)))))) → P96 u1 τ) →
  (0 ≤ n1 ∧ n1 < 20001) ∧ (∀ (x2 : Int), rg x2 → x2 = σ.2.1 27 n1 → ((0 ≤ x2 → (0 ≤ x2 ∧ x2 < 1501) ∧ (∀ (x5 : Int), rg x5 → x5 = σ.2.1 13 x2 → ((2 ≤ x5 → ∃ (Q7 : S0 → Prop), W_X13_applyStep x2 n2 n3 σ Q7 ∧ ∀ (τ9 : S0), n_m τ9 → f_r [30, 31, 34, 35] [40, 41, 42, 43, 48, 49, 50] [] σ τ9 → Q7 τ9 → (P96 n1 τ9)) ∧ (x5 < 2 → ∀ (x10 : Int), rg x10 → x10 = σ.2.1 14 x2 → (∀ (x11 : Int), rg x11 → x11 = σ.2.1 15 x2 → (∃ (Q12 : S0 → Prop), W_X13_pushRow_q17 x10 x11 n2 σ Q12 ∧ ∀ (τ14 : S0), n_m τ14 → f_r [30, 31, 35] [40, 41, 42, 43] [] σ τ14 → Q12 τ14 → (P96 n1 τ14))))))) ∧ (x2 < 0 → (0 ≤ ((-1) - x2) ∧ ((-1) - x2) < 300) ∧ (∀ (x16 : Int), rg x16 → x16 = σ.2.1 44 ((-1) - x2) → (∀ (x17 : Int), rg x17 → x17 = σ.2.1 45 ((-1) - x2) → (∀ (x18 : Int), rg x18 → x18 = σ.2.1 46 ((-1) - x2) → (∃ (Q19 : S0 → Prop), W_X13_pushRow_q50 x16 x17 x18 σ Q19 ∧ ∀ (τ21 : S0), n_m τ21 → f_r [30, 31, 35] [40, 41, 42, 43] [] σ τ21 → Q19 τ21 → (P96 n1 τ21))))))))
set_option maxRecDepth 100000 in
set_option maxHeartbeats 4000000 in
theorem L_X13_doStep (l : Launch) (g : gG) (q : Nat → Nat) (lb : Nat) (hlb : lb < 2 ^ 31) {n1 : Int} {n2 : Int} {n3 : Int} {σ : S0} {Q : S0 → Prop} (r_n1 : rg n1) (r_n2 : rg n2) (r_n3 : rg n3) (hN : n_m σ) (hw : W_X13_doStep n1 n2 n3 σ Q) (sz : Nat) : MetV l yX13_doStep cX13_doStep 5 { frames := 3, cells := 0, slots := 0, locals := 76 } g [.ref (q 0), .int (I n1), .int (I n2), .int (I n3)] (MX g q lb σ) sz xT (p_V (MX g q lb) [30, 31, 32, 33, 34, 35] [40, 41, 42, 43, 44, 45, 46, 47, 48, 49, 50] [] σ Q) 0 0 := by
  refine mkMet (Qc := fun A => QV g A (p_V (MX g q lb) [30, 31, 32, 33, 34, 35] [40, 41, 42, 43, 44, 45, 46, 47, 48, 49, 50] [] σ Q)) (by decide) (Nat.le_of_ble_eq_true rfl) ?_
  intro p e s m below meth c A H ls hx hb hr hml hown hts hlk hnm hsz hP hK hNb hD hA hAe hS hX hl
  have hl : lv_has ls 5 [(0, .ref (q 0)), (1, .int (I n1)), (2, .int (I n2)), (3, .int (I n3))] := hl
  have hB := hN
  have hF : f_r [30, 31, 32, 33, 34, 35] [40, 41, 42, 43, 44, 45, 46, 47, 48, 49, 50] [] σ σ := f_0
  obtain ⟨locs, hlocs⟩ : ∃ z : List Loc, z = [] := ⟨_, rfl⟩
  rw [← hlocs] at hS ⊢
  obtain ⟨P96, hP96⟩ : ∃ P : Int → S0 → Prop, ∀ (u1 : Int) (τ : S0), (P u1 τ ↔ (rg u1 → n_m τ → f_r [30, 31, 32, 33, 34, 35] [40, 41, 42, 43, 44, 45, 46, 47, 48, 49, 50] [] σ τ → ∀ (H : Heap) (locs : List Loc) (ls : Array Slot), KP g (MX g q lb τ) H → va_D A (MX g q lb τ) → va_S A s.heap H locs → lv_has ls 5 [(0, .ref (q 0)), (1, .int (I u1))] → W p l e ({ frames := 3, cells := 0, slots := 0, locals := 76 }) s m [.ref (q 0), .int (I n1), .int (I n2), .int (I n3)].toArray below meth c H locs 0 0 (MQ below (QV g A (p_V (MX g q lb) [30, 31, 32, 33, 34, 35] [40, 41, 42, 43, 44, 45, 46, 47, 48, 49, 50] [] σ Q)) [.ref (q 0), .int (I n1), .int (I n2), .int (I n3)].toArray s 0 0 A) (F0 m 96 ls []))) := ⟨_, fun _ _ => Iff.rfl⟩
  refine (fun hw => ?_) (hw P96 ?_)
  ·
    refine lv_aload_n hx hb dX13_doStep_0 rfl (lv_at hl 0 rfl) ?_
    refine gfX13_steps hx hb hts hK hP hown (hts _ tw_2042) dX13_doStep_1 ?_
    refine lv_iload_n hx hb dX13_doStep_4 rfl (lv_at hl 1 rfl) ?_
    obtain ⟨c1, hw⟩ := hw
    refine ldMX13_steps hx hb hK hP hN c1 dX13_doStep_5 (fun x2 r_x2 e_x2 => ?_)
    replace hw := hw x2 r_x2 e_x2
    refine lv_istore (lv' := [(4, .int (I x2)), (0, .ref (q 0)), (1, .int (I n1)), (2, .int (I n2)), (3, .int (I n3))]) hx hb dX13_doStep_6 hl (by decide) rfl (fun ls hl => ?_)
    refine lv_iload hx hb dX13_doStep_8 (lv_at hl 0 rfl) ?_
    refine bi_if_ge (tgt := 51) hx hb r_x2 dX13_doStep_10 (by decide) (fun c3 => ?_) (fun c3 => ?_)
    ·
      replace hw := hw.1 c3
      refine lv_aload_n hx hb dX13_doStep_51 rfl (lv_at hl 1 rfl) ?_
      refine gfX13_kindOf hx hb hts hK hP hown (hts _ tw_2025) dX13_doStep_52 ?_
      refine lv_iload hx hb dX13_doStep_55 (lv_at hl 0 rfl) ?_
      obtain ⟨c4, hw⟩ := hw
      refine ldMX13_kindOf hx hb hK hP hN c4 dX13_doStep_57 (fun x5 r_x5 e_x5 => ?_)
      replace hw := hw x5 r_x5 e_x5
      refine lv_iconst (v := I 2) hx hb dX13_doStep_58 rfl ?_
      refine bi_icmp_ge (tgt := 88) hx hb r_x5 (by decide) dX13_doStep_59 (by decide) (fun c6 => ?_) (fun c6 => ?_)
      ·
        replace hw := hw.1 c6
        refine lv_aload_n hx hb dX13_doStep_88 rfl (lv_at hl 1 rfl) ?_
        refine lv_iload hx hb dX13_doStep_89 (lv_at hl 0 rfl) ?_
        refine lv_iload_n hx hb dX13_doStep_91 rfl (lv_at hl 3 rfl) ?_
        refine lv_iload_n hx hb dX13_doStep_92 rfl (lv_at hl 4 rfl) ?_
        obtain ⟨Q7, hc, hw⟩ := hw
        refine wc_V (X := MX g q lb) (va_runV (As := [.int (I x2), .int (I n2), .int (I n3)]) (rest := []) ⟨hx, hb, hml, hown, hts⟩ (L_X13_applyStep l g q lb hlb r_x2 r_n2 r_n3 hN hc H.size) (cwV 3 hts (TB_V tw_2722 tw_2724 ts_144 tw_15 co_X13_applyStep) rfl rfl rfl (by decide +kernel) ⟨Nat.le_of_ble_eq_true rfl, Nat.le_of_ble_eq_true rfl⟩) (preV (q0 := 0) (ci := 13) rfl xT_bl hP hK hNb hD rfl rfl xT_at) rfl rfl hl.1 rfl (lv_room (Nat.le_of_ble_eq_true rfl)) dX13_doStep_93 ⟨Nat.le_of_ble_eq_true rfl, Nat.le_of_ble_eq_true rfl⟩) hP hD hS hA (fun τ9 H locs hN hf hq hP hD hS => ?_)
        replace hw := hw τ9 hN hf hq
        have hF : f_r [30, 31, 32, 33, 34, 35] [40, 41, 42, 43, 44, 45, 46, 47, 48, 49, 50] [] σ τ9 := f_t hF hf (by decide) (by decide) (by decide)
        have hB := hN
        exact (hP96 _ _).mp hw r_n1 hN hF H locs ls hP hD hS (lv_sub hl [1, 2] rfl)
      ·
        replace hw := hw.2 c6
        refine lv_aload_n hx hb dX13_doStep_62 rfl (lv_at hl 1 rfl) ?_
        refine lv_aload_n hx hb dX13_doStep_63 rfl (lv_at hl 1 rfl) ?_
        refine gfX13_texts hx hb hts hK hP hown (hts _ tw_2028) dX13_doStep_64 ?_
        refine lv_aload_n hx hb dX13_doStep_67 rfl (lv_at hl 1 rfl) ?_
        refine gfX13_textAt hx hb hts hK hP hown (hts _ tw_2026) dX13_doStep_68 ?_
        refine lv_iload hx hb dX13_doStep_71 (lv_at hl 0 rfl) ?_
        refine ldMX13_textAt hx hb hK hP hN c4 dX13_doStep_73 (fun x10 r_x10 e_x10 => ?_)
        replace hw := hw x10 r_x10 e_x10
        refine lv_aload_n hx hb dX13_doStep_74 rfl (lv_at hl 1 rfl) ?_
        refine gfX13_textSize hx hb hts hK hP hown (hts _ tw_2027) dX13_doStep_75 ?_
        refine lv_iload hx hb dX13_doStep_78 (lv_at hl 0 rfl) ?_
        refine ldMX13_textSize hx hb hK hP hN c4 dX13_doStep_80 (fun x11 r_x11 e_x11 => ?_)
        replace hw := hw x11 r_x11 e_x11
        refine lv_iload_n hx hb dX13_doStep_81 rfl (lv_at hl 3 rfl) ?_
        obtain ⟨Q12, hc, hw⟩ := hw
        refine wc_V (X := MX g q lb) (va_runV (As := [.ref (q 17), .int (I x10), .int (I x11), .int (I n2)]) (rest := []) ⟨hx, hb, hml, hown, hts⟩ (L_X13_pushRow_q17 l g q lb hlb r_x10 r_x11 r_n2 hN hc H.size) (cwV 4 hts (TB_V tw_2713 tw_2715 ts_142 tw_15 co_X13_pushRow) rfl rfl rfl (by decide +kernel) ⟨Nat.le_of_ble_eq_true rfl, Nat.le_of_ble_eq_true rfl⟩) (preV (q0 := 0) (ci := 13) rfl xT_bl hP hK hNb hD rfl rfl xT_at) rfl rfl hl.1 rfl (lv_room (Nat.le_of_ble_eq_true rfl)) dX13_doStep_82 ⟨Nat.le_of_ble_eq_true rfl, Nat.le_of_ble_eq_true rfl⟩) hP hD hS hA (fun τ14 H locs hN hf hq hP hD hS => ?_)
        replace hw := hw τ14 hN hf hq
        have hF : f_r [30, 31, 32, 33, 34, 35] [40, 41, 42, 43, 44, 45, 46, 47, 48, 49, 50] [] σ τ14 := f_t hF hf (by decide) (by decide) (by decide)
        have hB := hN
        refine lv_goto (tgt := 96) hx hb dX13_doStep_85 (by decide) ?_
        exact (hP96 _ _).mp hw r_n1 hN hF H locs ls hP hD hS (lv_sub hl [1, 2] rfl)
    ·
      replace hw := hw.2 c3
      refine lv_aload_n hx hb dX13_doStep_13 rfl (lv_at hl 1 rfl) ?_
      refine lv_aload_n hx hb dX13_doStep_14 rfl (lv_at hl 1 rfl) ?_
      refine gfX13_savedSymbols hx hb hts hK hP hown (hts _ tw_2088) dX13_doStep_15 ?_
      refine lv_aload_n hx hb dX13_doStep_18 rfl (lv_at hl 1 rfl) ?_
      refine gfX13_savedAt hx hb hts hK hP hown (hts _ tw_2084) dX13_doStep_19 ?_
      refine lv_iconst (v := I (-1)) hx hb dX13_doStep_22 rfl ?_
      refine lv_iload hx hb dX13_doStep_23 (lv_at hl 0 rfl) ?_
      refine bi_isub hx hb dX13_doStep_25 ?_
      obtain ⟨c15, hw⟩ := hw
      refine ldMX13_savedAt hx hb hK hP hN c15 dX13_doStep_26 (fun x16 r_x16 e_x16 => ?_)
      replace hw := hw x16 r_x16 e_x16
      refine lv_aload_n hx hb dX13_doStep_27 rfl (lv_at hl 1 rfl) ?_
      refine gfX13_savedSize hx hb hts hK hP hown (hts _ tw_2085) dX13_doStep_28 ?_
      refine lv_iconst (v := I (-1)) hx hb dX13_doStep_31 rfl ?_
      refine lv_iload hx hb dX13_doStep_32 (lv_at hl 0 rfl) ?_
      refine bi_isub hx hb dX13_doStep_34 ?_
      refine ldMX13_savedSize hx hb hK hP hN c15 dX13_doStep_35 (fun x17 r_x17 e_x17 => ?_)
      replace hw := hw x17 r_x17 e_x17
      refine lv_aload_n hx hb dX13_doStep_36 rfl (lv_at hl 1 rfl) ?_
      refine gfX13_savedRow hx hb hts hK hP hown (hts _ tw_2086) dX13_doStep_37 ?_
      refine lv_iconst (v := I (-1)) hx hb dX13_doStep_40 rfl ?_
      refine lv_iload hx hb dX13_doStep_41 (lv_at hl 0 rfl) ?_
      refine bi_isub hx hb dX13_doStep_43 ?_
      refine ldMX13_savedRow hx hb hK hP hN c15 dX13_doStep_44 (fun x18 r_x18 e_x18 => ?_)
      replace hw := hw x18 r_x18 e_x18
      obtain ⟨Q19, hc, hw⟩ := hw
      refine wc_V (X := MX g q lb) (va_runV (As := [.ref (q 50), .int (I x16), .int (I x17), .int (I x18)]) (rest := []) ⟨hx, hb, hml, hown, hts⟩ (L_X13_pushRow_q50 l g q lb hlb r_x16 r_x17 r_x18 hN hc H.size) (cwV 4 hts (TB_V tw_2713 tw_2715 ts_142 tw_15 co_X13_pushRow) rfl rfl rfl (by decide +kernel) ⟨Nat.le_of_ble_eq_true rfl, Nat.le_of_ble_eq_true rfl⟩) (preV (q0 := 0) (ci := 13) rfl xT_bl hP hK hNb hD rfl rfl xT_at) rfl rfl hl.1 rfl (lv_room (Nat.le_of_ble_eq_true rfl)) dX13_doStep_45 ⟨Nat.le_of_ble_eq_true rfl, Nat.le_of_ble_eq_true rfl⟩) hP hD hS hA (fun τ21 H locs hN hf hq hP hD hS => ?_)
      replace hw := hw τ21 hN hf hq
      have hF : f_r [30, 31, 32, 33, 34, 35] [40, 41, 42, 43, 44, 45, 46, 47, 48, 49, 50] [] σ τ21 := f_t hF hf (by decide) (by decide) (by decide)
      have hB := hN
      refine lv_goto (tgt := 96) hx hb dX13_doStep_48 (by decide) ?_
      exact (hP96 _ _).mp hw r_n1 hN hF H locs ls hP hD hS (lv_sub hl [1, 2] rfl)
  ·
    intro u1 τ hw
    refine (hP96 _ _).mpr ?_
    intro r_u1 hN hF H locs ls hP hD hS hl
    have hB := hN
    refine lv_aload_n hx hb dX13_doStep_96 rfl (lv_at hl 0 rfl) ?_
    refine gfX13_stepFault hx hb hts hK hP hown (hts _ tw_2094) (x := τ.1 35) rfl dX13_doStep_97 ?_
    refine bi_if_ne (tgt := 116) hx hb (hB.1 35) dX13_doStep_100 (by decide) (fun c22 => ?_) (fun c22 => ?_)
    ·
      replace hw := hw.1 c22
      exact xrv hx hb hr hlk hP hK hD hS ⟨_, hN, hF, rfl, hw⟩ (Nat.le_of_ble_eq_true rfl) (Nat.le_of_ble_eq_true rfl) dX13_doStep_116
    ·
      replace hw := hw.2 c22
      refine lv_aload_n hx hb dX13_doStep_103 rfl (lv_at hl 0 rfl) ?_
      refine gfX13_saves hx hb hts hK hP hown (hts _ tw_2043) dX13_doStep_104 ?_
      refine lv_iload_n hx hb dX13_doStep_107 rfl (lv_at hl 1 rfl) ?_
      obtain ⟨c23, hw⟩ := hw
      refine ldMX13_saves hx hb hK hP hN c23 dX13_doStep_108 (fun x24 r_x24 e_x24 => ?_)
      replace hw := hw x24 r_x24 e_x24
      refine bi_if_eq (tgt := 116) hx hb r_x24 dX13_doStep_109 (by decide) (fun c25 => ?_) (fun c25 => ?_)
      ·
        replace hw := hw.1 c25
        exact xrv hx hb hr hlk hP hK hD hS ⟨_, hN, hF, rfl, hw⟩ (Nat.le_of_ble_eq_true rfl) (Nat.le_of_ble_eq_true rfl) dX13_doStep_116
      ·
        replace hw := hw.2 c25
        refine lv_aload_n hx hb dX13_doStep_112 rfl (lv_at hl 0 rfl) ?_
        obtain ⟨Q26, hc, hw⟩ := hw
        refine wc_V (X := MX g q lb) (va_runV (As := []) (rest := []) ⟨hx, hb, hml, hown, hts⟩ (L_X13_saveTop l g q lb hlb  hN hc H.size) (cwV 0 hts (TB_V tw_2742 tw_2744 ts_149 tw_15 co_X13_saveTop) rfl rfl rfl (by decide +kernel) ⟨Nat.le_of_ble_eq_true rfl, Nat.le_of_ble_eq_true rfl⟩) (preV (q0 := 0) (ci := 13) rfl xT_bl hP hK hNb hD rfl rfl xT_at) rfl rfl hl.1 rfl (lv_room (Nat.le_of_ble_eq_true rfl)) dX13_doStep_113 ⟨Nat.le_of_ble_eq_true rfl, Nat.le_of_ble_eq_true rfl⟩) hP hD hS hA (fun τ28 H locs hN hf hq hP hD hS => ?_)
        replace hw := hw τ28 hN hf hq
        have hF : f_r [30, 31, 32, 33, 34, 35] [40, 41, 42, 43, 44, 45, 46, 47, 48, 49, 50] [] σ τ28 := f_t hF hf (by decide) (by decide) (by decide)
        have hB := hN
        exact xrv hx hb hr hlk hP hK hD hS ⟨_, hN, hF, rfl, hw⟩ (Nat.le_of_ble_eq_true rfl) (Nat.le_of_ble_eq_true rfl) dX13_doStep_116
def W_X13_verify (σ : S0) (Q : S0 → Prop) : Prop :=
  ∀ (P14 : Int → S0 → Prop) (P78 : S0 → Prop) (P131 : Int → Int → S0 → Prop) (P185 : Int → S0 → Prop),
  (∀ (u1 : Int) (τ : S0), ((0 ≤ τ.1 22 ∧ τ.1 22 < 1501) ∧ (∀ (x7 : Int), rg x7 → x7 = τ.2.1 25 (τ.1 22) → (∀ (x8 : Int), rg x8 → x8 = τ.2.1 26 (τ.1 22) → (rg (x7 + x8) ∧ ((x7 + x8) ≤ u1 → P78 τ) ∧ (u1 < (x7 + x8) → (¬ τ.1 20 = 0 → P78 τ) ∧ (τ.1 20 = 0 → ∃ (Q12 : S0 → Prop), W_X13_doStep u1 0 1 τ Q12 ∧ ∀ (τ14 : S0), n_m τ14 → f_r [30, 31, 32, 33, 34, 35] [40, 41, 42, 43, 44, 45, 46, 47, 48, 49, 50] [] τ τ14 → Q12 τ14 → ((τ14.1 35 ≤ 0 → rg (u1 + 1) ∧ P14 (u1 + 1) τ14) ∧ (0 < τ14.1 35 → (0 ≤ u1 ∧ u1 < 20001) ∧ (∀ (x18 : Int), rg x18 → x18 = τ14.2.1 29 u1 → (∃ (Q19 : S0 → Prop), W_X13_fail (τ14.1 35) x18 τ14 Q19 ∧ ∀ (τ21 : S0), n_m τ21 → f_r [20, 21] [] [] τ14 τ21 → Q19 τ21 → (rg (u1 + 1) ∧ P14 (u1 + 1) τ21))))))))))) → P14 u1 τ) →
  (∀ (τ : S0), ((τ.1 20 ≤ 0 → (τ.1 30 = 1 → ∀ (x25 : Int), rg x25 → x25 = τ.2.1 41 0 → ((0 ≤ τ.1 22 ∧ τ.1 22 < 1501) ∧ (∀ (x27 : Int), rg x27 → x27 = τ.2.1 15 (τ.1 22) → ((¬ x25 = x27 → P131 0 0 τ) ∧ (x25 = x27 → P131 1 0 τ))))) ∧ (¬ τ.1 30 = 1 → ∃ (Q29 : S0 → Prop), W_X13_fail 18 (τ.1 24) τ Q29 ∧ ∀ (τ31 : S0), n_m τ31 → f_r [20, 21] [] [] τ τ31 → Q29 τ31 → (Q τ31))) ∧ (0 < τ.1 20 → Q τ)) → P78 τ) →
  (∀ (u1 : Int) (u2 : Int) (τ : S0), ((0 ≤ τ.1 22 ∧ τ.1 22 < 1501) ∧ (∀ (x33 : Int), rg x33 → x33 = τ.2.1 15 (τ.1 22) → ((x33 ≤ u2 → P185 u1 τ) ∧ (u2 < x33 → (u1 = 0 → P185 u1 τ) ∧ (¬ u1 = 0 → (0 ≤ u2 ∧ u2 < 42000) ∧ (∀ (x37 : Int), rg x37 → x37 = τ.2.1 43 u2 → (∀ (x38 : Int), rg x38 → x38 = τ.2.1 14 (τ.1 22) → ((0 ≤ (x38 + u2) ∧ (x38 + u2) < 30400) ∧ (∀ (x40 : Int), rg x40 → x40 = τ.2.1 16 (x38 + u2) → ((¬ x37 = x40 → rg (u2 + 1) ∧ P131 0 (u2 + 1) τ) ∧ (x37 = x40 → rg (u2 + 1) ∧ P131 1 (u2 + 1) τ))))))))))) → P131 u1 u2 τ) →
  (∀ (u1 : Int) (τ : S0), ((¬ u1 = 0 → Q τ) ∧ (u1 = 0 → ∃ (Q45 : S0 → Prop), W_X13_fail 19 (τ.1 24) τ Q45 ∧ ∀ (τ47 : S0), n_m τ47 → f_r [20, 21] [] [] τ τ47 → Q45 τ47 → (Q τ47))) → P185 u1 τ) →
  ∃ (Q1 : S0 → Prop), W_X13_beginSteps σ Q1 ∧ ∀ (τ3 : S0), n_m τ3 → f_r [30, 31, 32, 33, 35] [] [] σ τ3 → Q1 τ3 → ((0 ≤ τ3.1 22 ∧ τ3.1 22 < 1501) ∧ (∀ (x5 : Int), rg x5 → x5 = τ3.2.1 25 (τ3.1 22) → (P14 x5 τ3)))
set_option maxRecDepth 100000 in
set_option maxHeartbeats 4000000 in
theorem L_X13_verify (l : Launch) (g : gG) (q : Nat → Nat) (lb : Nat) (hlb : lb < 2 ^ 31) {σ : S0} {Q : S0 → Prop} (hN : n_m σ) (hw : W_X13_verify σ Q) (sz : Nat) : MetV l yX13_verify cX13_verify 3 { frames := 4, cells := 0, slots := 0, locals := 100 } g [.ref (q 0)] (MX g q lb σ) sz xT (p_V (MX g q lb) [20, 21, 30, 31, 32, 33, 34, 35] [40, 41, 42, 43, 44, 45, 46, 47, 48, 49, 50] [] σ Q) 0 0 := by
  refine mkMet (Qc := fun A => QV g A (p_V (MX g q lb) [20, 21, 30, 31, 32, 33, 34, 35] [40, 41, 42, 43, 44, 45, 46, 47, 48, 49, 50] [] σ Q)) (by decide) (Nat.le_of_ble_eq_true rfl) ?_
  intro p e s m below meth c A H ls hx hb hr hml hown hts hlk hnm hsz hP hK hNb hD hA hAe hS hX hl
  have hl : lv_has ls 3 [(0, .ref (q 0))] := hl
  have hB := hN
  have hF : f_r [20, 21, 30, 31, 32, 33, 34, 35] [40, 41, 42, 43, 44, 45, 46, 47, 48, 49, 50] [] σ σ := f_0
  obtain ⟨locs, hlocs⟩ : ∃ z : List Loc, z = [] := ⟨_, rfl⟩
  rw [← hlocs] at hS ⊢
  obtain ⟨P14, hP14⟩ : ∃ P : Int → S0 → Prop, ∀ (u1 : Int) (τ : S0), (P u1 τ ↔ (rg u1 → n_m τ → f_r [20, 21, 30, 31, 32, 33, 34, 35] [40, 41, 42, 43, 44, 45, 46, 47, 48, 49, 50] [] σ τ → ∀ (H : Heap) (locs : List Loc) (ls : Array Slot), KP g (MX g q lb τ) H → va_D A (MX g q lb τ) → va_S A s.heap H locs → lv_has ls 3 [(0, .ref (q 0)), (1, .int (I u1))] → W p l e ({ frames := 4, cells := 0, slots := 0, locals := 100 }) s m [.ref (q 0)].toArray below meth c H locs 0 0 (MQ below (QV g A (p_V (MX g q lb) [20, 21, 30, 31, 32, 33, 34, 35] [40, 41, 42, 43, 44, 45, 46, 47, 48, 49, 50] [] σ Q)) [.ref (q 0)].toArray s 0 0 A) (F0 m 14 ls []))) := ⟨_, fun _ _ => Iff.rfl⟩
  obtain ⟨P78, hP78⟩ : ∃ P : S0 → Prop, ∀ (τ : S0), (P τ ↔ (n_m τ → f_r [20, 21, 30, 31, 32, 33, 34, 35] [40, 41, 42, 43, 44, 45, 46, 47, 48, 49, 50] [] σ τ → ∀ (H : Heap) (locs : List Loc) (ls : Array Slot), KP g (MX g q lb τ) H → va_D A (MX g q lb τ) → va_S A s.heap H locs → lv_has ls 3 [(0, .ref (q 0))] → W p l e ({ frames := 4, cells := 0, slots := 0, locals := 100 }) s m [.ref (q 0)].toArray below meth c H locs 0 0 (MQ below (QV g A (p_V (MX g q lb) [20, 21, 30, 31, 32, 33, 34, 35] [40, 41, 42, 43, 44, 45, 46, 47, 48, 49, 50] [] σ Q)) [.ref (q 0)].toArray s 0 0 A) (F0 m 78 ls []))) := ⟨_, fun _ => Iff.rfl⟩
  obtain ⟨P131, hP131⟩ : ∃ P : Int → Int → S0 → Prop, ∀ (u1 : Int) (u2 : Int) (τ : S0), (P u1 u2 τ ↔ (rg u1 → rg u2 → n_m τ → f_r [20, 21, 30, 31, 32, 33, 34, 35] [40, 41, 42, 43, 44, 45, 46, 47, 48, 49, 50] [] σ τ → ∀ (H : Heap) (locs : List Loc) (ls : Array Slot), KP g (MX g q lb τ) H → va_D A (MX g q lb τ) → va_S A s.heap H locs → lv_has ls 3 [(0, .ref (q 0)), (1, .int (I u1)), (2, .int (I u2))] → W p l e ({ frames := 4, cells := 0, slots := 0, locals := 100 }) s m [.ref (q 0)].toArray below meth c H locs 0 0 (MQ below (QV g A (p_V (MX g q lb) [20, 21, 30, 31, 32, 33, 34, 35] [40, 41, 42, 43, 44, 45, 46, 47, 48, 49, 50] [] σ Q)) [.ref (q 0)].toArray s 0 0 A) (F0 m 131 ls []))) := ⟨_, fun _ _ _ => Iff.rfl⟩
  obtain ⟨P185, hP185⟩ : ∃ P : Int → S0 → Prop, ∀ (u1 : Int) (τ : S0), (P u1 τ ↔ (rg u1 → n_m τ → f_r [20, 21, 30, 31, 32, 33, 34, 35] [40, 41, 42, 43, 44, 45, 46, 47, 48, 49, 50] [] σ τ → ∀ (H : Heap) (locs : List Loc) (ls : Array Slot), KP g (MX g q lb τ) H → va_D A (MX g q lb τ) → va_S A s.heap H locs → lv_has ls 3 [(0, .ref (q 0)), (1, .int (I u1))] → W p l e ({ frames := 4, cells := 0, slots := 0, locals := 100 }) s m [.ref (q 0)].toArray below meth c H locs 0 0 (MQ below (QV g A (p_V (MX g q lb) [20, 21, 30, 31, 32, 33, 34, 35] [40, 41, 42, 43, 44, 45, 46, 47, 48, 49, 50] [] σ Q)) [.ref (q 0)].toArray s 0 0 A) (F0 m 185 ls []))) := ⟨_, fun _ _ => Iff.rfl⟩
  refine (fun hw => ?_) (hw P14 P78 P131 P185 ?_ ?_ ?_ ?_)
  ·
    refine lv_aload_n hx hb dX13_verify_0 rfl (lv_at hl 0 rfl) ?_
    obtain ⟨Q1, hc, hw⟩ := hw
    refine wc_V (X := MX g q lb) (va_runV (As := []) (rest := []) ⟨hx, hb, hml, hown, hts⟩ (L_X13_beginSteps l g q lb hlb  hN hc H.size) (cwV 0 hts (TB_V tw_2705 tw_2707 ts_140 tw_15 co_X13_beginSteps) rfl rfl rfl (by decide +kernel) ⟨Nat.le_of_ble_eq_true rfl, Nat.le_of_ble_eq_true rfl⟩) (preV (q0 := 0) (ci := 13) rfl xT_bl hP hK hNb hD rfl rfl xT_at) rfl rfl hl.1 rfl (lv_room (Nat.le_of_ble_eq_true rfl)) dX13_verify_1 ⟨Nat.le_of_ble_eq_true rfl, Nat.le_of_ble_eq_true rfl⟩) hP hD hS hA (fun τ3 H locs hN hf hq hP hD hS => ?_)
    replace hw := hw τ3 hN hf hq
    have hF : f_r [20, 21, 30, 31, 32, 33, 34, 35] [40, 41, 42, 43, 44, 45, 46, 47, 48, 49, 50] [] σ τ3 := f_t hF hf (by decide) (by decide) (by decide)
    have hB := hN
    refine lv_aload_n hx hb dX13_verify_4 rfl (lv_at hl 0 rfl) ?_
    refine gfX13_stepAt hx hb hts hK hP hown (hts _ tw_2040) dX13_verify_5 ?_
    refine lv_aload_n hx hb dX13_verify_8 rfl (lv_at hl 0 rfl) ?_
    refine gfX13_now hx hb hts hK hP hown (hts _ tw_2068) (x := τ3.1 22) rfl dX13_verify_9 ?_
    obtain ⟨c4, hw⟩ := hw
    refine ldMX13_stepAt hx hb hK hP hN c4 dX13_verify_12 (fun x5 r_x5 e_x5 => ?_)
    replace hw := hw x5 r_x5 e_x5
    refine lv_istore_n (lv' := [(1, .int (I x5)), (0, .ref (q 0))]) hx hb dX13_verify_13 rfl hl (by decide) rfl (fun ls hl => ?_)
    exact (hP14 _ _).mp hw r_x5 hN hF H locs ls hP hD hS (lv_sub hl [1, 0] rfl)
  ·
    intro u1 τ hw
    refine (hP14 _ _).mpr ?_
    intro r_u1 hN hF H locs ls hP hD hS hl
    have hB := hN
    refine lv_iload_n hx hb dX13_verify_14 rfl (lv_at hl 1 rfl) ?_
    refine lv_aload_n hx hb dX13_verify_15 rfl (lv_at hl 0 rfl) ?_
    refine gfX13_stepAt hx hb hts hK hP hown (hts _ tw_2040) dX13_verify_16 ?_
    refine lv_aload_n hx hb dX13_verify_19 rfl (lv_at hl 0 rfl) ?_
    refine gfX13_now hx hb hts hK hP hown (hts _ tw_2068) (x := τ.1 22) rfl dX13_verify_20 ?_
    obtain ⟨c6, hw⟩ := hw
    refine ldMX13_stepAt hx hb hK hP hN c6 dX13_verify_23 (fun x7 r_x7 e_x7 => ?_)
    replace hw := hw x7 r_x7 e_x7
    refine lv_aload_n hx hb dX13_verify_24 rfl (lv_at hl 0 rfl) ?_
    refine gfX13_stepSize hx hb hts hK hP hown (hts _ tw_2041) dX13_verify_25 ?_
    refine lv_aload_n hx hb dX13_verify_28 rfl (lv_at hl 0 rfl) ?_
    refine gfX13_now hx hb hts hK hP hown (hts _ tw_2068) (x := τ.1 22) rfl dX13_verify_29 ?_
    refine ldMX13_stepSize hx hb hK hP hN c6 dX13_verify_32 (fun x8 r_x8 e_x8 => ?_)
    replace hw := hw x8 r_x8 e_x8
    refine bi_iadd hx hb dX13_verify_33 ?_
    obtain ⟨c9, hw⟩ := hw
    refine bi_icmp_ge (tgt := 78) hx hb r_u1 c9 dX13_verify_34 (by decide) (fun c10 => ?_) (fun c10 => ?_)
    ·
      replace hw := hw.1 c10
      exact (hP78 _).mp hw hN hF H locs ls hP hD hS (lv_sub hl [0] rfl)
    ·
      replace hw := hw.2 c10
      refine lv_aload_n hx hb dX13_verify_37 rfl (lv_at hl 0 rfl) ?_
      refine gfX13_fault hx hb hts hK hP hown (hts _ tw_2065) (x := τ.1 20) rfl dX13_verify_38 ?_
      refine bi_if_ne (tgt := 78) hx hb (hB.1 20) dX13_verify_41 (by decide) (fun c11 => ?_) (fun c11 => ?_)
      ·
        replace hw := hw.1 c11
        exact (hP78 _).mp hw hN hF H locs ls hP hD hS (lv_sub hl [0] rfl)
      ·
        replace hw := hw.2 c11
        refine lv_aload_n hx hb dX13_verify_44 rfl (lv_at hl 0 rfl) ?_
        refine lv_iload_n hx hb dX13_verify_45 rfl (lv_at hl 1 rfl) ?_
        refine lv_iconst (v := I 0) hx hb dX13_verify_46 rfl ?_
        refine lv_iconst (v := I 1) hx hb dX13_verify_47 rfl ?_
        obtain ⟨Q12, hc, hw⟩ := hw
        refine wc_V (X := MX g q lb) (va_runV (As := [.int (I u1), .int (I 0), .int (I 1)]) (rest := []) ⟨hx, hb, hml, hown, hts⟩ (L_X13_doStep l g q lb hlb r_u1 (by decide) (by decide) hN hc H.size) (cwV 3 hts (TB_V tw_2709 tw_2711 ts_141 tw_15 co_X13_doStep) rfl rfl rfl (by decide +kernel) ⟨Nat.le_of_ble_eq_true rfl, Nat.le_of_ble_eq_true rfl⟩) (preV (q0 := 0) (ci := 13) rfl xT_bl hP hK hNb hD rfl rfl xT_at) rfl rfl hl.1 rfl (lv_room (Nat.le_of_ble_eq_true rfl)) dX13_verify_48 ⟨Nat.le_of_ble_eq_true rfl, Nat.le_of_ble_eq_true rfl⟩) hP hD hS hA (fun τ14 H locs hN hf hq hP hD hS => ?_)
        replace hw := hw τ14 hN hf hq
        have hF : f_r [20, 21, 30, 31, 32, 33, 34, 35] [40, 41, 42, 43, 44, 45, 46, 47, 48, 49, 50] [] σ τ14 := f_t hF hf (by decide) (by decide) (by decide)
        have hB := hN
        refine lv_aload_n hx hb dX13_verify_51 rfl (lv_at hl 0 rfl) ?_
        refine gfX13_stepFault hx hb hts hK hP hown (hts _ tw_2094) (x := τ14.1 35) rfl dX13_verify_52 ?_
        refine bi_if_le (tgt := 72) hx hb (hB.1 35) dX13_verify_55 (by decide) (fun c15 => ?_) (fun c15 => ?_)
        ·
          replace hw := hw.1 c15
          refine lv_iinc (v := I (u1 + 1)) (lv' := [(1, .int (I (u1 + 1))), (0, .ref (q 0))]) hx hb dX13_verify_72 hl (k := 1) rfl (I_add _ _) (by decide) rfl (fun ls hl => ?_)
          refine lv_goto (tgt := 14) hx hb dX13_verify_75 (by decide) ?_
          obtain ⟨c16, hw⟩ := hw
          exact (hP14 _ _).mp hw c16 hN hF H locs ls hP hD hS (lv_sub hl [1, 0] rfl)
        ·
          replace hw := hw.2 c15
          refine lv_aload_n hx hb dX13_verify_58 rfl (lv_at hl 0 rfl) ?_
          refine lv_aload_n hx hb dX13_verify_59 rfl (lv_at hl 0 rfl) ?_
          refine gfX13_stepFault hx hb hts hK hP hown (hts _ tw_2094) (x := τ14.1 35) rfl dX13_verify_60 ?_
          refine lv_aload_n hx hb dX13_verify_63 rfl (lv_at hl 0 rfl) ?_
          refine gfX13_stepPlace hx hb hts hK hP hown (hts _ tw_2044) dX13_verify_64 ?_
          refine lv_iload_n hx hb dX13_verify_67 rfl (lv_at hl 1 rfl) ?_
          obtain ⟨c17, hw⟩ := hw
          refine ldMX13_stepPlace hx hb hK hP hN c17 dX13_verify_68 (fun x18 r_x18 e_x18 => ?_)
          replace hw := hw x18 r_x18 e_x18
          obtain ⟨Q19, hc, hw⟩ := hw
          refine wc_V (X := MX g q lb) (va_runV (As := [.int (I (τ14.1 35)), .int (I x18)]) (rest := []) ⟨hx, hb, hml, hown, hts⟩ (L_X13_fail l g q lb hlb (hB.1 35) r_x18 hN hc H.size) (cwV 2 hts (TB_V tw_2550 tw_2552 ts_106 tw_15 co_X13_fail) rfl rfl rfl (by decide +kernel) ⟨Nat.le_of_ble_eq_true rfl, Nat.le_of_ble_eq_true rfl⟩) (preV (q0 := 0) (ci := 13) rfl xT_bl hP hK hNb hD rfl rfl xT_at) rfl rfl hl.1 rfl (lv_room (Nat.le_of_ble_eq_true rfl)) dX13_verify_69 ⟨Nat.le_of_ble_eq_true rfl, Nat.le_of_ble_eq_true rfl⟩) hP hD hS hA (fun τ21 H locs hN hf hq hP hD hS => ?_)
          replace hw := hw τ21 hN hf hq
          have hF : f_r [20, 21, 30, 31, 32, 33, 34, 35] [40, 41, 42, 43, 44, 45, 46, 47, 48, 49, 50] [] σ τ21 := f_t hF hf (by decide) (by decide) (by decide)
          have hB := hN
          refine lv_iinc (v := I (u1 + 1)) (lv' := [(1, .int (I (u1 + 1))), (0, .ref (q 0))]) hx hb dX13_verify_72 hl (k := 1) rfl (I_add _ _) (by decide) rfl (fun ls hl => ?_)
          refine lv_goto (tgt := 14) hx hb dX13_verify_75 (by decide) ?_
          obtain ⟨c22, hw⟩ := hw
          exact (hP14 _ _).mp hw c22 hN hF H locs ls hP hD hS (lv_sub hl [1, 0] rfl)
  ·
    intro τ hw
    refine (hP78 _).mpr ?_
    intro hN hF H locs ls hP hD hS hl
    have hB := hN
    refine lv_aload_n hx hb dX13_verify_78 rfl (lv_at hl 0 rfl) ?_
    refine gfX13_fault hx hb hts hK hP hown (hts _ tw_2065) (x := τ.1 20) rfl dX13_verify_79 ?_
    refine bi_if_le (tgt := 86) hx hb (hB.1 20) dX13_verify_82 (by decide) (fun c23 => ?_) (fun c23 => ?_)
    ·
      replace hw := hw.1 c23
      refine lv_aload_n hx hb dX13_verify_86 rfl (lv_at hl 0 rfl) ?_
      refine gfX13_piled hx hb hts hK hP hown (hts _ tw_2081) (x := τ.1 30) rfl dX13_verify_87 ?_
      refine lv_iconst (v := I 1) hx hb dX13_verify_90 rfl ?_
      refine bi_icmp_eq (tgt := 105) hx hb (hB.1 30) (by decide) dX13_verify_91 (by decide) (fun c24 => ?_) (fun c24 => ?_)
      ·
        replace hw := hw.1 c24
        refine lv_aload_n hx hb dX13_verify_105 rfl (lv_at hl 0 rfl) ?_
        refine gfX13_pileSize hx hb hts hK hP hown (hts _ tw_2079) dX13_verify_106 ?_
        refine lv_iconst (v := I 0) hx hb dX13_verify_109 rfl ?_
        refine ldMX13_pileSize hx hb hK hP hN (by decide) dX13_verify_110 (fun x25 r_x25 e_x25 => ?_)
        replace hw := hw x25 r_x25 e_x25
        refine lv_aload_n hx hb dX13_verify_111 rfl (lv_at hl 0 rfl) ?_
        refine gfX13_textSize hx hb hts hK hP hown (hts _ tw_2027) dX13_verify_112 ?_
        refine lv_aload_n hx hb dX13_verify_115 rfl (lv_at hl 0 rfl) ?_
        refine gfX13_now hx hb hts hK hP hown (hts _ tw_2068) (x := τ.1 22) rfl dX13_verify_116 ?_
        obtain ⟨c26, hw⟩ := hw
        refine ldMX13_textSize hx hb hK hP hN c26 dX13_verify_119 (fun x27 r_x27 e_x27 => ?_)
        replace hw := hw x27 r_x27 e_x27
        refine bi_icmp_ne (tgt := 127) hx hb r_x25 r_x27 dX13_verify_120 (by decide) (fun c28 => ?_) (fun c28 => ?_)
        ·
          replace hw := hw.1 c28
          refine lv_iconst (v := I 0) hx hb dX13_verify_127 rfl ?_
          refine lv_istore_n (lv' := [(1, .int (I 0)), (0, .ref (q 0))]) hx hb dX13_verify_128 rfl hl (by decide) rfl (fun ls hl => ?_)
          refine lv_iconst (v := I 0) hx hb dX13_verify_129 rfl ?_
          refine lv_istore_n (lv' := [(2, .int (I 0)), (1, .int (I 0)), (0, .ref (q 0))]) hx hb dX13_verify_130 rfl hl (by decide) rfl (fun ls hl => ?_)
          exact (hP131 _ _ _).mp hw (by decide) (by decide) hN hF H locs ls hP hD hS (lv_sub hl [2, 1, 0] rfl)
        ·
          replace hw := hw.2 c28
          refine lv_iconst (v := I 1) hx hb dX13_verify_123 rfl ?_
          refine lv_goto (tgt := 128) hx hb dX13_verify_124 (by decide) ?_
          refine lv_istore_n (lv' := [(1, .int (I 1)), (0, .ref (q 0))]) hx hb dX13_verify_128 rfl hl (by decide) rfl (fun ls hl => ?_)
          refine lv_iconst (v := I 0) hx hb dX13_verify_129 rfl ?_
          refine lv_istore_n (lv' := [(2, .int (I 0)), (1, .int (I 1)), (0, .ref (q 0))]) hx hb dX13_verify_130 rfl hl (by decide) rfl (fun ls hl => ?_)
          exact (hP131 _ _ _).mp hw (by decide) (by decide) hN hF H locs ls hP hD hS (lv_sub hl [2, 1, 0] rfl)
      ·
        replace hw := hw.2 c24
        refine lv_aload_n hx hb dX13_verify_94 rfl (lv_at hl 0 rfl) ?_
        refine lv_bipush (v := I 18) hx hb dX13_verify_95 (by decide) ?_
        refine lv_aload_n hx hb dX13_verify_97 rfl (lv_at hl 0 rfl) ?_
        refine gfX13_lastPlace hx hb hts hK hP hown (hts _ tw_2071) (x := τ.1 24) rfl dX13_verify_98 ?_
        obtain ⟨Q29, hc, hw⟩ := hw
        refine wc_V (X := MX g q lb) (va_runV (As := [.int (I 18), .int (I (τ.1 24))]) (rest := []) ⟨hx, hb, hml, hown, hts⟩ (L_X13_fail l g q lb hlb (by decide) (hB.1 24) hN hc H.size) (cwV 2 hts (TB_V tw_2550 tw_2552 ts_106 tw_15 co_X13_fail) rfl rfl rfl (by decide +kernel) ⟨Nat.le_of_ble_eq_true rfl, Nat.le_of_ble_eq_true rfl⟩) (preV (q0 := 0) (ci := 13) rfl xT_bl hP hK hNb hD rfl rfl xT_at) rfl rfl hl.1 rfl (lv_room (Nat.le_of_ble_eq_true rfl)) dX13_verify_101 ⟨Nat.le_of_ble_eq_true rfl, Nat.le_of_ble_eq_true rfl⟩) hP hD hS hA (fun τ31 H locs hN hf hq hP hD hS => ?_)
        replace hw := hw τ31 hN hf hq
        have hF : f_r [20, 21, 30, 31, 32, 33, 34, 35] [40, 41, 42, 43, 44, 45, 46, 47, 48, 49, 50] [] σ τ31 := f_t hF hf (by decide) (by decide) (by decide)
        have hB := hN
        exact xrv hx hb hr hlk hP hK hD hS ⟨_, hN, hF, rfl, hw⟩ (Nat.le_of_ble_eq_true rfl) (Nat.le_of_ble_eq_true rfl) dX13_verify_104
    ·
      replace hw := hw.2 c23
      exact xrv hx hb hr hlk hP hK hD hS ⟨_, hN, hF, rfl, hw⟩ (Nat.le_of_ble_eq_true rfl) (Nat.le_of_ble_eq_true rfl) dX13_verify_85
  ·
    intro u1 u2 τ hw
    refine (hP131 _ _ _).mpr ?_
    intro r_u1 r_u2 hN hF H locs ls hP hD hS hl
    have hB := hN
    refine lv_iload_n hx hb dX13_verify_131 rfl (lv_at hl 2 rfl) ?_
    refine lv_aload_n hx hb dX13_verify_132 rfl (lv_at hl 0 rfl) ?_
    refine gfX13_textSize hx hb hts hK hP hown (hts _ tw_2027) dX13_verify_133 ?_
    refine lv_aload_n hx hb dX13_verify_136 rfl (lv_at hl 0 rfl) ?_
    refine gfX13_now hx hb hts hK hP hown (hts _ tw_2068) (x := τ.1 22) rfl dX13_verify_137 ?_
    obtain ⟨c32, hw⟩ := hw
    refine ldMX13_textSize hx hb hK hP hN c32 dX13_verify_140 (fun x33 r_x33 e_x33 => ?_)
    replace hw := hw x33 r_x33 e_x33
    refine bi_icmp_ge (tgt := 185) hx hb r_u2 r_x33 dX13_verify_141 (by decide) (fun c34 => ?_) (fun c34 => ?_)
    ·
      replace hw := hw.1 c34
      exact (hP185 _ _).mp hw r_u1 hN hF H locs ls hP hD hS (lv_sub hl [0, 1] rfl)
    ·
      replace hw := hw.2 c34
      refine lv_iload_n hx hb dX13_verify_144 rfl (lv_at hl 1 rfl) ?_
      refine bi_if_eq (tgt := 185) hx hb r_u1 dX13_verify_145 (by decide) (fun c35 => ?_) (fun c35 => ?_)
      ·
        replace hw := hw.1 c35
        exact (hP185 _ _).mp hw r_u1 hN hF H locs ls hP hD hS (lv_sub hl [0, 1] rfl)
      ·
        replace hw := hw.2 c35
        refine lv_aload_n hx hb dX13_verify_148 rfl (lv_at hl 0 rfl) ?_
        refine gfX13_pileSymbols hx hb hts hK hP hown (hts _ tw_2082) dX13_verify_149 ?_
        refine lv_iload_n hx hb dX13_verify_152 rfl (lv_at hl 2 rfl) ?_
        obtain ⟨c36, hw⟩ := hw
        refine ldMX13_pileSymbols hx hb hK hP hN c36 dX13_verify_153 (fun x37 r_x37 e_x37 => ?_)
        replace hw := hw x37 r_x37 e_x37
        refine lv_aload_n hx hb dX13_verify_154 rfl (lv_at hl 0 rfl) ?_
        refine gfX13_texts hx hb hts hK hP hown (hts _ tw_2028) dX13_verify_155 ?_
        refine lv_aload_n hx hb dX13_verify_158 rfl (lv_at hl 0 rfl) ?_
        refine gfX13_textAt hx hb hts hK hP hown (hts _ tw_2026) dX13_verify_159 ?_
        refine lv_aload_n hx hb dX13_verify_162 rfl (lv_at hl 0 rfl) ?_
        refine gfX13_now hx hb hts hK hP hown (hts _ tw_2068) (x := τ.1 22) rfl dX13_verify_163 ?_
        refine ldMX13_textAt hx hb hK hP hN c32 dX13_verify_166 (fun x38 r_x38 e_x38 => ?_)
        replace hw := hw x38 r_x38 e_x38
        refine lv_iload_n hx hb dX13_verify_167 rfl (lv_at hl 2 rfl) ?_
        refine bi_iadd hx hb dX13_verify_168 ?_
        obtain ⟨c39, hw⟩ := hw
        refine ldMX13_texts hx hb hK hP hN c39 dX13_verify_169 (fun x40 r_x40 e_x40 => ?_)
        replace hw := hw x40 r_x40 e_x40
        refine bi_icmp_ne (tgt := 177) hx hb r_x37 r_x40 dX13_verify_170 (by decide) (fun c41 => ?_) (fun c41 => ?_)
        ·
          replace hw := hw.1 c41
          refine lv_iconst (v := I 0) hx hb dX13_verify_177 rfl ?_
          refine lv_istore_n (lv' := [(1, .int (I 0)), (0, .ref (q 0)), (2, .int (I u2))]) hx hb dX13_verify_178 rfl hl (by decide) rfl (fun ls hl => ?_)
          refine lv_iinc (v := I (u2 + 1)) (lv' := [(2, .int (I (u2 + 1))), (1, .int (I 0)), (0, .ref (q 0))]) hx hb dX13_verify_179 hl (k := 2) rfl (I_add _ _) (by decide) rfl (fun ls hl => ?_)
          refine lv_goto (tgt := 131) hx hb dX13_verify_182 (by decide) ?_
          obtain ⟨c42, hw⟩ := hw
          exact (hP131 _ _ _).mp hw (by decide) c42 hN hF H locs ls hP hD hS (lv_sub hl [2, 1, 0] rfl)
        ·
          replace hw := hw.2 c41
          refine lv_iconst (v := I 1) hx hb dX13_verify_173 rfl ?_
          refine lv_goto (tgt := 178) hx hb dX13_verify_174 (by decide) ?_
          refine lv_istore_n (lv' := [(1, .int (I 1)), (0, .ref (q 0)), (2, .int (I u2))]) hx hb dX13_verify_178 rfl hl (by decide) rfl (fun ls hl => ?_)
          refine lv_iinc (v := I (u2 + 1)) (lv' := [(2, .int (I (u2 + 1))), (1, .int (I 1)), (0, .ref (q 0))]) hx hb dX13_verify_179 hl (k := 2) rfl (I_add _ _) (by decide) rfl (fun ls hl => ?_)
          refine lv_goto (tgt := 131) hx hb dX13_verify_182 (by decide) ?_
          obtain ⟨c43, hw⟩ := hw
          exact (hP131 _ _ _).mp hw (by decide) c43 hN hF H locs ls hP hD hS (lv_sub hl [2, 1, 0] rfl)
  ·
    intro u1 τ hw
    refine (hP185 _ _).mpr ?_
    intro r_u1 hN hF H locs ls hP hD hS hl
    have hB := hN
    refine lv_iload_n hx hb dX13_verify_185 rfl (lv_at hl 1 rfl) ?_
    refine bi_if_ne (tgt := 199) hx hb r_u1 dX13_verify_186 (by decide) (fun c44 => ?_) (fun c44 => ?_)
    ·
      replace hw := hw.1 c44
      exact xrv hx hb hr hlk hP hK hD hS ⟨_, hN, hF, rfl, hw⟩ (Nat.le_of_ble_eq_true rfl) (Nat.le_of_ble_eq_true rfl) dX13_verify_199
    ·
      replace hw := hw.2 c44
      refine lv_aload_n hx hb dX13_verify_189 rfl (lv_at hl 0 rfl) ?_
      refine lv_bipush (v := I 19) hx hb dX13_verify_190 (by decide) ?_
      refine lv_aload_n hx hb dX13_verify_192 rfl (lv_at hl 0 rfl) ?_
      refine gfX13_lastPlace hx hb hts hK hP hown (hts _ tw_2071) (x := τ.1 24) rfl dX13_verify_193 ?_
      obtain ⟨Q45, hc, hw⟩ := hw
      refine wc_V (X := MX g q lb) (va_runV (As := [.int (I 19), .int (I (τ.1 24))]) (rest := []) ⟨hx, hb, hml, hown, hts⟩ (L_X13_fail l g q lb hlb (by decide) (hB.1 24) hN hc H.size) (cwV 2 hts (TB_V tw_2550 tw_2552 ts_106 tw_15 co_X13_fail) rfl rfl rfl (by decide +kernel) ⟨Nat.le_of_ble_eq_true rfl, Nat.le_of_ble_eq_true rfl⟩) (preV (q0 := 0) (ci := 13) rfl xT_bl hP hK hNb hD rfl rfl xT_at) rfl rfl hl.1 rfl (lv_room (Nat.le_of_ble_eq_true rfl)) dX13_verify_196 ⟨Nat.le_of_ble_eq_true rfl, Nat.le_of_ble_eq_true rfl⟩) hP hD hS hA (fun τ47 H locs hN hf hq hP hD hS => ?_)
      replace hw := hw τ47 hN hf hq
      have hF : f_r [20, 21, 30, 31, 32, 33, 34, 35] [40, 41, 42, 43, 44, 45, 46, 47, 48, 49, 50] [] σ τ47 := f_t hF hf (by decide) (by decide) (by decide)
      have hB := hN
      exact xrv hx hb hr hlk hP hK hD hS ⟨_, hN, hF, rfl, hw⟩ (Nat.le_of_ble_eq_true rfl) (Nat.le_of_ble_eq_true rfl) dX13_verify_199
def W_X13_restOf (σ : S0) (Q : S0 → Prop) : Prop :=
  ∀ (P10 : Int → S0 → Prop) (P82 : Int → Int → Int → S0 → Prop),
  (∀ (u1 : Int) (τ : S0), ((0 ≤ τ.1 22 ∧ τ.1 22 < 1501) ∧ (∀ (x4 : Int), rg x4 → x4 = τ.2.1 25 (τ.1 22) → (∀ (x5 : Int), rg x5 → x5 = τ.2.1 26 (τ.1 22) → (rg (x4 + x5) ∧ ((x4 + x5) ≤ u1 → Q τ) ∧ (u1 < (x4 + x5) → (0 ≤ u1 ∧ u1 < 20001) ∧ (∀ (x9 : Int), rg x9 → x9 = τ.2.1 27 u1 → ((x9 < 0 → rg (u1 + 1) ∧ P10 (u1 + 1) τ) ∧ (0 ≤ x9 → (0 ≤ x9 ∧ x9 < 1501) ∧ (∀ (x13 : Int), rg x13 → x13 = τ.2.1 13 x9 → ((x13 < 2 → rg (u1 + 1) ∧ P10 (u1 + 1) τ) ∧ (2 ≤ x13 → ∀ (x16 : Int), rg x16 → (0 ≤ x9 → x16 = x9 / 64) → (x9 < 0 → x16 = -((-x9) / 64)) → ((0 ≤ ((24 * τ.1 22) + x16) ∧ ((24 * τ.1 22) + x16) < 36024) ∧ (∀ (x18 : Int64), x18 = τ.2.2 0 ((24 * τ.1 22) + x16) → (∀ (x19 : Int), rg x19 → (0 ≤ x9 → x19 = x9 % 64) → (x9 < 0 → x19 = -((-x9) % 64)) → (P82 u1 x9 0 (s_b τ 0 ((24 * τ.1 22) + x16) (x18 ||| (j_shl 1 x19)))))))))))))))))) → P10 u1 τ) →
  (∀ (u1 : Int) (u2 : Int) (u3 : Int) (τ : S0), ((24 ≤ u3 → rg (u1 + 1) ∧ P10 (u1 + 1) τ) ∧ (u3 < 24 → (0 ≤ ((24 * τ.1 22) + u3) ∧ ((24 * τ.1 22) + u3) < 36024) ∧ (∀ (x23 : Int64), x23 = τ.2.2 0 ((24 * τ.1 22) + u3) → ((0 ≤ ((24 * u2) + u3) ∧ ((24 * u2) + u3) < 36024) ∧ (∀ (x25 : Int64), x25 = τ.2.2 0 ((24 * u2) + u3) → (rg (u3 + 1) ∧ P82 u1 u2 (u3 + 1) (s_b τ 0 ((24 * τ.1 22) + u3) (x23 ||| x25)))))))) → P82 u1 u2 u3 τ) →
  (0 ≤ σ.1 22 ∧ σ.1 22 < 1501) ∧ (∀ (x2 : Int), rg x2 → x2 = σ.2.1 25 (σ.1 22) → (P10 x2 σ))
set_option maxRecDepth 100000 in
set_option maxHeartbeats 4000000 in
theorem L_X13_restOf (l : Launch) (g : gG) (q : Nat → Nat) (lb : Nat) (hlb : lb < 2 ^ 31) {σ : S0} {Q : S0 → Prop} (hN : n_m σ) (hw : W_X13_restOf σ Q) (sz : Nat) : MetV l yX13_restOf cX13_restOf 4 { frames := 0, cells := 0, slots := 0, locals := 0 } g [.ref (q 0)] (MX g q lb σ) sz xT (p_V (MX g q lb) [] [] [0] σ Q) 0 0 := by
  refine mkMet (Qc := fun A => QV g A (p_V (MX g q lb) [] [] [0] σ Q)) (by decide) (Nat.le_of_ble_eq_true rfl) ?_
  intro p e s m below meth c A H ls hx hb hr hml hown hts hlk hnm hsz hP hK hNb hD hA hAe hS hX hl
  have hl : lv_has ls 4 [(0, .ref (q 0))] := hl
  have hB := hN
  have hF : f_r [] [] [0] σ σ := f_0
  obtain ⟨locs, hlocs⟩ : ∃ z : List Loc, z = [] := ⟨_, rfl⟩
  rw [← hlocs] at hS ⊢
  obtain ⟨P10, hP10⟩ : ∃ P : Int → S0 → Prop, ∀ (u1 : Int) (τ : S0), (P u1 τ ↔ (rg u1 → n_m τ → f_r [] [] [0] σ τ → ∀ (H : Heap) (locs : List Loc) (ls : Array Slot), KP g (MX g q lb τ) H → va_D A (MX g q lb τ) → va_S A s.heap H locs → lv_has ls 4 [(0, .ref (q 0)), (1, .int (I u1))] → W p l e ({ frames := 0, cells := 0, slots := 0, locals := 0 }) s m [.ref (q 0)].toArray below meth c H locs 0 0 (MQ below (QV g A (p_V (MX g q lb) [] [] [0] σ Q)) [.ref (q 0)].toArray s 0 0 A) (F0 m 10 ls []))) := ⟨_, fun _ _ => Iff.rfl⟩
  obtain ⟨P82, hP82⟩ : ∃ P : Int → Int → Int → S0 → Prop, ∀ (u1 : Int) (u2 : Int) (u3 : Int) (τ : S0), (P u1 u2 u3 τ ↔ (rg u1 → rg u2 → rg u3 → n_m τ → f_r [] [] [0] σ τ → ∀ (H : Heap) (locs : List Loc) (ls : Array Slot), KP g (MX g q lb τ) H → va_D A (MX g q lb τ) → va_S A s.heap H locs → lv_has ls 4 [(0, .ref (q 0)), (1, .int (I u1)), (2, .int (I u2)), (3, .int (I u3))] → W p l e ({ frames := 0, cells := 0, slots := 0, locals := 0 }) s m [.ref (q 0)].toArray below meth c H locs 0 0 (MQ below (QV g A (p_V (MX g q lb) [] [] [0] σ Q)) [.ref (q 0)].toArray s 0 0 A) (F0 m 82 ls []))) := ⟨_, fun _ _ _ _ => Iff.rfl⟩
  refine (fun hw => ?_) (hw P10 P82 ?_ ?_)
  ·
    refine lv_aload_n hx hb dX13_restOf_0 rfl (lv_at hl 0 rfl) ?_
    refine gfX13_stepAt hx hb hts hK hP hown (hts _ tw_2040) dX13_restOf_1 ?_
    refine lv_aload_n hx hb dX13_restOf_4 rfl (lv_at hl 0 rfl) ?_
    refine gfX13_now hx hb hts hK hP hown (hts _ tw_2068) (x := σ.1 22) rfl dX13_restOf_5 ?_
    obtain ⟨c1, hw⟩ := hw
    refine ldMX13_stepAt hx hb hK hP hN c1 dX13_restOf_8 (fun x2 r_x2 e_x2 => ?_)
    replace hw := hw x2 r_x2 e_x2
    refine lv_istore_n (lv' := [(1, .int (I x2)), (0, .ref (q 0))]) hx hb dX13_restOf_9 rfl hl (by decide) rfl (fun ls hl => ?_)
    exact (hP10 _ _).mp hw r_x2 hN hF H locs ls hP hD hS (lv_sub hl [1, 0] rfl)
  ·
    intro u1 τ hw
    refine (hP10 _ _).mpr ?_
    intro r_u1 hN hF H locs ls hP hD hS hl
    have hB := hN
    refine lv_iload_n hx hb dX13_restOf_10 rfl (lv_at hl 1 rfl) ?_
    refine lv_aload_n hx hb dX13_restOf_11 rfl (lv_at hl 0 rfl) ?_
    refine gfX13_stepAt hx hb hts hK hP hown (hts _ tw_2040) dX13_restOf_12 ?_
    refine lv_aload_n hx hb dX13_restOf_15 rfl (lv_at hl 0 rfl) ?_
    refine gfX13_now hx hb hts hK hP hown (hts _ tw_2068) (x := τ.1 22) rfl dX13_restOf_16 ?_
    obtain ⟨c3, hw⟩ := hw
    refine ldMX13_stepAt hx hb hK hP hN c3 dX13_restOf_19 (fun x4 r_x4 e_x4 => ?_)
    replace hw := hw x4 r_x4 e_x4
    refine lv_aload_n hx hb dX13_restOf_20 rfl (lv_at hl 0 rfl) ?_
    refine gfX13_stepSize hx hb hts hK hP hown (hts _ tw_2041) dX13_restOf_21 ?_
    refine lv_aload_n hx hb dX13_restOf_24 rfl (lv_at hl 0 rfl) ?_
    refine gfX13_now hx hb hts hK hP hown (hts _ tw_2068) (x := τ.1 22) rfl dX13_restOf_25 ?_
    refine ldMX13_stepSize hx hb hK hP hN c3 dX13_restOf_28 (fun x5 r_x5 e_x5 => ?_)
    replace hw := hw x5 r_x5 e_x5
    refine bi_iadd hx hb dX13_restOf_29 ?_
    obtain ⟨c6, hw⟩ := hw
    refine bi_icmp_ge (tgt := 128) hx hb r_u1 c6 dX13_restOf_30 (by decide) (fun c7 => ?_) (fun c7 => ?_)
    ·
      replace hw := hw.1 c7
      exact xrv hx hb hr hlk hP hK hD hS ⟨_, hN, hF, rfl, hw⟩ (Nat.le_of_ble_eq_true rfl) (Nat.le_of_ble_eq_true rfl) dX13_restOf_128
    ·
      replace hw := hw.2 c7
      refine lv_aload_n hx hb dX13_restOf_33 rfl (lv_at hl 0 rfl) ?_
      refine gfX13_steps hx hb hts hK hP hown (hts _ tw_2042) dX13_restOf_34 ?_
      refine lv_iload_n hx hb dX13_restOf_37 rfl (lv_at hl 1 rfl) ?_
      obtain ⟨c8, hw⟩ := hw
      refine ldMX13_steps hx hb hK hP hN c8 dX13_restOf_38 (fun x9 r_x9 e_x9 => ?_)
      replace hw := hw x9 r_x9 e_x9
      refine lv_istore_n (lv' := [(2, .int (I x9)), (0, .ref (q 0)), (1, .int (I u1))]) hx hb dX13_restOf_39 rfl hl (by decide) rfl (fun ls hl => ?_)
      refine lv_iload_n hx hb dX13_restOf_40 rfl (lv_at hl 0 rfl) ?_
      refine bi_if_lt (tgt := 122) hx hb r_x9 dX13_restOf_41 (by decide) (fun c10 => ?_) (fun c10 => ?_)
      ·
        replace hw := hw.1 c10
        refine lv_iinc (v := I (u1 + 1)) (lv' := [(1, .int (I (u1 + 1))), (2, .int (I x9)), (0, .ref (q 0))]) hx hb dX13_restOf_122 hl (k := 2) rfl (I_add _ _) (by decide) rfl (fun ls hl => ?_)
        refine lv_goto (tgt := 10) hx hb dX13_restOf_125 (by decide) ?_
        obtain ⟨c11, hw⟩ := hw
        exact (hP10 _ _).mp hw c11 hN hF H locs ls hP hD hS (lv_sub hl [2, 0] rfl)
      ·
        replace hw := hw.2 c10
        refine lv_aload_n hx hb dX13_restOf_44 rfl (lv_at hl 1 rfl) ?_
        refine gfX13_kindOf hx hb hts hK hP hown (hts _ tw_2025) dX13_restOf_45 ?_
        refine lv_iload_n hx hb dX13_restOf_48 rfl (lv_at hl 0 rfl) ?_
        obtain ⟨c12, hw⟩ := hw
        refine ldMX13_kindOf hx hb hK hP hN c12 dX13_restOf_49 (fun x13 r_x13 e_x13 => ?_)
        replace hw := hw x13 r_x13 e_x13
        refine lv_iconst (v := I 2) hx hb dX13_restOf_50 rfl ?_
        refine bi_icmp_lt (tgt := 122) hx hb r_x13 (by decide) dX13_restOf_51 (by decide) (fun c14 => ?_) (fun c14 => ?_)
        ·
          replace hw := hw.1 c14
          refine lv_iinc (v := I (u1 + 1)) (lv' := [(1, .int (I (u1 + 1))), (2, .int (I x9)), (0, .ref (q 0))]) hx hb dX13_restOf_122 hl (k := 2) rfl (I_add _ _) (by decide) rfl (fun ls hl => ?_)
          refine lv_goto (tgt := 10) hx hb dX13_restOf_125 (by decide) ?_
          obtain ⟨c15, hw⟩ := hw
          exact (hP10 _ _).mp hw c15 hN hF H locs ls hP hD hS (lv_sub hl [2, 0] rfl)
        ·
          replace hw := hw.2 c14
          refine lv_aload_n hx hb dX13_restOf_54 rfl (lv_at hl 1 rfl) ?_
          refine gfX13_rest hx hb hts hK hP hown (hts _ tw_2046) dX13_restOf_55 ?_
          refine lv_bipush (v := I 24) hx hb dX13_restOf_58 (by decide) ?_
          refine lv_aload_n hx hb dX13_restOf_60 rfl (lv_at hl 1 rfl) ?_
          refine gfX13_now hx hb hts hK hP hown (hts _ tw_2068) (x := τ.1 22) rfl dX13_restOf_61 ?_
          refine bi_imul hx hb dX13_restOf_64 ?_
          refine lv_iload_n hx hb dX13_restOf_65 rfl (lv_at hl 0 rfl) ?_
          refine lv_bipush (v := I 64) hx hb dX13_restOf_66 (by decide) ?_
          refine bi_idiv hx hb r_x9 (by decide) (by decide) dX13_restOf_68 (fun x16 r_x16 p_x16 m_x16 => ?_)
          replace hw := hw x16 r_x16 p_x16 m_x16
          refine bi_iadd hx hb dX13_restOf_69 ?_
          refine lv_dup2_11 hx hb dX13_restOf_70 rfl rfl ?_
          obtain ⟨c17, hw⟩ := hw
          refine ldMX13_rest hx hb hK hP hN c17 dX13_restOf_71 (fun x18 e_x18 => ?_)
          replace hw := hw x18 e_x18
          refine lv_lconst (v := 1) hx hb dX13_restOf_72 (by decide) ?_
          refine lv_iload_n hx hb dX13_restOf_73 rfl (lv_at hl 0 rfl) ?_
          refine lv_bipush (v := I 64) hx hb dX13_restOf_74 (by decide) ?_
          refine bi_irem hx hb r_x9 (by decide) (by decide) dX13_restOf_76 (fun x19 r_x19 p_x19 m_x19 => ?_)
          replace hw := hw x19 r_x19 p_x19 m_x19
          refine bi_lshl hx hb dX13_restOf_77 ?_
          refine lv_lor hx hb dX13_restOf_78 ?_
          refine sdMX13_rest hx hb hK hP hD hS c17 dX13_restOf_79 (fun H locs hP hD hS => ?_)
          have hN : n_m (s_b τ 0 ((24 * τ.1 22) + x16) (x18 ||| (j_shl 1 x19))) := n_b (k := 0) (j := ((24 * τ.1 22) + x16)) (x := (x18 ||| (j_shl 1 x19))) hN
          have hF : f_r [] [] [0] σ (s_b τ 0 ((24 * τ.1 22) + x16) (x18 ||| (j_shl 1 x19))) := f_b hF (by decide)
          refine lv_iconst (v := I 0) hx hb dX13_restOf_80 rfl ?_
          refine lv_istore_n (lv' := [(3, .int (I 0)), (2, .int (I x9)), (0, .ref (q 0)), (1, .int (I u1))]) hx hb dX13_restOf_81 rfl hl (by decide) rfl (fun ls hl => ?_)
          exact (hP82 _ _ _ _).mp hw r_u1 r_x9 (by decide) hN hF H locs ls hP hD hS (lv_sub hl [2, 3, 1, 0] rfl)
  ·
    intro u1 u2 u3 τ hw
    refine (hP82 _ _ _ _).mpr ?_
    intro r_u1 r_u2 r_u3 hN hF H locs ls hP hD hS hl
    have hB := hN
    refine lv_iload_n hx hb dX13_restOf_82 rfl (lv_at hl 3 rfl) ?_
    refine lv_bipush (v := I 24) hx hb dX13_restOf_83 (by decide) ?_
    refine bi_icmp_ge (tgt := 122) hx hb r_u3 (by decide) dX13_restOf_85 (by decide) (fun c20 => ?_) (fun c20 => ?_)
    ·
      replace hw := hw.1 c20
      refine lv_iinc (v := I (u1 + 1)) (lv' := [(1, .int (I (u1 + 1))), (0, .ref (q 0)), (2, .int (I u2)), (3, .int (I u3))]) hx hb dX13_restOf_122 hl (k := 1) rfl (I_add _ _) (by decide) rfl (fun ls hl => ?_)
      refine lv_goto (tgt := 10) hx hb dX13_restOf_125 (by decide) ?_
      obtain ⟨c21, hw⟩ := hw
      exact (hP10 _ _).mp hw c21 hN hF H locs ls hP hD hS (lv_sub hl [1, 0] rfl)
    ·
      replace hw := hw.2 c20
      refine lv_aload_n hx hb dX13_restOf_88 rfl (lv_at hl 0 rfl) ?_
      refine gfX13_rest hx hb hts hK hP hown (hts _ tw_2046) dX13_restOf_89 ?_
      refine lv_bipush (v := I 24) hx hb dX13_restOf_92 (by decide) ?_
      refine lv_aload_n hx hb dX13_restOf_94 rfl (lv_at hl 0 rfl) ?_
      refine gfX13_now hx hb hts hK hP hown (hts _ tw_2068) (x := τ.1 22) rfl dX13_restOf_95 ?_
      refine bi_imul hx hb dX13_restOf_98 ?_
      refine lv_iload_n hx hb dX13_restOf_99 rfl (lv_at hl 3 rfl) ?_
      refine bi_iadd hx hb dX13_restOf_100 ?_
      refine lv_dup2_11 hx hb dX13_restOf_101 rfl rfl ?_
      obtain ⟨c22, hw⟩ := hw
      refine ldMX13_rest hx hb hK hP hN c22 dX13_restOf_102 (fun x23 e_x23 => ?_)
      replace hw := hw x23 e_x23
      refine lv_aload_n hx hb dX13_restOf_103 rfl (lv_at hl 0 rfl) ?_
      refine gfX13_rest hx hb hts hK hP hown (hts _ tw_2046) dX13_restOf_104 ?_
      refine lv_bipush (v := I 24) hx hb dX13_restOf_107 (by decide) ?_
      refine lv_iload_n hx hb dX13_restOf_109 rfl (lv_at hl 2 rfl) ?_
      refine bi_imul hx hb dX13_restOf_110 ?_
      refine lv_iload_n hx hb dX13_restOf_111 rfl (lv_at hl 3 rfl) ?_
      refine bi_iadd hx hb dX13_restOf_112 ?_
      obtain ⟨c24, hw⟩ := hw
      refine ldMX13_rest hx hb hK hP hN c24 dX13_restOf_113 (fun x25 e_x25 => ?_)
      replace hw := hw x25 e_x25
      refine lv_lor hx hb dX13_restOf_114 ?_
      refine sdMX13_rest hx hb hK hP hD hS c22 dX13_restOf_115 (fun H locs hP hD hS => ?_)
      have hN : n_m (s_b τ 0 ((24 * τ.1 22) + u3) (x23 ||| x25)) := n_b (k := 0) (j := ((24 * τ.1 22) + u3)) (x := (x23 ||| x25)) hN
      have hF : f_r [] [] [0] σ (s_b τ 0 ((24 * τ.1 22) + u3) (x23 ||| x25)) := f_b hF (by decide)
      refine lv_iinc (v := I (u3 + 1)) (lv' := [(3, .int (I (u3 + 1))), (0, .ref (q 0)), (1, .int (I u1)), (2, .int (I u2))]) hx hb dX13_restOf_116 hl (k := 3) rfl (I_add _ _) (by decide) rfl (fun ls hl => ?_)
      refine lv_goto (tgt := 82) hx hb dX13_restOf_119 (by decide) ?_
      obtain ⟨c26, hw⟩ := hw
      exact (hP82 _ _ _ _).mp hw r_u1 r_u2 c26 hN hF H locs ls hP hD hS (lv_sub hl [1, 2, 3, 0] rfl)
def W_X13_readTheorem (σ : S0) (Q : S0 → Prop) : Prop :=
  ∀ (P17 : S0 → Prop) (P78 : S0 → Prop) (P82 : S0 → Prop) (P109 : S0 → Prop) (P133 : Int → S0 → Prop),
  (∀ (τ : S0), ((τ.1 20 ≤ 0 → ∃ (Q9 : S0 → Prop), W_X13_next (s_v τ 23 0) Q9 ∧ ∀ (τ11 : S0), n_m τ11 → f_r [16, 17, 18, 19, 20, 21] [] [] (s_v τ 23 0) τ11 → Q9 τ11 → ((¬ τ11.1 20 = 0 → P78 τ11) ∧ (τ11.1 20 = 0 → (¬ τ11.1 19 = 1 → P78 τ11) ∧ (τ11.1 19 = 1 → (¬ τ11.1 18 = 1 → P78 τ11) ∧ (τ11.1 18 = 1 → (0 ≤ τ11.1 17 ∧ τ11.1 17 < 60000) ∧ (∀ (x16 : Int), rg x16 → x16 = τ11.2.1 0 (τ11.1 17) → ((¬ x16 = 40 → P78 τ11) ∧ (x16 = 40 → ∃ (Q18 : S0 → Prop), W_X13_readPacked τ11 Q18 ∧ ∀ (τ20 : S0), n_m τ20 → f_r [9, 16, 17, 18, 19, 20, 21, 23, 25, 26, 27, 28, 29] [26, 27, 28, 29, 39] [] τ11 τ20 → Q18 τ20 → (P82 τ20))))))))) ∧ (0 < τ.1 20 → Q τ)) → P17 τ) →
  (∀ (τ : S0), (∃ (Q21 : S0 → Prop), W_X13_readPlain τ Q21 ∧ ∀ (τ23 : S0), n_m τ23 → f_r [9, 16, 17, 18, 19, 20, 21, 23] [26, 27, 28, 29] [] τ τ23 → Q21 τ23 → (P82 τ23)) → P78 τ) →
  (∀ (τ : S0), ((τ.1 20 ≤ 0 → (¬ τ.1 23 = 0 → P109 (s_v τ 24 (τ.1 17))) ∧ (τ.1 23 = 0 → ∃ (Q26 : S0 → Prop), W_X13_verify (s_v τ 24 (τ.1 17)) Q26 ∧ ∀ (τ28 : S0), n_m τ28 → f_r [20, 21, 30, 31, 32, 33, 34, 35] [40, 41, 42, 43, 44, 45, 46, 47, 48, 49, 50] [] (s_v τ 24 (τ.1 17)) τ28 → Q26 τ28 → (P109 τ28))) ∧ (0 < τ.1 20 → Q τ)) → P82 τ) →
  (∀ (τ : S0), ((¬ τ.1 20 = 0 → Q τ) ∧ (τ.1 20 = 0 → ∃ (Q30 : S0 → Prop), W_X13_restOf τ Q30 ∧ ∀ (τ32 : S0), n_m τ32 → f_r [] [] [0] τ τ32 → Q30 τ32 → ((τ32.1 23 = 0 → P133 3 τ32) ∧ (¬ τ32.1 23 = 0 → P133 4 τ32)))) → P109 τ) →
  (∀ (k1 : Int) (τ : S0), (∃ (Q34 : S0 → Prop), W_X13_finish k1 τ Q34 ∧ ∀ (τ36 : S0), n_m τ36 → f_r [5] [13] [] τ τ36 → Q34 τ36 → (Q τ36)) → P133 k1 τ) →
  ∃ (Q1 : S0 → Prop), W_X13_readSymbols 61 σ Q1 ∧ ∀ (τ3 : S0), n_m τ3 → f_r [4, 6, 16, 17, 18, 19, 20, 21] [12, 15, 16, 17] [] σ τ3 → Q1 τ3 → ((¬ τ3.1 20 = 0 → P17 τ3) ∧ (τ3.1 20 = 0 → ∃ (Q5 : S0 → Prop), W_X13_makeFrame τ3 Q5 ∧ ∀ (τ7 : S0), n_m τ7 → f_r [7, 8, 20, 21] [19, 20, 22, 23, 24, 38] [] τ3 τ7 → Q5 τ7 → (P17 τ7)))
set_option maxRecDepth 100000 in
set_option maxHeartbeats 4000000 in
theorem L_X13_readTheorem (l : Launch) (g : gG) (q : Nat → Nat) (lb : Nat) (hlb : lb < 2 ^ 31) {σ : S0} {Q : S0 → Prop} (hN : n_m σ) (hw : W_X13_readTheorem σ Q) (sz : Nat) : MetV l yX13_readTheorem cX13_readTheorem 1 { frames := 6, cells := 0, slots := 0, locals := 128 } g [.ref (q 0)] (MX g q lb σ) sz xT (p_V (MX g q lb) [4, 5, 6, 7, 8, 9, 16, 17, 18, 19, 20, 21, 23, 24, 25, 26, 27, 28, 29, 30, 31, 32, 33, 34, 35] [12, 13, 15, 16, 17, 19, 20, 22, 23, 24, 26, 27, 28, 29, 38, 39, 40, 41, 42, 43, 44, 45, 46, 47, 48, 49, 50] [0] σ Q) 0 0 := by
  refine mkMet (Qc := fun A => QV g A (p_V (MX g q lb) [4, 5, 6, 7, 8, 9, 16, 17, 18, 19, 20, 21, 23, 24, 25, 26, 27, 28, 29, 30, 31, 32, 33, 34, 35] [12, 13, 15, 16, 17, 19, 20, 22, 23, 24, 26, 27, 28, 29, 38, 39, 40, 41, 42, 43, 44, 45, 46, 47, 48, 49, 50] [0] σ Q)) (by decide) (Nat.le_of_ble_eq_true rfl) ?_
  intro p e s m below meth c A H ls hx hb hr hml hown hts hlk hnm hsz hP hK hNb hD hA hAe hS hX hl
  have hl : lv_has ls 1 [(0, .ref (q 0))] := hl
  have hB := hN
  have hF : f_r [4, 5, 6, 7, 8, 9, 16, 17, 18, 19, 20, 21, 23, 24, 25, 26, 27, 28, 29, 30, 31, 32, 33, 34, 35] [12, 13, 15, 16, 17, 19, 20, 22, 23, 24, 26, 27, 28, 29, 38, 39, 40, 41, 42, 43, 44, 45, 46, 47, 48, 49, 50] [0] σ σ := f_0
  obtain ⟨locs, hlocs⟩ : ∃ z : List Loc, z = [] := ⟨_, rfl⟩
  rw [← hlocs] at hS ⊢
  obtain ⟨P17, hP17⟩ : ∃ P : S0 → Prop, ∀ (τ : S0), (P τ ↔ (n_m τ → f_r [4, 5, 6, 7, 8, 9, 16, 17, 18, 19, 20, 21, 23, 24, 25, 26, 27, 28, 29, 30, 31, 32, 33, 34, 35] [12, 13, 15, 16, 17, 19, 20, 22, 23, 24, 26, 27, 28, 29, 38, 39, 40, 41, 42, 43, 44, 45, 46, 47, 48, 49, 50] [0] σ τ → ∀ (H : Heap) (locs : List Loc) (ls : Array Slot), KP g (MX g q lb τ) H → va_D A (MX g q lb τ) → va_S A s.heap H locs → lv_has ls 1 [(0, .ref (q 0))] → W p l e ({ frames := 6, cells := 0, slots := 0, locals := 128 }) s m [.ref (q 0)].toArray below meth c H locs 0 0 (MQ below (QV g A (p_V (MX g q lb) [4, 5, 6, 7, 8, 9, 16, 17, 18, 19, 20, 21, 23, 24, 25, 26, 27, 28, 29, 30, 31, 32, 33, 34, 35] [12, 13, 15, 16, 17, 19, 20, 22, 23, 24, 26, 27, 28, 29, 38, 39, 40, 41, 42, 43, 44, 45, 46, 47, 48, 49, 50] [0] σ Q)) [.ref (q 0)].toArray s 0 0 A) (F0 m 17 ls []))) := ⟨_, fun _ => Iff.rfl⟩
  obtain ⟨P78, hP78⟩ : ∃ P : S0 → Prop, ∀ (τ : S0), (P τ ↔ (n_m τ → f_r [4, 5, 6, 7, 8, 9, 16, 17, 18, 19, 20, 21, 23, 24, 25, 26, 27, 28, 29, 30, 31, 32, 33, 34, 35] [12, 13, 15, 16, 17, 19, 20, 22, 23, 24, 26, 27, 28, 29, 38, 39, 40, 41, 42, 43, 44, 45, 46, 47, 48, 49, 50] [0] σ τ → ∀ (H : Heap) (locs : List Loc) (ls : Array Slot), KP g (MX g q lb τ) H → va_D A (MX g q lb τ) → va_S A s.heap H locs → lv_has ls 1 [(0, .ref (q 0))] → W p l e ({ frames := 6, cells := 0, slots := 0, locals := 128 }) s m [.ref (q 0)].toArray below meth c H locs 0 0 (MQ below (QV g A (p_V (MX g q lb) [4, 5, 6, 7, 8, 9, 16, 17, 18, 19, 20, 21, 23, 24, 25, 26, 27, 28, 29, 30, 31, 32, 33, 34, 35] [12, 13, 15, 16, 17, 19, 20, 22, 23, 24, 26, 27, 28, 29, 38, 39, 40, 41, 42, 43, 44, 45, 46, 47, 48, 49, 50] [0] σ Q)) [.ref (q 0)].toArray s 0 0 A) (F0 m 78 ls []))) := ⟨_, fun _ => Iff.rfl⟩
  obtain ⟨P82, hP82⟩ : ∃ P : S0 → Prop, ∀ (τ : S0), (P τ ↔ (n_m τ → f_r [4, 5, 6, 7, 8, 9, 16, 17, 18, 19, 20, 21, 23, 24, 25, 26, 27, 28, 29, 30, 31, 32, 33, 34, 35] [12, 13, 15, 16, 17, 19, 20, 22, 23, 24, 26, 27, 28, 29, 38, 39, 40, 41, 42, 43, 44, 45, 46, 47, 48, 49, 50] [0] σ τ → ∀ (H : Heap) (locs : List Loc) (ls : Array Slot), KP g (MX g q lb τ) H → va_D A (MX g q lb τ) → va_S A s.heap H locs → lv_has ls 1 [(0, .ref (q 0))] → W p l e ({ frames := 6, cells := 0, slots := 0, locals := 128 }) s m [.ref (q 0)].toArray below meth c H locs 0 0 (MQ below (QV g A (p_V (MX g q lb) [4, 5, 6, 7, 8, 9, 16, 17, 18, 19, 20, 21, 23, 24, 25, 26, 27, 28, 29, 30, 31, 32, 33, 34, 35] [12, 13, 15, 16, 17, 19, 20, 22, 23, 24, 26, 27, 28, 29, 38, 39, 40, 41, 42, 43, 44, 45, 46, 47, 48, 49, 50] [0] σ Q)) [.ref (q 0)].toArray s 0 0 A) (F0 m 82 ls []))) := ⟨_, fun _ => Iff.rfl⟩
  obtain ⟨P109, hP109⟩ : ∃ P : S0 → Prop, ∀ (τ : S0), (P τ ↔ (n_m τ → f_r [4, 5, 6, 7, 8, 9, 16, 17, 18, 19, 20, 21, 23, 24, 25, 26, 27, 28, 29, 30, 31, 32, 33, 34, 35] [12, 13, 15, 16, 17, 19, 20, 22, 23, 24, 26, 27, 28, 29, 38, 39, 40, 41, 42, 43, 44, 45, 46, 47, 48, 49, 50] [0] σ τ → ∀ (H : Heap) (locs : List Loc) (ls : Array Slot), KP g (MX g q lb τ) H → va_D A (MX g q lb τ) → va_S A s.heap H locs → lv_has ls 1 [(0, .ref (q 0))] → W p l e ({ frames := 6, cells := 0, slots := 0, locals := 128 }) s m [.ref (q 0)].toArray below meth c H locs 0 0 (MQ below (QV g A (p_V (MX g q lb) [4, 5, 6, 7, 8, 9, 16, 17, 18, 19, 20, 21, 23, 24, 25, 26, 27, 28, 29, 30, 31, 32, 33, 34, 35] [12, 13, 15, 16, 17, 19, 20, 22, 23, 24, 26, 27, 28, 29, 38, 39, 40, 41, 42, 43, 44, 45, 46, 47, 48, 49, 50] [0] σ Q)) [.ref (q 0)].toArray s 0 0 A) (F0 m 109 ls []))) := ⟨_, fun _ => Iff.rfl⟩
  obtain ⟨P133, hP133⟩ : ∃ P : Int → S0 → Prop, ∀ (k1 : Int) (τ : S0), (P k1 τ ↔ (rg k1 → n_m τ → f_r [4, 5, 6, 7, 8, 9, 16, 17, 18, 19, 20, 21, 23, 24, 25, 26, 27, 28, 29, 30, 31, 32, 33, 34, 35] [12, 13, 15, 16, 17, 19, 20, 22, 23, 24, 26, 27, 28, 29, 38, 39, 40, 41, 42, 43, 44, 45, 46, 47, 48, 49, 50] [0] σ τ → ∀ (H : Heap) (locs : List Loc) (ls : Array Slot), KP g (MX g q lb τ) H → va_D A (MX g q lb τ) → va_S A s.heap H locs → lv_has ls 1 [] → W p l e ({ frames := 6, cells := 0, slots := 0, locals := 128 }) s m [.ref (q 0)].toArray below meth c H locs 0 0 (MQ below (QV g A (p_V (MX g q lb) [4, 5, 6, 7, 8, 9, 16, 17, 18, 19, 20, 21, 23, 24, 25, 26, 27, 28, 29, 30, 31, 32, 33, 34, 35] [12, 13, 15, 16, 17, 19, 20, 22, 23, 24, 26, 27, 28, 29, 38, 39, 40, 41, 42, 43, 44, 45, 46, 47, 48, 49, 50] [0] σ Q)) [.ref (q 0)].toArray s 0 0 A) (F0 m 133 ls [.int (I k1), .ref (q 0)]))) := ⟨_, fun _ _ => Iff.rfl⟩
  refine (fun hw => ?_) (hw P17 P78 P82 P109 P133 ?_ ?_ ?_ ?_ ?_)
  ·
    refine lv_aload_n hx hb dX13_readTheorem_0 rfl (lv_at hl 0 rfl) ?_
    refine lv_bipush (v := I 61) hx hb dX13_readTheorem_1 (by decide) ?_
    obtain ⟨Q1, hc, hw⟩ := hw
    refine wc_V (X := MX g q lb) (va_runV (As := [.int (I 61)]) (rest := []) ⟨hx, hb, hml, hown, hts⟩ (L_X13_readSymbols l g q lb hlb (by decide) hN hc H.size) (cwV 1 hts (TB_V tw_2645 tw_2647 ts_126 tw_15 co_X13_readSymbols) rfl rfl rfl (by decide +kernel) ⟨Nat.le_of_ble_eq_true rfl, Nat.le_of_ble_eq_true rfl⟩) (preV (q0 := 0) (ci := 13) rfl xT_bl hP hK hNb hD rfl rfl xT_at) rfl rfl hl.1 rfl (lv_room (Nat.le_of_ble_eq_true rfl)) dX13_readTheorem_3 ⟨Nat.le_of_ble_eq_true rfl, Nat.le_of_ble_eq_true rfl⟩) hP hD hS hA (fun τ3 H locs hN hf hq hP hD hS => ?_)
    replace hw := hw τ3 hN hf hq
    have hF : f_r [4, 5, 6, 7, 8, 9, 16, 17, 18, 19, 20, 21, 23, 24, 25, 26, 27, 28, 29, 30, 31, 32, 33, 34, 35] [12, 13, 15, 16, 17, 19, 20, 22, 23, 24, 26, 27, 28, 29, 38, 39, 40, 41, 42, 43, 44, 45, 46, 47, 48, 49, 50] [0] σ τ3 := f_t hF hf (by decide) (by decide) (by decide)
    have hB := hN
    refine lv_aload_n hx hb dX13_readTheorem_6 rfl (lv_at hl 0 rfl) ?_
    refine gfX13_fault hx hb hts hK hP hown (hts _ tw_2065) (x := τ3.1 20) rfl dX13_readTheorem_7 ?_
    refine bi_if_ne (tgt := 17) hx hb (hB.1 20) dX13_readTheorem_10 (by decide) (fun c4 => ?_) (fun c4 => ?_)
    ·
      replace hw := hw.1 c4
      exact (hP17 _).mp hw hN hF H locs ls hP hD hS (lv_sub hl [0] rfl)
    ·
      replace hw := hw.2 c4
      refine lv_aload_n hx hb dX13_readTheorem_13 rfl (lv_at hl 0 rfl) ?_
      obtain ⟨Q5, hc, hw⟩ := hw
      refine wc_V (X := MX g q lb) (va_runV (As := []) (rest := []) ⟨hx, hb, hml, hown, hts⟩ (L_X13_makeFrame l g q lb hlb  hN hc H.size) (cwV 0 hts (TB_V tw_2657 tw_2659 ts_129 tw_15 co_X13_makeFrame) rfl rfl rfl (by decide +kernel) ⟨Nat.le_of_ble_eq_true rfl, Nat.le_of_ble_eq_true rfl⟩) (preV (q0 := 0) (ci := 13) rfl xT_bl hP hK hNb hD rfl rfl xT_at) rfl rfl hl.1 rfl (lv_room (Nat.le_of_ble_eq_true rfl)) dX13_readTheorem_14 ⟨Nat.le_of_ble_eq_true rfl, Nat.le_of_ble_eq_true rfl⟩) hP hD hS hA (fun τ7 H locs hN hf hq hP hD hS => ?_)
      replace hw := hw τ7 hN hf hq
      have hF : f_r [4, 5, 6, 7, 8, 9, 16, 17, 18, 19, 20, 21, 23, 24, 25, 26, 27, 28, 29, 30, 31, 32, 33, 34, 35] [12, 13, 15, 16, 17, 19, 20, 22, 23, 24, 26, 27, 28, 29, 38, 39, 40, 41, 42, 43, 44, 45, 46, 47, 48, 49, 50] [0] σ τ7 := f_t hF hf (by decide) (by decide) (by decide)
      have hB := hN
      exact (hP17 _).mp hw hN hF H locs ls hP hD hS (lv_sub hl [0] rfl)
  ·
    intro τ hw
    refine (hP17 _).mpr ?_
    intro hN hF H locs ls hP hD hS hl
    have hB := hN
    refine lv_aload_n hx hb dX13_readTheorem_17 rfl (lv_at hl 0 rfl) ?_
    refine gfX13_fault hx hb hts hK hP hown (hts _ tw_2065) (x := τ.1 20) rfl dX13_readTheorem_18 ?_
    refine bi_if_le (tgt := 25) hx hb (hB.1 20) dX13_readTheorem_21 (by decide) (fun c8 => ?_) (fun c8 => ?_)
    ·
      replace hw := hw.1 c8
      refine lv_aload_n hx hb dX13_readTheorem_25 rfl (lv_at hl 0 rfl) ?_
      refine lv_iconst (v := I 0) hx hb dX13_readTheorem_26 rfl ?_
      refine pfX13_isOpen hx hb hts hK hP hD hS hown (hts _ tw_2070) (by decide)  dX13_readTheorem_27 (fun H locs hP hD hS => ?_)
      have hN : n_m (s_v τ 23 0) := n_v (i := 23) hN ((by decide) : rg 0)
      have hF : f_r [4, 5, 6, 7, 8, 9, 16, 17, 18, 19, 20, 21, 23, 24, 25, 26, 27, 28, 29, 30, 31, 32, 33, 34, 35] [12, 13, 15, 16, 17, 19, 20, 22, 23, 24, 26, 27, 28, 29, 38, 39, 40, 41, 42, 43, 44, 45, 46, 47, 48, 49, 50] [0] σ (s_v τ 23 0) := f_v hF (by decide)
      refine lv_aload_n hx hb dX13_readTheorem_30 rfl (lv_at hl 0 rfl) ?_
      obtain ⟨Q9, hc, hw⟩ := hw
      refine wc_V (X := MX g q lb) (va_runV (As := []) (rest := []) ⟨hx, hb, hml, hown, hts⟩ (L_X13_next l g q lb hlb  hN hc H.size) (cwV 0 hts (TB_V tw_2536 tw_2538 ts_104 tw_15 co_X13_next) rfl rfl rfl (by decide +kernel) ⟨Nat.le_of_ble_eq_true rfl, Nat.le_of_ble_eq_true rfl⟩) (preV (q0 := 0) (ci := 13) rfl xT_bl hP hK hNb hD rfl rfl xT_at) rfl rfl hl.1 rfl (lv_room (Nat.le_of_ble_eq_true rfl)) dX13_readTheorem_31 ⟨Nat.le_of_ble_eq_true rfl, Nat.le_of_ble_eq_true rfl⟩) hP hD hS hA (fun τ11 H locs hN hf hq hP hD hS => ?_)
      replace hw := hw τ11 hN hf hq
      have hF : f_r [4, 5, 6, 7, 8, 9, 16, 17, 18, 19, 20, 21, 23, 24, 25, 26, 27, 28, 29, 30, 31, 32, 33, 34, 35] [12, 13, 15, 16, 17, 19, 20, 22, 23, 24, 26, 27, 28, 29, 38, 39, 40, 41, 42, 43, 44, 45, 46, 47, 48, 49, 50] [0] σ τ11 := f_t hF hf (by decide) (by decide) (by decide)
      have hB := hN
      refine lv_aload_n hx hb dX13_readTheorem_34 rfl (lv_at hl 0 rfl) ?_
      refine gfX13_fault hx hb hts hK hP hown (hts _ tw_2065) (x := τ11.1 20) rfl dX13_readTheorem_35 ?_
      refine bi_if_ne (tgt := 78) hx hb (hB.1 20) dX13_readTheorem_38 (by decide) (fun c12 => ?_) (fun c12 => ?_)
      ·
        replace hw := hw.1 c12
        exact (hP78 _).mp hw hN hF H locs ls hP hD hS (lv_sub hl [0] rfl)
      ·
        replace hw := hw.2 c12
        refine lv_aload_n hx hb dX13_readTheorem_41 rfl (lv_at hl 0 rfl) ?_
        refine gfX13_token hx hb hts hK hP hown (hts _ tw_2064) (x := τ11.1 19) rfl dX13_readTheorem_42 ?_
        refine lv_iconst (v := I 1) hx hb dX13_readTheorem_45 rfl ?_
        refine bi_icmp_ne (tgt := 78) hx hb (hB.1 19) (by decide) dX13_readTheorem_46 (by decide) (fun c13 => ?_) (fun c13 => ?_)
        ·
          replace hw := hw.1 c13
          exact (hP78 _).mp hw hN hF H locs ls hP hD hS (lv_sub hl [0] rfl)
        ·
          replace hw := hw.2 c13
          refine lv_aload_n hx hb dX13_readTheorem_49 rfl (lv_at hl 0 rfl) ?_
          refine gfX13_tokenSize hx hb hts hK hP hown (hts _ tw_2063) (x := τ11.1 18) rfl dX13_readTheorem_50 ?_
          refine lv_iconst (v := I 1) hx hb dX13_readTheorem_53 rfl ?_
          refine bi_icmp_ne (tgt := 78) hx hb (hB.1 18) (by decide) dX13_readTheorem_54 (by decide) (fun c14 => ?_) (fun c14 => ?_)
          ·
            replace hw := hw.1 c14
            exact (hP78 _).mp hw hN hF H locs ls hP hD hS (lv_sub hl [0] rfl)
          ·
            replace hw := hw.2 c14
            refine lv_aload_n hx hb dX13_readTheorem_57 rfl (lv_at hl 0 rfl) ?_
            refine gfX13_tape hx hb hts hK hP hown (hts _ tw_2006) dX13_readTheorem_58 ?_
            refine lv_aload_n hx hb dX13_readTheorem_61 rfl (lv_at hl 0 rfl) ?_
            refine gfX13_tokenAt hx hb hts hK hP hown (hts _ tw_2062) (x := τ11.1 17) rfl dX13_readTheorem_62 ?_
            obtain ⟨c15, hw⟩ := hw
            refine ldMX13_tape hx hb hK hP hN c15 dX13_readTheorem_65 (fun x16 r_x16 e_x16 => ?_)
            replace hw := hw x16 r_x16 e_x16
            refine lv_bipush (v := I 40) hx hb dX13_readTheorem_66 (by decide) ?_
            refine bi_icmp_ne (tgt := 78) hx hb r_x16 (by decide) dX13_readTheorem_68 (by decide) (fun c17 => ?_) (fun c17 => ?_)
            ·
              replace hw := hw.1 c17
              exact (hP78 _).mp hw hN hF H locs ls hP hD hS (lv_sub hl [0] rfl)
            ·
              replace hw := hw.2 c17
              refine lv_aload_n hx hb dX13_readTheorem_71 rfl (lv_at hl 0 rfl) ?_
              obtain ⟨Q18, hc, hw⟩ := hw
              refine wc_V (X := MX g q lb) (va_runV (As := []) (rest := []) ⟨hx, hb, hml, hown, hts⟩ (L_X13_readPacked l g q lb hlb  hN hc H.size) (cwV 0 hts (TB_V tw_2665 tw_2667 ts_131 tw_15 co_X13_readPacked) rfl rfl rfl (by decide +kernel) ⟨Nat.le_of_ble_eq_true rfl, Nat.le_of_ble_eq_true rfl⟩) (preV (q0 := 0) (ci := 13) rfl xT_bl hP hK hNb hD rfl rfl xT_at) rfl rfl hl.1 rfl (lv_room (Nat.le_of_ble_eq_true rfl)) dX13_readTheorem_72 ⟨Nat.le_of_ble_eq_true rfl, Nat.le_of_ble_eq_true rfl⟩) hP hD hS hA (fun τ20 H locs hN hf hq hP hD hS => ?_)
              replace hw := hw τ20 hN hf hq
              have hF : f_r [4, 5, 6, 7, 8, 9, 16, 17, 18, 19, 20, 21, 23, 24, 25, 26, 27, 28, 29, 30, 31, 32, 33, 34, 35] [12, 13, 15, 16, 17, 19, 20, 22, 23, 24, 26, 27, 28, 29, 38, 39, 40, 41, 42, 43, 44, 45, 46, 47, 48, 49, 50] [0] σ τ20 := f_t hF hf (by decide) (by decide) (by decide)
              have hB := hN
              refine lv_goto (tgt := 82) hx hb dX13_readTheorem_75 (by decide) ?_
              exact (hP82 _).mp hw hN hF H locs ls hP hD hS (lv_sub hl [0] rfl)
    ·
      replace hw := hw.2 c8
      exact xrv hx hb hr hlk hP hK hD hS ⟨_, hN, hF, rfl, hw⟩ (Nat.le_of_ble_eq_true rfl) (Nat.le_of_ble_eq_true rfl) dX13_readTheorem_24
  ·
    intro τ hw
    refine (hP78 _).mpr ?_
    intro hN hF H locs ls hP hD hS hl
    have hB := hN
    refine lv_aload_n hx hb dX13_readTheorem_78 rfl (lv_at hl 0 rfl) ?_
    obtain ⟨Q21, hc, hw⟩ := hw
    refine wc_V (X := MX g q lb) (va_runV (As := []) (rest := []) ⟨hx, hb, hml, hown, hts⟩ (L_X13_readPlain l g q lb hlb  hN hc H.size) (cwV 0 hts (TB_V tw_2697 tw_2699 ts_138 tw_15 co_X13_readPlain) rfl rfl rfl (by decide +kernel) ⟨Nat.le_of_ble_eq_true rfl, Nat.le_of_ble_eq_true rfl⟩) (preV (q0 := 0) (ci := 13) rfl xT_bl hP hK hNb hD rfl rfl xT_at) rfl rfl hl.1 rfl (lv_room (Nat.le_of_ble_eq_true rfl)) dX13_readTheorem_79 ⟨Nat.le_of_ble_eq_true rfl, Nat.le_of_ble_eq_true rfl⟩) hP hD hS hA (fun τ23 H locs hN hf hq hP hD hS => ?_)
    replace hw := hw τ23 hN hf hq
    have hF : f_r [4, 5, 6, 7, 8, 9, 16, 17, 18, 19, 20, 21, 23, 24, 25, 26, 27, 28, 29, 30, 31, 32, 33, 34, 35] [12, 13, 15, 16, 17, 19, 20, 22, 23, 24, 26, 27, 28, 29, 38, 39, 40, 41, 42, 43, 44, 45, 46, 47, 48, 49, 50] [0] σ τ23 := f_t hF hf (by decide) (by decide) (by decide)
    have hB := hN
    exact (hP82 _).mp hw hN hF H locs ls hP hD hS (lv_sub hl [0] rfl)
  ·
    intro τ hw
    refine (hP82 _).mpr ?_
    intro hN hF H locs ls hP hD hS hl
    have hB := hN
    refine lv_aload_n hx hb dX13_readTheorem_82 rfl (lv_at hl 0 rfl) ?_
    refine gfX13_fault hx hb hts hK hP hown (hts _ tw_2065) (x := τ.1 20) rfl dX13_readTheorem_83 ?_
    refine bi_if_le (tgt := 90) hx hb (hB.1 20) dX13_readTheorem_86 (by decide) (fun c24 => ?_) (fun c24 => ?_)
    ·
      replace hw := hw.1 c24
      refine lv_aload_n hx hb dX13_readTheorem_90 rfl (lv_at hl 0 rfl) ?_
      refine lv_aload_n hx hb dX13_readTheorem_91 rfl (lv_at hl 0 rfl) ?_
      refine gfX13_tokenAt hx hb hts hK hP hown (hts _ tw_2062) (x := τ.1 17) rfl dX13_readTheorem_92 ?_
      refine pfX13_lastPlace hx hb hts hK hP hD hS hown (hts _ tw_2071) dX13_readTheorem_95 (fun H locs hP hD hS => ?_)
      have hN : n_m (s_v τ 24 (τ.1 17)) := n_v (i := 24) hN ((hB.1 17) : rg (τ.1 17))
      have hF : f_r [4, 5, 6, 7, 8, 9, 16, 17, 18, 19, 20, 21, 23, 24, 25, 26, 27, 28, 29, 30, 31, 32, 33, 34, 35] [12, 13, 15, 16, 17, 19, 20, 22, 23, 24, 26, 27, 28, 29, 38, 39, 40, 41, 42, 43, 44, 45, 46, 47, 48, 49, 50] [0] σ (s_v τ 24 (τ.1 17)) := f_v hF (by decide)
      refine lv_aload_n hx hb dX13_readTheorem_98 rfl (lv_at hl 0 rfl) ?_
      refine gfX13_isOpen hx hb hts hK hP hown (hts _ tw_2070) (x := τ.1 23) rfl dX13_readTheorem_99 ?_
      refine bi_if_ne (tgt := 109) hx hb (hB.1 23) dX13_readTheorem_102 (by decide) (fun c25 => ?_) (fun c25 => ?_)
      ·
        replace hw := hw.1 c25
        exact (hP109 _).mp hw hN hF H locs ls hP hD hS (lv_sub hl [0] rfl)
      ·
        replace hw := hw.2 c25
        refine lv_aload_n hx hb dX13_readTheorem_105 rfl (lv_at hl 0 rfl) ?_
        obtain ⟨Q26, hc, hw⟩ := hw
        refine wc_V (X := MX g q lb) (va_runV (As := []) (rest := []) ⟨hx, hb, hml, hown, hts⟩ (L_X13_verify l g q lb hlb  hN hc H.size) (cwV 0 hts (TB_V tw_2701 tw_2703 ts_139 tw_15 co_X13_verify) rfl rfl rfl (by decide +kernel) ⟨Nat.le_of_ble_eq_true rfl, Nat.le_of_ble_eq_true rfl⟩) (preV (q0 := 0) (ci := 13) rfl xT_bl hP hK hNb hD rfl rfl xT_at) rfl rfl hl.1 rfl (lv_room (Nat.le_of_ble_eq_true rfl)) dX13_readTheorem_106 ⟨Nat.le_of_ble_eq_true rfl, Nat.le_of_ble_eq_true rfl⟩) hP hD hS hA (fun τ28 H locs hN hf hq hP hD hS => ?_)
        replace hw := hw τ28 hN hf hq
        have hF : f_r [4, 5, 6, 7, 8, 9, 16, 17, 18, 19, 20, 21, 23, 24, 25, 26, 27, 28, 29, 30, 31, 32, 33, 34, 35] [12, 13, 15, 16, 17, 19, 20, 22, 23, 24, 26, 27, 28, 29, 38, 39, 40, 41, 42, 43, 44, 45, 46, 47, 48, 49, 50] [0] σ τ28 := f_t hF hf (by decide) (by decide) (by decide)
        have hB := hN
        exact (hP109 _).mp hw hN hF H locs ls hP hD hS (lv_sub hl [0] rfl)
    ·
      replace hw := hw.2 c24
      exact xrv hx hb hr hlk hP hK hD hS ⟨_, hN, hF, rfl, hw⟩ (Nat.le_of_ble_eq_true rfl) (Nat.le_of_ble_eq_true rfl) dX13_readTheorem_89
  ·
    intro τ hw
    refine (hP109 _).mpr ?_
    intro hN hF H locs ls hP hD hS hl
    have hB := hN
    refine lv_aload_n hx hb dX13_readTheorem_109 rfl (lv_at hl 0 rfl) ?_
    refine gfX13_fault hx hb hts hK hP hown (hts _ tw_2065) (x := τ.1 20) rfl dX13_readTheorem_110 ?_
    refine bi_if_ne (tgt := 136) hx hb (hB.1 20) dX13_readTheorem_113 (by decide) (fun c29 => ?_) (fun c29 => ?_)
    ·
      replace hw := hw.1 c29
      exact xrv hx hb hr hlk hP hK hD hS ⟨_, hN, hF, rfl, hw⟩ (Nat.le_of_ble_eq_true rfl) (Nat.le_of_ble_eq_true rfl) dX13_readTheorem_136
    ·
      replace hw := hw.2 c29
      refine lv_aload_n hx hb dX13_readTheorem_116 rfl (lv_at hl 0 rfl) ?_
      obtain ⟨Q30, hc, hw⟩ := hw
      refine wc_V (X := MX g q lb) (va_runV (As := []) (rest := []) ⟨hx, hb, hml, hown, hts⟩ (L_X13_restOf l g q lb hlb  hN hc H.size) (cwV 0 hts (TB_V tw_2746 tw_2748 ts_150 tw_15 co_X13_restOf) rfl rfl rfl (by decide +kernel) ⟨Nat.le_of_ble_eq_true rfl, Nat.le_of_ble_eq_true rfl⟩) (preV (q0 := 0) (ci := 13) rfl xT_bl hP hK hNb hD rfl rfl xT_at) rfl rfl hl.1 rfl (lv_room (Nat.le_of_ble_eq_true rfl)) dX13_readTheorem_117 ⟨Nat.le_of_ble_eq_true rfl, Nat.le_of_ble_eq_true rfl⟩) hP hD hS hA (fun τ32 H locs hN hf hq hP hD hS => ?_)
      replace hw := hw τ32 hN hf hq
      have hF : f_r [4, 5, 6, 7, 8, 9, 16, 17, 18, 19, 20, 21, 23, 24, 25, 26, 27, 28, 29, 30, 31, 32, 33, 34, 35] [12, 13, 15, 16, 17, 19, 20, 22, 23, 24, 26, 27, 28, 29, 38, 39, 40, 41, 42, 43, 44, 45, 46, 47, 48, 49, 50] [0] σ τ32 := f_t hF hf (by decide) (by decide) (by decide)
      have hB := hN
      refine lv_aload_n hx hb dX13_readTheorem_120 rfl (lv_at hl 0 rfl) ?_
      refine lv_aload_n hx hb dX13_readTheorem_121 rfl (lv_at hl 0 rfl) ?_
      refine gfX13_isOpen hx hb hts hK hP hown (hts _ tw_2070) (x := τ32.1 23) rfl dX13_readTheorem_122 ?_
      refine bi_if_eq (tgt := 132) hx hb (hB.1 23) dX13_readTheorem_125 (by decide) (fun c33 => ?_) (fun c33 => ?_)
      ·
        replace hw := hw.1 c33
        refine lv_iconst (v := I 3) hx hb dX13_readTheorem_132 rfl ?_
        exact (hP133 _ _).mp hw (by decide) hN hF H locs ls hP hD hS (lv_sub hl [] rfl)
      ·
        replace hw := hw.2 c33
        refine lv_iconst (v := I 4) hx hb dX13_readTheorem_128 rfl ?_
        refine lv_goto (tgt := 133) hx hb dX13_readTheorem_129 (by decide) ?_
        exact (hP133 _ _).mp hw (by decide) hN hF H locs ls hP hD hS (lv_sub hl [] rfl)
  ·
    intro k1 τ hw
    refine (hP133 _ _).mpr ?_
    intro r_k1 hN hF H locs ls hP hD hS hl
    have hB := hN
    obtain ⟨Q34, hc, hw⟩ := hw
    refine wc_V (X := MX g q lb) (va_runV (As := [.int (I k1)]) (rest := []) ⟨hx, hb, hml, hown, hts⟩ (L_X13_finish l g q lb hlb r_k1 hN hc H.size) (cwV 1 hts (TB_V tw_2637 tw_2639 ts_124 tw_15 co_X13_finish) rfl rfl rfl (by decide +kernel) ⟨Nat.le_of_ble_eq_true rfl, Nat.le_of_ble_eq_true rfl⟩) (preV (q0 := 0) (ci := 13) rfl xT_bl hP hK hNb hD rfl rfl xT_at) rfl rfl hl.1 rfl (lv_room (Nat.le_of_ble_eq_true rfl)) dX13_readTheorem_133 ⟨Nat.le_of_ble_eq_true rfl, Nat.le_of_ble_eq_true rfl⟩) hP hD hS hA (fun τ36 H locs hN hf hq hP hD hS => ?_)
    replace hw := hw τ36 hN hf hq
    have hF : f_r [4, 5, 6, 7, 8, 9, 16, 17, 18, 19, 20, 21, 23, 24, 25, 26, 27, 28, 29, 30, 31, 32, 33, 34, 35] [12, 13, 15, 16, 17, 19, 20, 22, 23, 24, 26, 27, 28, 29, 38, 39, 40, 41, 42, 43, 44, 45, 46, 47, 48, 49, 50] [0] σ τ36 := f_t hF hf (by decide) (by decide) (by decide)
    have hB := hN
    exact xrv hx hb hr hlk hP hK hD hS ⟨_, hN, hF, rfl, hw⟩ (Nat.le_of_ble_eq_true rfl) (Nat.le_of_ble_eq_true rfl) dX13_readTheorem_136
def W_X13_readAssertion (n1 : Int) (σ : S0) (Q : S0 → Prop) : Prop :=
  ∀ (P26 : S0 → Prop),
  (∀ (τ : S0), ((¬ τ.1 20 = 0 → Q τ) ∧ (τ.1 20 = 0 → ∃ (Q13 : S0 → Prop), W_X13_finish 2 τ Q13 ∧ ∀ (τ15 : S0), n_m τ15 → f_r [5] [13] [] τ τ15 → Q13 τ15 → (Q τ15))) → P26 τ) →
  (n1 = 0 → ∃ (Q2 : S0 → Prop), W_X13_readSymbols 46 σ Q2 ∧ ∀ (τ4 : S0), n_m τ4 → f_r [4, 6, 16, 17, 18, 19, 20, 21] [12, 15, 16, 17] [] σ τ4 → Q2 τ4 → ((¬ τ4.1 20 = 0 → P26 τ4) ∧ (τ4.1 20 = 0 → ∃ (Q6 : S0 → Prop), W_X13_makeFrame τ4 Q6 ∧ ∀ (τ8 : S0), n_m τ8 → f_r [7, 8, 20, 21] [19, 20, 22, 23, 24, 38] [] τ4 τ8 → Q6 τ8 → (P26 τ8)))) ∧ (¬ n1 = 0 → ∃ (Q9 : S0 → Prop), W_X13_readTheorem σ Q9 ∧ ∀ (τ11 : S0), n_m τ11 → f_r [4, 5, 6, 7, 8, 9, 16, 17, 18, 19, 20, 21, 23, 24, 25, 26, 27, 28, 29, 30, 31, 32, 33, 34, 35] [12, 13, 15, 16, 17, 19, 20, 22, 23, 24, 26, 27, 28, 29, 38, 39, 40, 41, 42, 43, 44, 45, 46, 47, 48, 49, 50] [0] σ τ11 → Q9 τ11 → (Q τ11))
set_option maxRecDepth 100000 in
set_option maxHeartbeats 4000000 in
theorem L_X13_readAssertion (l : Launch) (g : gG) (q : Nat → Nat) (lb : Nat) (hlb : lb < 2 ^ 31) {n1 : Int} {σ : S0} {Q : S0 → Prop} (r_n1 : rg n1) (hN : n_m σ) (hw : W_X13_readAssertion n1 σ Q) (sz : Nat) : MetV l yX13_readAssertion cX13_readAssertion 2 { frames := 7, cells := 0, slots := 0, locals := 148 } g [.ref (q 0), .int (I n1)] (MX g q lb σ) sz xT (p_V (MX g q lb) [4, 5, 6, 7, 8, 9, 16, 17, 18, 19, 20, 21, 23, 24, 25, 26, 27, 28, 29, 30, 31, 32, 33, 34, 35] [12, 13, 15, 16, 17, 19, 20, 22, 23, 24, 26, 27, 28, 29, 38, 39, 40, 41, 42, 43, 44, 45, 46, 47, 48, 49, 50] [0] σ Q) 0 0 := by
  refine mkMet (Qc := fun A => QV g A (p_V (MX g q lb) [4, 5, 6, 7, 8, 9, 16, 17, 18, 19, 20, 21, 23, 24, 25, 26, 27, 28, 29, 30, 31, 32, 33, 34, 35] [12, 13, 15, 16, 17, 19, 20, 22, 23, 24, 26, 27, 28, 29, 38, 39, 40, 41, 42, 43, 44, 45, 46, 47, 48, 49, 50] [0] σ Q)) (by decide) (Nat.le_of_ble_eq_true rfl) ?_
  intro p e s m below meth c A H ls hx hb hr hml hown hts hlk hnm hsz hP hK hNb hD hA hAe hS hX hl
  have hl : lv_has ls 2 [(0, .ref (q 0)), (1, .int (I n1))] := hl
  have hB := hN
  have hF : f_r [4, 5, 6, 7, 8, 9, 16, 17, 18, 19, 20, 21, 23, 24, 25, 26, 27, 28, 29, 30, 31, 32, 33, 34, 35] [12, 13, 15, 16, 17, 19, 20, 22, 23, 24, 26, 27, 28, 29, 38, 39, 40, 41, 42, 43, 44, 45, 46, 47, 48, 49, 50] [0] σ σ := f_0
  obtain ⟨locs, hlocs⟩ : ∃ z : List Loc, z = [] := ⟨_, rfl⟩
  rw [← hlocs] at hS ⊢
  obtain ⟨P26, hP26⟩ : ∃ P : S0 → Prop, ∀ (τ : S0), (P τ ↔ (n_m τ → f_r [4, 5, 6, 7, 8, 9, 16, 17, 18, 19, 20, 21, 23, 24, 25, 26, 27, 28, 29, 30, 31, 32, 33, 34, 35] [12, 13, 15, 16, 17, 19, 20, 22, 23, 24, 26, 27, 28, 29, 38, 39, 40, 41, 42, 43, 44, 45, 46, 47, 48, 49, 50] [0] σ τ → ∀ (H : Heap) (locs : List Loc) (ls : Array Slot), KP g (MX g q lb τ) H → va_D A (MX g q lb τ) → va_S A s.heap H locs → lv_has ls 2 [(0, .ref (q 0))] → W p l e ({ frames := 7, cells := 0, slots := 0, locals := 148 }) s m [.ref (q 0), .int (I n1)].toArray below meth c H locs 0 0 (MQ below (QV g A (p_V (MX g q lb) [4, 5, 6, 7, 8, 9, 16, 17, 18, 19, 20, 21, 23, 24, 25, 26, 27, 28, 29, 30, 31, 32, 33, 34, 35] [12, 13, 15, 16, 17, 19, 20, 22, 23, 24, 26, 27, 28, 29, 38, 39, 40, 41, 42, 43, 44, 45, 46, 47, 48, 49, 50] [0] σ Q)) [.ref (q 0), .int (I n1)].toArray s 0 0 A) (F0 m 26 ls []))) := ⟨_, fun _ => Iff.rfl⟩
  refine (fun hw => ?_) (hw P26 ?_)
  ·
    refine lv_iload_n hx hb dX13_readAssertion_0 rfl (lv_at hl 1 rfl) ?_
    refine bi_if_eq (tgt := 9) hx hb r_n1 dX13_readAssertion_1 (by decide) (fun c1 => ?_) (fun c1 => ?_)
    ·
      replace hw := hw.1 c1
      refine lv_aload_n hx hb dX13_readAssertion_9 rfl (lv_at hl 0 rfl) ?_
      refine lv_bipush (v := I 46) hx hb dX13_readAssertion_10 (by decide) ?_
      obtain ⟨Q2, hc, hw⟩ := hw
      refine wc_V (X := MX g q lb) (va_runV (As := [.int (I 46)]) (rest := []) ⟨hx, hb, hml, hown, hts⟩ (L_X13_readSymbols l g q lb hlb (by decide) hN hc H.size) (cwV 1 hts (TB_V tw_2645 tw_2647 ts_126 tw_15 co_X13_readSymbols) rfl rfl rfl (by decide +kernel) ⟨Nat.le_of_ble_eq_true rfl, Nat.le_of_ble_eq_true rfl⟩) (preV (q0 := 0) (ci := 13) rfl xT_bl hP hK hNb hD rfl rfl xT_at) rfl rfl hl.1 rfl (lv_room (Nat.le_of_ble_eq_true rfl)) dX13_readAssertion_12 ⟨Nat.le_of_ble_eq_true rfl, Nat.le_of_ble_eq_true rfl⟩) hP hD hS hA (fun τ4 H locs hN hf hq hP hD hS => ?_)
      replace hw := hw τ4 hN hf hq
      have hF : f_r [4, 5, 6, 7, 8, 9, 16, 17, 18, 19, 20, 21, 23, 24, 25, 26, 27, 28, 29, 30, 31, 32, 33, 34, 35] [12, 13, 15, 16, 17, 19, 20, 22, 23, 24, 26, 27, 28, 29, 38, 39, 40, 41, 42, 43, 44, 45, 46, 47, 48, 49, 50] [0] σ τ4 := f_t hF hf (by decide) (by decide) (by decide)
      have hB := hN
      refine lv_aload_n hx hb dX13_readAssertion_15 rfl (lv_at hl 0 rfl) ?_
      refine gfX13_fault hx hb hts hK hP hown (hts _ tw_2065) (x := τ4.1 20) rfl dX13_readAssertion_16 ?_
      refine bi_if_ne (tgt := 26) hx hb (hB.1 20) dX13_readAssertion_19 (by decide) (fun c5 => ?_) (fun c5 => ?_)
      ·
        replace hw := hw.1 c5
        exact (hP26 _).mp hw hN hF H locs ls hP hD hS (lv_sub hl [0] rfl)
      ·
        replace hw := hw.2 c5
        refine lv_aload_n hx hb dX13_readAssertion_22 rfl (lv_at hl 0 rfl) ?_
        obtain ⟨Q6, hc, hw⟩ := hw
        refine wc_V (X := MX g q lb) (va_runV (As := []) (rest := []) ⟨hx, hb, hml, hown, hts⟩ (L_X13_makeFrame l g q lb hlb  hN hc H.size) (cwV 0 hts (TB_V tw_2657 tw_2659 ts_129 tw_15 co_X13_makeFrame) rfl rfl rfl (by decide +kernel) ⟨Nat.le_of_ble_eq_true rfl, Nat.le_of_ble_eq_true rfl⟩) (preV (q0 := 0) (ci := 13) rfl xT_bl hP hK hNb hD rfl rfl xT_at) rfl rfl hl.1 rfl (lv_room (Nat.le_of_ble_eq_true rfl)) dX13_readAssertion_23 ⟨Nat.le_of_ble_eq_true rfl, Nat.le_of_ble_eq_true rfl⟩) hP hD hS hA (fun τ8 H locs hN hf hq hP hD hS => ?_)
        replace hw := hw τ8 hN hf hq
        have hF : f_r [4, 5, 6, 7, 8, 9, 16, 17, 18, 19, 20, 21, 23, 24, 25, 26, 27, 28, 29, 30, 31, 32, 33, 34, 35] [12, 13, 15, 16, 17, 19, 20, 22, 23, 24, 26, 27, 28, 29, 38, 39, 40, 41, 42, 43, 44, 45, 46, 47, 48, 49, 50] [0] σ τ8 := f_t hF hf (by decide) (by decide) (by decide)
        have hB := hN
        exact (hP26 _).mp hw hN hF H locs ls hP hD hS (lv_sub hl [0] rfl)
    ·
      replace hw := hw.2 c1
      refine lv_aload_n hx hb dX13_readAssertion_4 rfl (lv_at hl 0 rfl) ?_
      obtain ⟨Q9, hc, hw⟩ := hw
      refine wc_V (X := MX g q lb) (va_runV (As := []) (rest := []) ⟨hx, hb, hml, hown, hts⟩ (L_X13_readTheorem l g q lb hlb  hN hc H.size) (cwV 0 hts (TB_V tw_2653 tw_2655 ts_128 tw_15 co_X13_readTheorem) rfl rfl rfl (by decide +kernel) ⟨Nat.le_of_ble_eq_true rfl, Nat.le_of_ble_eq_true rfl⟩) (preV (q0 := 0) (ci := 13) rfl xT_bl hP hK hNb hD rfl rfl xT_at) rfl rfl hl.1 rfl (lv_room (Nat.le_of_ble_eq_true rfl)) dX13_readAssertion_5 ⟨Nat.le_of_ble_eq_true rfl, Nat.le_of_ble_eq_true rfl⟩) hP hD hS hA (fun τ11 H locs hN hf hq hP hD hS => ?_)
      replace hw := hw τ11 hN hf hq
      have hF : f_r [4, 5, 6, 7, 8, 9, 16, 17, 18, 19, 20, 21, 23, 24, 25, 26, 27, 28, 29, 30, 31, 32, 33, 34, 35] [12, 13, 15, 16, 17, 19, 20, 22, 23, 24, 26, 27, 28, 29, 38, 39, 40, 41, 42, 43, 44, 45, 46, 47, 48, 49, 50] [0] σ τ11 := f_t hF hf (by decide) (by decide) (by decide)
      have hB := hN
      exact xrv hx hb hr hlk hP hK hD hS ⟨_, hN, hF, rfl, hw⟩ (Nat.le_of_ble_eq_true rfl) (Nat.le_of_ble_eq_true rfl) dX13_readAssertion_8
  ·
    intro τ hw
    refine (hP26 _).mpr ?_
    intro hN hF H locs ls hP hD hS hl
    have hB := hN
    refine lv_aload_n hx hb dX13_readAssertion_26 rfl (lv_at hl 0 rfl) ?_
    refine gfX13_fault hx hb hts hK hP hown (hts _ tw_2065) (x := τ.1 20) rfl dX13_readAssertion_27 ?_
    refine bi_if_ne (tgt := 38) hx hb (hB.1 20) dX13_readAssertion_30 (by decide) (fun c12 => ?_) (fun c12 => ?_)
    ·
      replace hw := hw.1 c12
      exact xrv hx hb hr hlk hP hK hD hS ⟨_, hN, hF, rfl, hw⟩ (Nat.le_of_ble_eq_true rfl) (Nat.le_of_ble_eq_true rfl) dX13_readAssertion_38
    ·
      replace hw := hw.2 c12
      refine lv_aload_n hx hb dX13_readAssertion_33 rfl (lv_at hl 0 rfl) ?_
      refine lv_iconst (v := I 2) hx hb dX13_readAssertion_34 rfl ?_
      obtain ⟨Q13, hc, hw⟩ := hw
      refine wc_V (X := MX g q lb) (va_runV (As := [.int (I 2)]) (rest := []) ⟨hx, hb, hml, hown, hts⟩ (L_X13_finish l g q lb hlb (by decide) hN hc H.size) (cwV 1 hts (TB_V tw_2637 tw_2639 ts_124 tw_15 co_X13_finish) rfl rfl rfl (by decide +kernel) ⟨Nat.le_of_ble_eq_true rfl, Nat.le_of_ble_eq_true rfl⟩) (preV (q0 := 0) (ci := 13) rfl xT_bl hP hK hNb hD rfl rfl xT_at) rfl rfl hl.1 rfl (lv_room (Nat.le_of_ble_eq_true rfl)) dX13_readAssertion_35 ⟨Nat.le_of_ble_eq_true rfl, Nat.le_of_ble_eq_true rfl⟩) hP hD hS hA (fun τ15 H locs hN hf hq hP hD hS => ?_)
      replace hw := hw τ15 hN hf hq
      have hF : f_r [4, 5, 6, 7, 8, 9, 16, 17, 18, 19, 20, 21, 23, 24, 25, 26, 27, 28, 29, 30, 31, 32, 33, 34, 35] [12, 13, 15, 16, 17, 19, 20, 22, 23, 24, 26, 27, 28, 29, 38, 39, 40, 41, 42, 43, 44, 45, 46, 47, 48, 49, 50] [0] σ τ15 := f_t hF hf (by decide) (by decide) (by decide)
      have hB := hN
      exact xrv hx hb hr hlk hP hK hD hS ⟨_, hN, hF, rfl, hw⟩ (Nat.le_of_ble_eq_true rfl) (Nat.le_of_ble_eq_true rfl) dX13_readAssertion_38
def W_X13_readLabelled (σ : S0) (Q : S0 → Prop) : Prop :=
  ∀ (P15 : S0 → Prop) (P91 : S0 → Prop) (P106 : Int → S0 → Prop),
  (∀ (τ : S0), ((τ.1 20 ≤ 0 → (¬ τ.1 19 = 102 → (¬ τ.1 19 = 101 → (τ.1 19 = 97 → P91 τ) ∧ (¬ τ.1 19 = 97 → (¬ τ.1 19 = 112 → ∃ (Q13 : S0 → Prop), W_X13_failHere 4 τ Q13 ∧ ∀ (τ15 : S0), n_m τ15 → f_r [20, 21] [] [] τ τ15 → Q13 τ15 → (Q τ15)) ∧ (τ.1 19 = 112 → P91 τ))) ∧ (τ.1 19 = 101 → ∃ (Q16 : S0 → Prop), W_X13_readSymbols 46 τ Q16 ∧ ∀ (τ18 : S0), n_m τ18 → f_r [4, 6, 16, 17, 18, 19, 20, 21] [12, 15, 16, 17] [] τ τ18 → Q16 τ18 → ((¬ τ18.1 20 = 0 → Q τ18) ∧ (τ18.1 20 = 0 → ∃ (Q20 : S0 → Prop), W_X13_finish 1 τ18 Q20 ∧ ∀ (τ22 : S0), n_m τ22 → f_r [5] [13] [] τ18 τ22 → Q20 τ22 → (∃ (Q23 : S0 → Prop), W_X13_activate τ22 Q23 ∧ ∀ (τ25 : S0), n_m τ25 → f_r [13] [31] [] τ22 τ25 → Q23 τ25 → (Q τ25)))))) ∧ (τ.1 19 = 102 → ∃ (Q26 : S0 → Prop), W_X13_readFloating τ Q26 ∧ ∀ (τ28 : S0), n_m τ28 → f_r [4, 5, 6, 13, 16, 17, 18, 19, 20, 21] [10, 11, 12, 13, 15, 16, 17, 31] [] τ τ28 → Q26 τ28 → (Q τ28))) ∧ (0 < τ.1 20 → Q τ)) → P15 τ) →
  (∀ (τ : S0), ((¬ τ.1 19 = 112 → P106 0 τ) ∧ (τ.1 19 = 112 → P106 1 τ)) → P91 τ) →
  (∀ (k1 : Int) (τ : S0), (∃ (Q30 : S0 → Prop), W_X13_readAssertion k1 τ Q30 ∧ ∀ (τ32 : S0), n_m τ32 → f_r [4, 5, 6, 7, 8, 9, 16, 17, 18, 19, 20, 21, 23, 24, 25, 26, 27, 28, 29, 30, 31, 32, 33, 34, 35] [12, 13, 15, 16, 17, 19, 20, 22, 23, 24, 26, 27, 28, 29, 38, 39, 40, 41, 42, 43, 44, 45, 46, 47, 48, 49, 50] [0] τ τ32 → Q30 τ32 → (Q τ32)) → P106 k1 τ) →
  ∃ (Q1 : S0 → Prop), W_X13_readLabel σ Q1 ∧ ∀ (τ3 : S0), n_m τ3 → f_r [2, 20, 21, 22] [1, 4, 5, 7, 14, 15, 18, 19, 21, 22, 25, 26] [0] σ τ3 → Q1 τ3 → ((¬ τ3.1 20 = 0 → P15 τ3) ∧ (τ3.1 20 = 0 → ∃ (Q5 : S0 → Prop), W_X13_next τ3 Q5 ∧ ∀ (τ7 : S0), n_m τ7 → f_r [16, 17, 18, 19, 20, 21] [] [] τ3 τ7 → Q5 τ7 → (P15 τ7)))
set_option maxRecDepth 100000 in
set_option maxHeartbeats 4000000 in
theorem L_X13_readLabelled (l : Launch) (g : gG) (q : Nat → Nat) (lb : Nat) (hlb : lb < 2 ^ 31) {σ : S0} {Q : S0 → Prop} (hN : n_m σ) (hw : W_X13_readLabelled σ Q) (sz : Nat) : MetV l yX13_readLabelled cX13_readLabelled 1 { frames := 8, cells := 0, slots := 0, locals := 169 } g [.ref (q 0)] (MX g q lb σ) sz xT (p_V (MX g q lb) [2, 4, 5, 6, 7, 8, 9, 13, 16, 17, 18, 19, 20, 21, 22, 23, 24, 25, 26, 27, 28, 29, 30, 31, 32, 33, 34, 35] [1, 4, 5, 7, 10, 11, 12, 13, 14, 15, 16, 17, 18, 19, 20, 21, 22, 23, 24, 25, 26, 27, 28, 29, 31, 38, 39, 40, 41, 42, 43, 44, 45, 46, 47, 48, 49, 50] [0] σ Q) 0 0 := by
  refine mkMet (Qc := fun A => QV g A (p_V (MX g q lb) [2, 4, 5, 6, 7, 8, 9, 13, 16, 17, 18, 19, 20, 21, 22, 23, 24, 25, 26, 27, 28, 29, 30, 31, 32, 33, 34, 35] [1, 4, 5, 7, 10, 11, 12, 13, 14, 15, 16, 17, 18, 19, 20, 21, 22, 23, 24, 25, 26, 27, 28, 29, 31, 38, 39, 40, 41, 42, 43, 44, 45, 46, 47, 48, 49, 50] [0] σ Q)) (by decide) (Nat.le_of_ble_eq_true rfl) ?_
  intro p e s m below meth c A H ls hx hb hr hml hown hts hlk hnm hsz hP hK hNb hD hA hAe hS hX hl
  have hl : lv_has ls 1 [(0, .ref (q 0))] := hl
  have hB := hN
  have hF : f_r [2, 4, 5, 6, 7, 8, 9, 13, 16, 17, 18, 19, 20, 21, 22, 23, 24, 25, 26, 27, 28, 29, 30, 31, 32, 33, 34, 35] [1, 4, 5, 7, 10, 11, 12, 13, 14, 15, 16, 17, 18, 19, 20, 21, 22, 23, 24, 25, 26, 27, 28, 29, 31, 38, 39, 40, 41, 42, 43, 44, 45, 46, 47, 48, 49, 50] [0] σ σ := f_0
  obtain ⟨locs, hlocs⟩ : ∃ z : List Loc, z = [] := ⟨_, rfl⟩
  rw [← hlocs] at hS ⊢
  obtain ⟨P15, hP15⟩ : ∃ P : S0 → Prop, ∀ (τ : S0), (P τ ↔ (n_m τ → f_r [2, 4, 5, 6, 7, 8, 9, 13, 16, 17, 18, 19, 20, 21, 22, 23, 24, 25, 26, 27, 28, 29, 30, 31, 32, 33, 34, 35] [1, 4, 5, 7, 10, 11, 12, 13, 14, 15, 16, 17, 18, 19, 20, 21, 22, 23, 24, 25, 26, 27, 28, 29, 31, 38, 39, 40, 41, 42, 43, 44, 45, 46, 47, 48, 49, 50] [0] σ τ → ∀ (H : Heap) (locs : List Loc) (ls : Array Slot), KP g (MX g q lb τ) H → va_D A (MX g q lb τ) → va_S A s.heap H locs → lv_has ls 1 [(0, .ref (q 0))] → W p l e ({ frames := 8, cells := 0, slots := 0, locals := 169 }) s m [.ref (q 0)].toArray below meth c H locs 0 0 (MQ below (QV g A (p_V (MX g q lb) [2, 4, 5, 6, 7, 8, 9, 13, 16, 17, 18, 19, 20, 21, 22, 23, 24, 25, 26, 27, 28, 29, 30, 31, 32, 33, 34, 35] [1, 4, 5, 7, 10, 11, 12, 13, 14, 15, 16, 17, 18, 19, 20, 21, 22, 23, 24, 25, 26, 27, 28, 29, 31, 38, 39, 40, 41, 42, 43, 44, 45, 46, 47, 48, 49, 50] [0] σ Q)) [.ref (q 0)].toArray s 0 0 A) (F0 m 15 ls []))) := ⟨_, fun _ => Iff.rfl⟩
  obtain ⟨P91, hP91⟩ : ∃ P : S0 → Prop, ∀ (τ : S0), (P τ ↔ (n_m τ → f_r [2, 4, 5, 6, 7, 8, 9, 13, 16, 17, 18, 19, 20, 21, 22, 23, 24, 25, 26, 27, 28, 29, 30, 31, 32, 33, 34, 35] [1, 4, 5, 7, 10, 11, 12, 13, 14, 15, 16, 17, 18, 19, 20, 21, 22, 23, 24, 25, 26, 27, 28, 29, 31, 38, 39, 40, 41, 42, 43, 44, 45, 46, 47, 48, 49, 50] [0] σ τ → ∀ (H : Heap) (locs : List Loc) (ls : Array Slot), KP g (MX g q lb τ) H → va_D A (MX g q lb τ) → va_S A s.heap H locs → lv_has ls 1 [(0, .ref (q 0))] → W p l e ({ frames := 8, cells := 0, slots := 0, locals := 169 }) s m [.ref (q 0)].toArray below meth c H locs 0 0 (MQ below (QV g A (p_V (MX g q lb) [2, 4, 5, 6, 7, 8, 9, 13, 16, 17, 18, 19, 20, 21, 22, 23, 24, 25, 26, 27, 28, 29, 30, 31, 32, 33, 34, 35] [1, 4, 5, 7, 10, 11, 12, 13, 14, 15, 16, 17, 18, 19, 20, 21, 22, 23, 24, 25, 26, 27, 28, 29, 31, 38, 39, 40, 41, 42, 43, 44, 45, 46, 47, 48, 49, 50] [0] σ Q)) [.ref (q 0)].toArray s 0 0 A) (F0 m 91 ls []))) := ⟨_, fun _ => Iff.rfl⟩
  obtain ⟨P106, hP106⟩ : ∃ P : Int → S0 → Prop, ∀ (k1 : Int) (τ : S0), (P k1 τ ↔ (rg k1 → n_m τ → f_r [2, 4, 5, 6, 7, 8, 9, 13, 16, 17, 18, 19, 20, 21, 22, 23, 24, 25, 26, 27, 28, 29, 30, 31, 32, 33, 34, 35] [1, 4, 5, 7, 10, 11, 12, 13, 14, 15, 16, 17, 18, 19, 20, 21, 22, 23, 24, 25, 26, 27, 28, 29, 31, 38, 39, 40, 41, 42, 43, 44, 45, 46, 47, 48, 49, 50] [0] σ τ → ∀ (H : Heap) (locs : List Loc) (ls : Array Slot), KP g (MX g q lb τ) H → va_D A (MX g q lb τ) → va_S A s.heap H locs → lv_has ls 1 [] → W p l e ({ frames := 8, cells := 0, slots := 0, locals := 169 }) s m [.ref (q 0)].toArray below meth c H locs 0 0 (MQ below (QV g A (p_V (MX g q lb) [2, 4, 5, 6, 7, 8, 9, 13, 16, 17, 18, 19, 20, 21, 22, 23, 24, 25, 26, 27, 28, 29, 30, 31, 32, 33, 34, 35] [1, 4, 5, 7, 10, 11, 12, 13, 14, 15, 16, 17, 18, 19, 20, 21, 22, 23, 24, 25, 26, 27, 28, 29, 31, 38, 39, 40, 41, 42, 43, 44, 45, 46, 47, 48, 49, 50] [0] σ Q)) [.ref (q 0)].toArray s 0 0 A) (F0 m 106 ls [.int (I k1), .ref (q 0)]))) := ⟨_, fun _ _ => Iff.rfl⟩
  refine (fun hw => ?_) (hw P15 P91 P106 ?_ ?_ ?_)
  ·
    refine lv_aload_n hx hb dX13_readLabelled_0 rfl (lv_at hl 0 rfl) ?_
    obtain ⟨Q1, hc, hw⟩ := hw
    refine wc_V (X := MX g q lb) (va_runV (As := []) (rest := []) ⟨hx, hb, hml, hown, hts⟩ (L_X13_readLabel l g q lb hlb  hN hc H.size) (cwV 0 hts (TB_V tw_2581 tw_2583 ts_113 tw_15 co_X13_readLabel) rfl rfl rfl (by decide +kernel) ⟨Nat.le_of_ble_eq_true rfl, Nat.le_of_ble_eq_true rfl⟩) (preV (q0 := 0) (ci := 13) rfl xT_bl hP hK hNb hD rfl rfl xT_at) rfl rfl hl.1 rfl (lv_room (Nat.le_of_ble_eq_true rfl)) dX13_readLabelled_1 ⟨Nat.le_of_ble_eq_true rfl, Nat.le_of_ble_eq_true rfl⟩) hP hD hS hA (fun τ3 H locs hN hf hq hP hD hS => ?_)
    replace hw := hw τ3 hN hf hq
    have hF : f_r [2, 4, 5, 6, 7, 8, 9, 13, 16, 17, 18, 19, 20, 21, 22, 23, 24, 25, 26, 27, 28, 29, 30, 31, 32, 33, 34, 35] [1, 4, 5, 7, 10, 11, 12, 13, 14, 15, 16, 17, 18, 19, 20, 21, 22, 23, 24, 25, 26, 27, 28, 29, 31, 38, 39, 40, 41, 42, 43, 44, 45, 46, 47, 48, 49, 50] [0] σ τ3 := f_t hF hf (by decide) (by decide) (by decide)
    have hB := hN
    refine lv_aload_n hx hb dX13_readLabelled_4 rfl (lv_at hl 0 rfl) ?_
    refine gfX13_fault hx hb hts hK hP hown (hts _ tw_2065) (x := τ3.1 20) rfl dX13_readLabelled_5 ?_
    refine bi_if_ne (tgt := 15) hx hb (hB.1 20) dX13_readLabelled_8 (by decide) (fun c4 => ?_) (fun c4 => ?_)
    ·
      replace hw := hw.1 c4
      exact (hP15 _).mp hw hN hF H locs ls hP hD hS (lv_sub hl [0] rfl)
    ·
      replace hw := hw.2 c4
      refine lv_aload_n hx hb dX13_readLabelled_11 rfl (lv_at hl 0 rfl) ?_
      obtain ⟨Q5, hc, hw⟩ := hw
      refine wc_V (X := MX g q lb) (va_runV (As := []) (rest := []) ⟨hx, hb, hml, hown, hts⟩ (L_X13_next l g q lb hlb  hN hc H.size) (cwV 0 hts (TB_V tw_2536 tw_2538 ts_104 tw_15 co_X13_next) rfl rfl rfl (by decide +kernel) ⟨Nat.le_of_ble_eq_true rfl, Nat.le_of_ble_eq_true rfl⟩) (preV (q0 := 0) (ci := 13) rfl xT_bl hP hK hNb hD rfl rfl xT_at) rfl rfl hl.1 rfl (lv_room (Nat.le_of_ble_eq_true rfl)) dX13_readLabelled_12 ⟨Nat.le_of_ble_eq_true rfl, Nat.le_of_ble_eq_true rfl⟩) hP hD hS hA (fun τ7 H locs hN hf hq hP hD hS => ?_)
      replace hw := hw τ7 hN hf hq
      have hF : f_r [2, 4, 5, 6, 7, 8, 9, 13, 16, 17, 18, 19, 20, 21, 22, 23, 24, 25, 26, 27, 28, 29, 30, 31, 32, 33, 34, 35] [1, 4, 5, 7, 10, 11, 12, 13, 14, 15, 16, 17, 18, 19, 20, 21, 22, 23, 24, 25, 26, 27, 28, 29, 31, 38, 39, 40, 41, 42, 43, 44, 45, 46, 47, 48, 49, 50] [0] σ τ7 := f_t hF hf (by decide) (by decide) (by decide)
      have hB := hN
      exact (hP15 _).mp hw hN hF H locs ls hP hD hS (lv_sub hl [0] rfl)
  ·
    intro τ hw
    refine (hP15 _).mpr ?_
    intro hN hF H locs ls hP hD hS hl
    have hB := hN
    refine lv_aload_n hx hb dX13_readLabelled_15 rfl (lv_at hl 0 rfl) ?_
    refine gfX13_fault hx hb hts hK hP hown (hts _ tw_2065) (x := τ.1 20) rfl dX13_readLabelled_16 ?_
    refine bi_if_le (tgt := 23) hx hb (hB.1 20) dX13_readLabelled_19 (by decide) (fun c8 => ?_) (fun c8 => ?_)
    ·
      replace hw := hw.1 c8
      refine lv_aload_n hx hb dX13_readLabelled_23 rfl (lv_at hl 0 rfl) ?_
      refine gfX13_token hx hb hts hK hP hown (hts _ tw_2064) (x := τ.1 19) rfl dX13_readLabelled_24 ?_
      refine lv_bipush (v := I 102) hx hb dX13_readLabelled_27 (by decide) ?_
      refine bi_icmp_ne (tgt := 39) hx hb (hB.1 19) (by decide) dX13_readLabelled_29 (by decide) (fun c9 => ?_) (fun c9 => ?_)
      ·
        replace hw := hw.1 c9
        refine lv_aload_n hx hb dX13_readLabelled_39 rfl (lv_at hl 0 rfl) ?_
        refine gfX13_token hx hb hts hK hP hown (hts _ tw_2064) (x := τ.1 19) rfl dX13_readLabelled_40 ?_
        refine lv_bipush (v := I 101) hx hb dX13_readLabelled_43 (by decide) ?_
        refine bi_icmp_ne (tgt := 73) hx hb (hB.1 19) (by decide) dX13_readLabelled_45 (by decide) (fun c10 => ?_) (fun c10 => ?_)
        ·
          replace hw := hw.1 c10
          refine lv_aload_n hx hb dX13_readLabelled_73 rfl (lv_at hl 0 rfl) ?_
          refine gfX13_token hx hb hts hK hP hown (hts _ tw_2064) (x := τ.1 19) rfl dX13_readLabelled_74 ?_
          refine lv_bipush (v := I 97) hx hb dX13_readLabelled_77 (by decide) ?_
          refine bi_icmp_eq (tgt := 91) hx hb (hB.1 19) (by decide) dX13_readLabelled_79 (by decide) (fun c11 => ?_) (fun c11 => ?_)
          ·
            replace hw := hw.1 c11
            exact (hP91 _).mp hw hN hF H locs ls hP hD hS (lv_sub hl [0] rfl)
          ·
            replace hw := hw.2 c11
            refine lv_aload_n hx hb dX13_readLabelled_82 rfl (lv_at hl 0 rfl) ?_
            refine gfX13_token hx hb hts hK hP hown (hts _ tw_2064) (x := τ.1 19) rfl dX13_readLabelled_83 ?_
            refine lv_bipush (v := I 112) hx hb dX13_readLabelled_86 (by decide) ?_
            refine bi_icmp_ne (tgt := 112) hx hb (hB.1 19) (by decide) dX13_readLabelled_88 (by decide) (fun c12 => ?_) (fun c12 => ?_)
            ·
              replace hw := hw.1 c12
              refine lv_aload_n hx hb dX13_readLabelled_112 rfl (lv_at hl 0 rfl) ?_
              refine lv_iconst (v := I 4) hx hb dX13_readLabelled_113 rfl ?_
              obtain ⟨Q13, hc, hw⟩ := hw
              refine wc_V (X := MX g q lb) (va_runV (As := [.int (I 4)]) (rest := []) ⟨hx, hb, hml, hown, hts⟩ (L_X13_failHere l g q lb hlb (by decide) hN hc H.size) (cwV 1 hts (TB_V tw_2585 tw_2587 ts_114 tw_15 co_X13_failHere) rfl rfl rfl (by decide +kernel) ⟨Nat.le_of_ble_eq_true rfl, Nat.le_of_ble_eq_true rfl⟩) (preV (q0 := 0) (ci := 13) rfl xT_bl hP hK hNb hD rfl rfl xT_at) rfl rfl hl.1 rfl (lv_room (Nat.le_of_ble_eq_true rfl)) dX13_readLabelled_114 ⟨Nat.le_of_ble_eq_true rfl, Nat.le_of_ble_eq_true rfl⟩) hP hD hS hA (fun τ15 H locs hN hf hq hP hD hS => ?_)
              replace hw := hw τ15 hN hf hq
              have hF : f_r [2, 4, 5, 6, 7, 8, 9, 13, 16, 17, 18, 19, 20, 21, 22, 23, 24, 25, 26, 27, 28, 29, 30, 31, 32, 33, 34, 35] [1, 4, 5, 7, 10, 11, 12, 13, 14, 15, 16, 17, 18, 19, 20, 21, 22, 23, 24, 25, 26, 27, 28, 29, 31, 38, 39, 40, 41, 42, 43, 44, 45, 46, 47, 48, 49, 50] [0] σ τ15 := f_t hF hf (by decide) (by decide) (by decide)
              have hB := hN
              exact xrv hx hb hr hlk hP hK hD hS ⟨_, hN, hF, rfl, hw⟩ (Nat.le_of_ble_eq_true rfl) (Nat.le_of_ble_eq_true rfl) dX13_readLabelled_117
            ·
              replace hw := hw.2 c12
              exact (hP91 _).mp hw hN hF H locs ls hP hD hS (lv_sub hl [0] rfl)
        ·
          replace hw := hw.2 c10
          refine lv_aload_n hx hb dX13_readLabelled_48 rfl (lv_at hl 0 rfl) ?_
          refine lv_bipush (v := I 46) hx hb dX13_readLabelled_49 (by decide) ?_
          obtain ⟨Q16, hc, hw⟩ := hw
          refine wc_V (X := MX g q lb) (va_runV (As := [.int (I 46)]) (rest := []) ⟨hx, hb, hml, hown, hts⟩ (L_X13_readSymbols l g q lb hlb (by decide) hN hc H.size) (cwV 1 hts (TB_V tw_2645 tw_2647 ts_126 tw_15 co_X13_readSymbols) rfl rfl rfl (by decide +kernel) ⟨Nat.le_of_ble_eq_true rfl, Nat.le_of_ble_eq_true rfl⟩) (preV (q0 := 0) (ci := 13) rfl xT_bl hP hK hNb hD rfl rfl xT_at) rfl rfl hl.1 rfl (lv_room (Nat.le_of_ble_eq_true rfl)) dX13_readLabelled_51 ⟨Nat.le_of_ble_eq_true rfl, Nat.le_of_ble_eq_true rfl⟩) hP hD hS hA (fun τ18 H locs hN hf hq hP hD hS => ?_)
          replace hw := hw τ18 hN hf hq
          have hF : f_r [2, 4, 5, 6, 7, 8, 9, 13, 16, 17, 18, 19, 20, 21, 22, 23, 24, 25, 26, 27, 28, 29, 30, 31, 32, 33, 34, 35] [1, 4, 5, 7, 10, 11, 12, 13, 14, 15, 16, 17, 18, 19, 20, 21, 22, 23, 24, 25, 26, 27, 28, 29, 31, 38, 39, 40, 41, 42, 43, 44, 45, 46, 47, 48, 49, 50] [0] σ τ18 := f_t hF hf (by decide) (by decide) (by decide)
          have hB := hN
          refine lv_aload_n hx hb dX13_readLabelled_54 rfl (lv_at hl 0 rfl) ?_
          refine gfX13_fault hx hb hts hK hP hown (hts _ tw_2065) (x := τ18.1 20) rfl dX13_readLabelled_55 ?_
          refine bi_if_ne (tgt := 117) hx hb (hB.1 20) dX13_readLabelled_58 (by decide) (fun c19 => ?_) (fun c19 => ?_)
          ·
            replace hw := hw.1 c19
            exact xrv hx hb hr hlk hP hK hD hS ⟨_, hN, hF, rfl, hw⟩ (Nat.le_of_ble_eq_true rfl) (Nat.le_of_ble_eq_true rfl) dX13_readLabelled_117
          ·
            replace hw := hw.2 c19
            refine lv_aload_n hx hb dX13_readLabelled_61 rfl (lv_at hl 0 rfl) ?_
            refine lv_iconst (v := I 1) hx hb dX13_readLabelled_62 rfl ?_
            obtain ⟨Q20, hc, hw⟩ := hw
            refine wc_V (X := MX g q lb) (va_runV (As := [.int (I 1)]) (rest := []) ⟨hx, hb, hml, hown, hts⟩ (L_X13_finish l g q lb hlb (by decide) hN hc H.size) (cwV 1 hts (TB_V tw_2637 tw_2639 ts_124 tw_15 co_X13_finish) rfl rfl rfl (by decide +kernel) ⟨Nat.le_of_ble_eq_true rfl, Nat.le_of_ble_eq_true rfl⟩) (preV (q0 := 0) (ci := 13) rfl xT_bl hP hK hNb hD rfl rfl xT_at) rfl rfl hl.1 rfl (lv_room (Nat.le_of_ble_eq_true rfl)) dX13_readLabelled_63 ⟨Nat.le_of_ble_eq_true rfl, Nat.le_of_ble_eq_true rfl⟩) hP hD hS hA (fun τ22 H locs hN hf hq hP hD hS => ?_)
            replace hw := hw τ22 hN hf hq
            have hF : f_r [2, 4, 5, 6, 7, 8, 9, 13, 16, 17, 18, 19, 20, 21, 22, 23, 24, 25, 26, 27, 28, 29, 30, 31, 32, 33, 34, 35] [1, 4, 5, 7, 10, 11, 12, 13, 14, 15, 16, 17, 18, 19, 20, 21, 22, 23, 24, 25, 26, 27, 28, 29, 31, 38, 39, 40, 41, 42, 43, 44, 45, 46, 47, 48, 49, 50] [0] σ τ22 := f_t hF hf (by decide) (by decide) (by decide)
            have hB := hN
            refine lv_aload_n hx hb dX13_readLabelled_66 rfl (lv_at hl 0 rfl) ?_
            obtain ⟨Q23, hc, hw⟩ := hw
            refine wc_V (X := MX g q lb) (va_runV (As := []) (rest := []) ⟨hx, hb, hml, hown, hts⟩ (L_X13_activate l g q lb hlb  hN hc H.size) (cwV 0 hts (TB_V tw_2641 tw_2643 ts_125 tw_15 co_X13_activate) rfl rfl rfl (by decide +kernel) ⟨Nat.le_of_ble_eq_true rfl, Nat.le_of_ble_eq_true rfl⟩) (preV (q0 := 0) (ci := 13) rfl xT_bl hP hK hNb hD rfl rfl xT_at) rfl rfl hl.1 rfl (lv_room (Nat.le_of_ble_eq_true rfl)) dX13_readLabelled_67 ⟨Nat.le_of_ble_eq_true rfl, Nat.le_of_ble_eq_true rfl⟩) hP hD hS hA (fun τ25 H locs hN hf hq hP hD hS => ?_)
            replace hw := hw τ25 hN hf hq
            have hF : f_r [2, 4, 5, 6, 7, 8, 9, 13, 16, 17, 18, 19, 20, 21, 22, 23, 24, 25, 26, 27, 28, 29, 30, 31, 32, 33, 34, 35] [1, 4, 5, 7, 10, 11, 12, 13, 14, 15, 16, 17, 18, 19, 20, 21, 22, 23, 24, 25, 26, 27, 28, 29, 31, 38, 39, 40, 41, 42, 43, 44, 45, 46, 47, 48, 49, 50] [0] σ τ25 := f_t hF hf (by decide) (by decide) (by decide)
            have hB := hN
            refine lv_goto (tgt := 117) hx hb dX13_readLabelled_70 (by decide) ?_
            exact xrv hx hb hr hlk hP hK hD hS ⟨_, hN, hF, rfl, hw⟩ (Nat.le_of_ble_eq_true rfl) (Nat.le_of_ble_eq_true rfl) dX13_readLabelled_117
      ·
        replace hw := hw.2 c9
        refine lv_aload_n hx hb dX13_readLabelled_32 rfl (lv_at hl 0 rfl) ?_
        obtain ⟨Q26, hc, hw⟩ := hw
        refine wc_V (X := MX g q lb) (va_runV (As := []) (rest := []) ⟨hx, hb, hml, hown, hts⟩ (L_X13_readFloating l g q lb hlb  hN hc H.size) (cwV 0 hts (TB_V tw_2625 tw_2627 ts_121 tw_15 co_X13_readFloating) rfl rfl rfl (by decide +kernel) ⟨Nat.le_of_ble_eq_true rfl, Nat.le_of_ble_eq_true rfl⟩) (preV (q0 := 0) (ci := 13) rfl xT_bl hP hK hNb hD rfl rfl xT_at) rfl rfl hl.1 rfl (lv_room (Nat.le_of_ble_eq_true rfl)) dX13_readLabelled_33 ⟨Nat.le_of_ble_eq_true rfl, Nat.le_of_ble_eq_true rfl⟩) hP hD hS hA (fun τ28 H locs hN hf hq hP hD hS => ?_)
        replace hw := hw τ28 hN hf hq
        have hF : f_r [2, 4, 5, 6, 7, 8, 9, 13, 16, 17, 18, 19, 20, 21, 22, 23, 24, 25, 26, 27, 28, 29, 30, 31, 32, 33, 34, 35] [1, 4, 5, 7, 10, 11, 12, 13, 14, 15, 16, 17, 18, 19, 20, 21, 22, 23, 24, 25, 26, 27, 28, 29, 31, 38, 39, 40, 41, 42, 43, 44, 45, 46, 47, 48, 49, 50] [0] σ τ28 := f_t hF hf (by decide) (by decide) (by decide)
        have hB := hN
        refine lv_goto (tgt := 117) hx hb dX13_readLabelled_36 (by decide) ?_
        exact xrv hx hb hr hlk hP hK hD hS ⟨_, hN, hF, rfl, hw⟩ (Nat.le_of_ble_eq_true rfl) (Nat.le_of_ble_eq_true rfl) dX13_readLabelled_117
    ·
      replace hw := hw.2 c8
      exact xrv hx hb hr hlk hP hK hD hS ⟨_, hN, hF, rfl, hw⟩ (Nat.le_of_ble_eq_true rfl) (Nat.le_of_ble_eq_true rfl) dX13_readLabelled_22
  ·
    intro τ hw
    refine (hP91 _).mpr ?_
    intro hN hF H locs ls hP hD hS hl
    have hB := hN
    refine lv_aload_n hx hb dX13_readLabelled_91 rfl (lv_at hl 0 rfl) ?_
    refine lv_aload_n hx hb dX13_readLabelled_92 rfl (lv_at hl 0 rfl) ?_
    refine gfX13_token hx hb hts hK hP hown (hts _ tw_2064) (x := τ.1 19) rfl dX13_readLabelled_93 ?_
    refine lv_bipush (v := I 112) hx hb dX13_readLabelled_96 (by decide) ?_
    refine bi_icmp_ne (tgt := 105) hx hb (hB.1 19) (by decide) dX13_readLabelled_98 (by decide) (fun c29 => ?_) (fun c29 => ?_)
    ·
      replace hw := hw.1 c29
      refine lv_iconst (v := I 0) hx hb dX13_readLabelled_105 rfl ?_
      exact (hP106 _ _).mp hw (by decide) hN hF H locs ls hP hD hS (lv_sub hl [] rfl)
    ·
      replace hw := hw.2 c29
      refine lv_iconst (v := I 1) hx hb dX13_readLabelled_101 rfl ?_
      refine lv_goto (tgt := 106) hx hb dX13_readLabelled_102 (by decide) ?_
      exact (hP106 _ _).mp hw (by decide) hN hF H locs ls hP hD hS (lv_sub hl [] rfl)
  ·
    intro k1 τ hw
    refine (hP106 _ _).mpr ?_
    intro r_k1 hN hF H locs ls hP hD hS hl
    have hB := hN
    obtain ⟨Q30, hc, hw⟩ := hw
    refine wc_V (X := MX g q lb) (va_runV (As := [.int (I k1)]) (rest := []) ⟨hx, hb, hml, hown, hts⟩ (L_X13_readAssertion l g q lb hlb r_k1 hN hc H.size) (cwV 1 hts (TB_V tw_2649 tw_2651 ts_127 tw_15 co_X13_readAssertion) rfl rfl rfl (by decide +kernel) ⟨Nat.le_of_ble_eq_true rfl, Nat.le_of_ble_eq_true rfl⟩) (preV (q0 := 0) (ci := 13) rfl xT_bl hP hK hNb hD rfl rfl xT_at) rfl rfl hl.1 rfl (lv_room (Nat.le_of_ble_eq_true rfl)) dX13_readLabelled_106 ⟨Nat.le_of_ble_eq_true rfl, Nat.le_of_ble_eq_true rfl⟩) hP hD hS hA (fun τ32 H locs hN hf hq hP hD hS => ?_)
    replace hw := hw τ32 hN hf hq
    have hF : f_r [2, 4, 5, 6, 7, 8, 9, 13, 16, 17, 18, 19, 20, 21, 22, 23, 24, 25, 26, 27, 28, 29, 30, 31, 32, 33, 34, 35] [1, 4, 5, 7, 10, 11, 12, 13, 14, 15, 16, 17, 18, 19, 20, 21, 22, 23, 24, 25, 26, 27, 28, 29, 31, 38, 39, 40, 41, 42, 43, 44, 45, 46, 47, 48, 49, 50] [0] σ τ32 := f_t hF hf (by decide) (by decide) (by decide)
    have hB := hN
    refine lv_goto (tgt := 117) hx hb dX13_readLabelled_109 (by decide) ?_
    exact xrv hx hb hr hlk hP hK hD hS ⟨_, hN, hF, rfl, hw⟩ (Nat.le_of_ble_eq_true rfl) (Nat.le_of_ble_eq_true rfl) dX13_readLabelled_117
def W_X13_readScope (n1 : Int) (σ : S0) (Q : S0 → Prop) : Prop :=
  ∀ (P21 : Int → S0 → Prop),
  (∀ (u1 : Int) (τ : S0), ((u1 = 0 → (¬ τ.1 15 = 0 → rg (τ.1 15 - 1) ∧ (0 ≤ (τ.1 15 - 1) ∧ (τ.1 15 - 1) < 51) ∧ (∀ (x10 : Int), rg x10 → x10 = τ.2.1 34 (τ.1 15 - 1) → (∀ (x11 : Int), rg x11 → x11 = τ.2.1 35 (τ.1 15 - 1) → (∀ (x12 : Int), rg x12 → x12 = τ.2.1 36 (τ.1 15 - 1) → (∃ (Q13 : S0 → Prop), W_X13_dropTo x10 x11 x12 (s_v τ 15 (τ.1 15 - 1)) Q13 ∧ ∀ (τ15 : S0), n_m τ15 → f_r [12, 13, 14] [9, 11] [1] (s_v τ 15 (τ.1 15 - 1)) τ15 → Q13 τ15 → (Q τ15)))))) ∧ (τ.1 15 = 0 → ∃ (Q16 : S0 → Prop), W_X13_failHere 4 τ Q16 ∧ ∀ (τ18 : S0), n_m τ18 → f_r [20, 21] [] [] τ τ18 → Q16 τ18 → (Q τ18))) ∧ (¬ u1 = 0 → (0 ≤ τ.1 15 ∧ τ.1 15 < 51) ∧ (rg (τ.1 15 + 1) ∧ Q (s_v (s_a (s_a (s_a τ 34 (τ.1 15) (τ.1 12)) 35 (τ.1 15) (τ.1 13)) 36 (τ.1 15) (τ.1 14)) 15 (τ.1 15 + 1))))) → P21 u1 τ) →
  (n1 = 0 → P21 n1 σ) ∧ (¬ n1 = 0 → (¬ σ.1 15 = 50 → P21 n1 σ) ∧ (σ.1 15 = 50 → ∃ (Q3 : S0 → Prop), W_X13_failHere 5 σ Q3 ∧ ∀ (τ5 : S0), n_m τ5 → f_r [20, 21] [] [] σ τ5 → Q3 τ5 → (Q τ5)))
set_option maxRecDepth 100000 in
set_option maxHeartbeats 4000000 in
theorem L_X13_readScope (l : Launch) (g : gG) (q : Nat → Nat) (lb : Nat) (hlb : lb < 2 ^ 31) {n1 : Int} {σ : S0} {Q : S0 → Prop} (r_n1 : rg n1) (hN : n_m σ) (hw : W_X13_readScope n1 σ Q) (sz : Nat) : MetV l yX13_readScope cX13_readScope 2 { frames := 2, cells := 0, slots := 0, locals := 51 } g [.ref (q 0), .int (I n1)] (MX g q lb σ) sz xT (p_V (MX g q lb) [12, 13, 14, 15, 20, 21] [9, 11, 34, 35, 36] [1] σ Q) 0 0 := by
  refine mkMet (Qc := fun A => QV g A (p_V (MX g q lb) [12, 13, 14, 15, 20, 21] [9, 11, 34, 35, 36] [1] σ Q)) (by decide) (Nat.le_of_ble_eq_true rfl) ?_
  intro p e s m below meth c A H ls hx hb hr hml hown hts hlk hnm hsz hP hK hNb hD hA hAe hS hX hl
  have hl : lv_has ls 2 [(0, .ref (q 0)), (1, .int (I n1))] := hl
  have hB := hN
  have hF : f_r [12, 13, 14, 15, 20, 21] [9, 11, 34, 35, 36] [1] σ σ := f_0
  obtain ⟨locs, hlocs⟩ : ∃ z : List Loc, z = [] := ⟨_, rfl⟩
  rw [← hlocs] at hS ⊢
  obtain ⟨P21, hP21⟩ : ∃ P : Int → S0 → Prop, ∀ (u1 : Int) (τ : S0), (P u1 τ ↔ (rg u1 → n_m τ → f_r [12, 13, 14, 15, 20, 21] [9, 11, 34, 35, 36] [1] σ τ → ∀ (H : Heap) (locs : List Loc) (ls : Array Slot), KP g (MX g q lb τ) H → va_D A (MX g q lb τ) → va_S A s.heap H locs → lv_has ls 2 [(0, .ref (q 0)), (1, .int (I u1))] → W p l e ({ frames := 2, cells := 0, slots := 0, locals := 51 }) s m [.ref (q 0), .int (I n1)].toArray below meth c H locs 0 0 (MQ below (QV g A (p_V (MX g q lb) [12, 13, 14, 15, 20, 21] [9, 11, 34, 35, 36] [1] σ Q)) [.ref (q 0), .int (I n1)].toArray s 0 0 A) (F0 m 21 ls []))) := ⟨_, fun _ _ => Iff.rfl⟩
  refine (fun hw => ?_) (hw P21 ?_)
  ·
    refine lv_iload_n hx hb dX13_readScope_0 rfl (lv_at hl 1 rfl) ?_
    refine bi_if_eq (tgt := 21) hx hb r_n1 dX13_readScope_1 (by decide) (fun c1 => ?_) (fun c1 => ?_)
    ·
      replace hw := hw.1 c1
      exact (hP21 _ _).mp hw r_n1 hN hF H locs ls hP hD hS (lv_sub hl [0, 1] rfl)
    ·
      replace hw := hw.2 c1
      refine lv_aload_n hx hb dX13_readScope_4 rfl (lv_at hl 0 rfl) ?_
      refine gfX13_scopes hx hb hts hK hP hown (hts _ tw_2057) (x := σ.1 15) rfl dX13_readScope_5 ?_
      refine lv_bipush (v := I 50) hx hb dX13_readScope_8 (by decide) ?_
      refine bi_icmp_ne (tgt := 21) hx hb (hB.1 15) (by decide) dX13_readScope_10 (by decide) (fun c2 => ?_) (fun c2 => ?_)
      ·
        replace hw := hw.1 c2
        exact (hP21 _ _).mp hw r_n1 hN hF H locs ls hP hD hS (lv_sub hl [0, 1] rfl)
      ·
        replace hw := hw.2 c2
        refine lv_aload_n hx hb dX13_readScope_13 rfl (lv_at hl 0 rfl) ?_
        refine lv_iconst (v := I 5) hx hb dX13_readScope_14 rfl ?_
        obtain ⟨Q3, hc, hw⟩ := hw
        refine wc_V (X := MX g q lb) (va_runV (As := [.int (I 5)]) (rest := []) ⟨hx, hb, hml, hown, hts⟩ (L_X13_failHere l g q lb hlb (by decide) hN hc H.size) (cwV 1 hts (TB_V tw_2585 tw_2587 ts_114 tw_15 co_X13_failHere) rfl rfl rfl (by decide +kernel) ⟨Nat.le_of_ble_eq_true rfl, Nat.le_of_ble_eq_true rfl⟩) (preV (q0 := 0) (ci := 13) rfl xT_bl hP hK hNb hD rfl rfl xT_at) rfl rfl hl.1 rfl (lv_room (Nat.le_of_ble_eq_true rfl)) dX13_readScope_15 ⟨Nat.le_of_ble_eq_true rfl, Nat.le_of_ble_eq_true rfl⟩) hP hD hS hA (fun τ5 H locs hN hf hq hP hD hS => ?_)
        replace hw := hw τ5 hN hf hq
        have hF : f_r [12, 13, 14, 15, 20, 21] [9, 11, 34, 35, 36] [1] σ τ5 := f_t hF hf (by decide) (by decide) (by decide)
        have hB := hN
        refine lv_goto (tgt := 133) hx hb dX13_readScope_18 (by decide) ?_
        exact xrv hx hb hr hlk hP hK hD hS ⟨_, hN, hF, rfl, hw⟩ (Nat.le_of_ble_eq_true rfl) (Nat.le_of_ble_eq_true rfl) dX13_readScope_133
  ·
    intro u1 τ hw
    refine (hP21 _ _).mpr ?_
    intro r_u1 hN hF H locs ls hP hD hS hl
    have hB := hN
    refine lv_iload_n hx hb dX13_readScope_21 rfl (lv_at hl 1 rfl) ?_
    refine bi_if_eq (tgt := 77) hx hb r_u1 dX13_readScope_22 (by decide) (fun c6 => ?_) (fun c6 => ?_)
    ·
      replace hw := hw.1 c6
      refine lv_aload_n hx hb dX13_readScope_77 rfl (lv_at hl 0 rfl) ?_
      refine gfX13_scopes hx hb hts hK hP hown (hts _ tw_2057) (x := τ.1 15) rfl dX13_readScope_78 ?_
      refine bi_if_ne (tgt := 92) hx hb (hB.1 15) dX13_readScope_81 (by decide) (fun c7 => ?_) (fun c7 => ?_)
      ·
        replace hw := hw.1 c7
        refine lv_aload_n hx hb dX13_readScope_92 rfl (lv_at hl 0 rfl) ?_
        refine lv_dup hx hb dX13_readScope_93 rfl ?_
        refine gfX13_scopes hx hb hts hK hP hown (hts _ tw_2057) (x := τ.1 15) rfl dX13_readScope_94 ?_
        refine lv_iconst (v := I 1) hx hb dX13_readScope_97 rfl ?_
        refine bi_isub hx hb dX13_readScope_98 ?_
        obtain ⟨c8, hw⟩ := hw
        refine pfX13_scopes hx hb hts hK hP hD hS hown (hts _ tw_2057) dX13_readScope_99 (fun H locs hP hD hS => ?_)
        have hN : n_m (s_v τ 15 (τ.1 15 - 1)) := n_v (i := 15) hN (c8 : rg (τ.1 15 - 1))
        have hF : f_r [12, 13, 14, 15, 20, 21] [9, 11, 34, 35, 36] [1] σ (s_v τ 15 (τ.1 15 - 1)) := f_v hF (by decide)
        refine lv_aload_n hx hb dX13_readScope_102 rfl (lv_at hl 0 rfl) ?_
        refine lv_aload_n hx hb dX13_readScope_103 rfl (lv_at hl 0 rfl) ?_
        refine gfX13_scopeVariables hx hb hts hK hP hown (hts _ tw_2058) dX13_readScope_104 ?_
        refine lv_aload_n hx hb dX13_readScope_107 rfl (lv_at hl 0 rfl) ?_
        refine gfX13_scopes hx hb hts hK hP hown (hts _ tw_2057) (x := (τ.1 15 - 1)) rfl dX13_readScope_108 ?_
        obtain ⟨c9, hw⟩ := hw
        refine ldMX13_scopeVariables hx hb hK hP hN c9 dX13_readScope_111 (fun x10 r_x10 e_x10 => ?_)
        replace hw := hw x10 r_x10 e_x10
        refine lv_aload_n hx hb dX13_readScope_112 rfl (lv_at hl 0 rfl) ?_
        refine gfX13_scopeHyps hx hb hts hK hP hown (hts _ tw_2059) dX13_readScope_113 ?_
        refine lv_aload_n hx hb dX13_readScope_116 rfl (lv_at hl 0 rfl) ?_
        refine gfX13_scopes hx hb hts hK hP hown (hts _ tw_2057) (x := (τ.1 15 - 1)) rfl dX13_readScope_117 ?_
        refine ldMX13_scopeHyps hx hb hK hP hN c9 dX13_readScope_120 (fun x11 r_x11 e_x11 => ?_)
        replace hw := hw x11 r_x11 e_x11
        refine lv_aload_n hx hb dX13_readScope_121 rfl (lv_at hl 0 rfl) ?_
        refine gfX13_scopeApart hx hb hts hK hP hown (hts _ tw_2060) dX13_readScope_122 ?_
        refine lv_aload_n hx hb dX13_readScope_125 rfl (lv_at hl 0 rfl) ?_
        refine gfX13_scopes hx hb hts hK hP hown (hts _ tw_2057) (x := (τ.1 15 - 1)) rfl dX13_readScope_126 ?_
        refine ldMX13_scopeApart hx hb hK hP hN c9 dX13_readScope_129 (fun x12 r_x12 e_x12 => ?_)
        replace hw := hw x12 r_x12 e_x12
        obtain ⟨Q13, hc, hw⟩ := hw
        refine wc_V (X := MX g q lb) (va_runV (As := [.int (I x10), .int (I x11), .int (I x12)]) (rest := []) ⟨hx, hb, hml, hown, hts⟩ (L_X13_dropTo l g q lb hlb r_x10 r_x11 r_x12 hN hc H.size) (cwV 3 hts (TB_V tw_2779 tw_2781 ts_158 tw_15 co_X13_dropTo) rfl rfl rfl (by decide +kernel) ⟨Nat.le_of_ble_eq_true rfl, Nat.le_of_ble_eq_true rfl⟩) (preV (q0 := 0) (ci := 13) rfl xT_bl hP hK hNb hD rfl rfl xT_at) rfl rfl hl.1 rfl (lv_room (Nat.le_of_ble_eq_true rfl)) dX13_readScope_130 ⟨Nat.le_of_ble_eq_true rfl, Nat.le_of_ble_eq_true rfl⟩) hP hD hS hA (fun τ15 H locs hN hf hq hP hD hS => ?_)
        replace hw := hw τ15 hN hf hq
        have hF : f_r [12, 13, 14, 15, 20, 21] [9, 11, 34, 35, 36] [1] σ τ15 := f_t hF hf (by decide) (by decide) (by decide)
        have hB := hN
        exact xrv hx hb hr hlk hP hK hD hS ⟨_, hN, hF, rfl, hw⟩ (Nat.le_of_ble_eq_true rfl) (Nat.le_of_ble_eq_true rfl) dX13_readScope_133
      ·
        replace hw := hw.2 c7
        refine lv_aload_n hx hb dX13_readScope_84 rfl (lv_at hl 0 rfl) ?_
        refine lv_iconst (v := I 4) hx hb dX13_readScope_85 rfl ?_
        obtain ⟨Q16, hc, hw⟩ := hw
        refine wc_V (X := MX g q lb) (va_runV (As := [.int (I 4)]) (rest := []) ⟨hx, hb, hml, hown, hts⟩ (L_X13_failHere l g q lb hlb (by decide) hN hc H.size) (cwV 1 hts (TB_V tw_2585 tw_2587 ts_114 tw_15 co_X13_failHere) rfl rfl rfl (by decide +kernel) ⟨Nat.le_of_ble_eq_true rfl, Nat.le_of_ble_eq_true rfl⟩) (preV (q0 := 0) (ci := 13) rfl xT_bl hP hK hNb hD rfl rfl xT_at) rfl rfl hl.1 rfl (lv_room (Nat.le_of_ble_eq_true rfl)) dX13_readScope_86 ⟨Nat.le_of_ble_eq_true rfl, Nat.le_of_ble_eq_true rfl⟩) hP hD hS hA (fun τ18 H locs hN hf hq hP hD hS => ?_)
        replace hw := hw τ18 hN hf hq
        have hF : f_r [12, 13, 14, 15, 20, 21] [9, 11, 34, 35, 36] [1] σ τ18 := f_t hF hf (by decide) (by decide) (by decide)
        have hB := hN
        refine lv_goto (tgt := 133) hx hb dX13_readScope_89 (by decide) ?_
        exact xrv hx hb hr hlk hP hK hD hS ⟨_, hN, hF, rfl, hw⟩ (Nat.le_of_ble_eq_true rfl) (Nat.le_of_ble_eq_true rfl) dX13_readScope_133
    ·
      replace hw := hw.2 c6
      refine lv_aload_n hx hb dX13_readScope_25 rfl (lv_at hl 0 rfl) ?_
      refine gfX13_scopeVariables hx hb hts hK hP hown (hts _ tw_2058) dX13_readScope_26 ?_
      refine lv_aload_n hx hb dX13_readScope_29 rfl (lv_at hl 0 rfl) ?_
      refine gfX13_scopes hx hb hts hK hP hown (hts _ tw_2057) (x := τ.1 15) rfl dX13_readScope_30 ?_
      refine lv_aload_n hx hb dX13_readScope_33 rfl (lv_at hl 0 rfl) ?_
      refine gfX13_activeVariableCount hx hb hts hK hP hown (hts _ tw_2050) (x := τ.1 12) rfl dX13_readScope_34 ?_
      obtain ⟨c19, hw⟩ := hw
      refine sdMX13_scopeVariables hx hb hK hP hD hS c19 dX13_readScope_37 (fun H locs hP hD hS => ?_)
      have hN : n_m (s_a τ 34 (τ.1 15) (τ.1 12)) := n_a (k := 34) (j := τ.1 15) hN ((hB.1 12) : rg (τ.1 12))
      have hF : f_r [12, 13, 14, 15, 20, 21] [9, 11, 34, 35, 36] [1] σ (s_a τ 34 (τ.1 15) (τ.1 12)) := f_a hF (by decide)
      refine lv_aload_n hx hb dX13_readScope_38 rfl (lv_at hl 0 rfl) ?_
      refine gfX13_scopeHyps hx hb hts hK hP hown (hts _ tw_2059) dX13_readScope_39 ?_
      refine lv_aload_n hx hb dX13_readScope_42 rfl (lv_at hl 0 rfl) ?_
      refine gfX13_scopes hx hb hts hK hP hown (hts _ tw_2057) (x := τ.1 15) rfl dX13_readScope_43 ?_
      refine lv_aload_n hx hb dX13_readScope_46 rfl (lv_at hl 0 rfl) ?_
      refine gfX13_activeHypCount hx hb hts hK hP hown (hts _ tw_2052) (x := τ.1 13) rfl dX13_readScope_47 ?_
      refine sdMX13_scopeHyps hx hb hK hP hD hS c19 dX13_readScope_50 (fun H locs hP hD hS => ?_)
      have hN : n_m (s_a (s_a τ 34 (τ.1 15) (τ.1 12)) 35 (τ.1 15) (τ.1 13)) := n_a (k := 35) (j := τ.1 15) hN ((hB.1 13) : rg (τ.1 13))
      have hF : f_r [12, 13, 14, 15, 20, 21] [9, 11, 34, 35, 36] [1] σ (s_a (s_a τ 34 (τ.1 15) (τ.1 12)) 35 (τ.1 15) (τ.1 13)) := f_a hF (by decide)
      refine lv_aload_n hx hb dX13_readScope_51 rfl (lv_at hl 0 rfl) ?_
      refine gfX13_scopeApart hx hb hts hK hP hown (hts _ tw_2060) dX13_readScope_52 ?_
      refine lv_aload_n hx hb dX13_readScope_55 rfl (lv_at hl 0 rfl) ?_
      refine gfX13_scopes hx hb hts hK hP hown (hts _ tw_2057) (x := τ.1 15) rfl dX13_readScope_56 ?_
      refine lv_aload_n hx hb dX13_readScope_59 rfl (lv_at hl 0 rfl) ?_
      refine gfX13_apartCount hx hb hts hK hP hown (hts _ tw_2055) (x := τ.1 14) rfl dX13_readScope_60 ?_
      refine sdMX13_scopeApart hx hb hK hP hD hS c19 dX13_readScope_63 (fun H locs hP hD hS => ?_)
      have hN : n_m (s_a (s_a (s_a τ 34 (τ.1 15) (τ.1 12)) 35 (τ.1 15) (τ.1 13)) 36 (τ.1 15) (τ.1 14)) := n_a (k := 36) (j := τ.1 15) hN ((hB.1 14) : rg (τ.1 14))
      have hF : f_r [12, 13, 14, 15, 20, 21] [9, 11, 34, 35, 36] [1] σ (s_a (s_a (s_a τ 34 (τ.1 15) (τ.1 12)) 35 (τ.1 15) (τ.1 13)) 36 (τ.1 15) (τ.1 14)) := f_a hF (by decide)
      refine lv_aload_n hx hb dX13_readScope_64 rfl (lv_at hl 0 rfl) ?_
      refine lv_dup hx hb dX13_readScope_65 rfl ?_
      refine gfX13_scopes hx hb hts hK hP hown (hts _ tw_2057) (x := τ.1 15) rfl dX13_readScope_66 ?_
      refine lv_iconst (v := I 1) hx hb dX13_readScope_69 rfl ?_
      refine bi_iadd hx hb dX13_readScope_70 ?_
      obtain ⟨c20, hw⟩ := hw
      refine pfX13_scopes hx hb hts hK hP hD hS hown (hts _ tw_2057) dX13_readScope_71 (fun H locs hP hD hS => ?_)
      have hN : n_m (s_v (s_a (s_a (s_a τ 34 (τ.1 15) (τ.1 12)) 35 (τ.1 15) (τ.1 13)) 36 (τ.1 15) (τ.1 14)) 15 (τ.1 15 + 1)) := n_v (i := 15) hN (c20 : rg (τ.1 15 + 1))
      have hF : f_r [12, 13, 14, 15, 20, 21] [9, 11, 34, 35, 36] [1] σ (s_v (s_a (s_a (s_a τ 34 (τ.1 15) (τ.1 12)) 35 (τ.1 15) (τ.1 13)) 36 (τ.1 15) (τ.1 14)) 15 (τ.1 15 + 1)) := f_v hF (by decide)
      refine lv_goto (tgt := 133) hx hb dX13_readScope_74 (by decide) ?_
      exact xrv hx hb hr hlk hP hK hD hS ⟨_, hN, hF, rfl, hw⟩ (Nat.le_of_ble_eq_true rfl) (Nat.le_of_ble_eq_true rfl) dX13_readScope_133
def W_X13_readStatement (σ : S0) (Q : S0 → Prop) : Prop :=
  ∀ (P99 : S0 → Prop) (P114 : Int → S0 → Prop),
  (∀ (τ : S0), ((¬ τ.1 19 = 123 → P114 0 τ) ∧ (τ.1 19 = 123 → P114 1 τ)) → P99 τ) →
  (∀ (k1 : Int) (τ : S0), (∃ (Q27 : S0 → Prop), W_X13_readScope k1 τ Q27 ∧ ∀ (τ29 : S0), n_m τ29 → f_r [12, 13, 14, 15, 20, 21] [9, 11, 34, 35, 36] [1] τ τ29 → Q27 τ29 → (Q τ29)) → P114 k1 τ) →
  (¬ σ.1 19 = 1 → (¬ σ.1 19 = 99 → (¬ σ.1 19 = 118 → (¬ σ.1 19 = 100 → (σ.1 19 = 123 → P99 σ) ∧ (¬ σ.1 19 = 123 → (¬ σ.1 19 = 125 → ∃ (Q7 : S0 → Prop), W_X13_failHere 4 σ Q7 ∧ ∀ (τ9 : S0), n_m τ9 → f_r [20, 21] [] [] σ τ9 → Q7 τ9 → (Q τ9)) ∧ (σ.1 19 = 125 → P99 σ))) ∧ (σ.1 19 = 100 → ∃ (Q10 : S0 → Prop), W_X13_readApart σ Q10 ∧ ∀ (τ12 : S0), n_m τ12 → f_r [14, 16, 17, 18, 19, 20, 21] [32, 33, 37] [1] σ τ12 → Q10 τ12 → (Q τ12))) ∧ (σ.1 19 = 118 → ∃ (Q13 : S0 → Prop), W_X13_readDeclared 1 σ Q13 ∧ ∀ (τ15 : S0), n_m τ15 → f_r [2, 3, 10, 11, 12, 16, 17, 18, 19, 20, 21] [1, 2, 3, 6, 8, 9, 10, 11, 12, 30] [] σ τ15 → Q13 τ15 → (Q τ15))) ∧ (σ.1 19 = 99 → (σ.1 15 ≤ 0 → ∃ (Q17 : S0 → Prop), W_X13_readDeclared 0 σ Q17 ∧ ∀ (τ19 : S0), n_m τ19 → f_r [2, 3, 10, 11, 12, 16, 17, 18, 19, 20, 21] [1, 2, 3, 6, 8, 9, 10, 11, 12, 30] [] σ τ19 → Q17 τ19 → (Q τ19)) ∧ (0 < σ.1 15 → ∃ (Q20 : S0 → Prop), W_X13_failHere 8 σ Q20 ∧ ∀ (τ22 : S0), n_m τ22 → f_r [20, 21] [] [] σ τ22 → Q20 τ22 → (Q τ22)))) ∧ (σ.1 19 = 1 → ∃ (Q23 : S0 → Prop), W_X13_readLabelled σ Q23 ∧ ∀ (τ25 : S0), n_m τ25 → f_r [2, 4, 5, 6, 7, 8, 9, 13, 16, 17, 18, 19, 20, 21, 22, 23, 24, 25, 26, 27, 28, 29, 30, 31, 32, 33, 34, 35] [1, 4, 5, 7, 10, 11, 12, 13, 14, 15, 16, 17, 18, 19, 20, 21, 22, 23, 24, 25, 26, 27, 28, 29, 31, 38, 39, 40, 41, 42, 43, 44, 45, 46, 47, 48, 49, 50] [0] σ τ25 → Q23 τ25 → (Q τ25))
set_option maxRecDepth 100000 in
set_option maxHeartbeats 4000000 in
theorem L_X13_readStatement (l : Launch) (g : gG) (q : Nat → Nat) (lb : Nat) (hlb : lb < 2 ^ 31) {σ : S0} {Q : S0 → Prop} (hN : n_m σ) (hw : W_X13_readStatement σ Q) (sz : Nat) : MetV l yX13_readStatement cX13_readStatement 1 { frames := 9, cells := 0, slots := 0, locals := 189 } g [.ref (q 0)] (MX g q lb σ) sz xT (p_V (MX g q lb) [2, 3, 4, 5, 6, 7, 8, 9, 10, 11, 12, 13, 14, 15, 16, 17, 18, 19, 20, 21, 22, 23, 24, 25, 26, 27, 28, 29, 30, 31, 32, 33, 34, 35] [1, 2, 3, 4, 5, 6, 7, 8, 9, 10, 11, 12, 13, 14, 15, 16, 17, 18, 19, 20, 21, 22, 23, 24, 25, 26, 27, 28, 29, 30, 31, 32, 33, 34, 35, 36, 37, 38, 39, 40, 41, 42, 43, 44, 45, 46, 47, 48, 49, 50] [0, 1] σ Q) 0 0 := by
  refine mkMet (Qc := fun A => QV g A (p_V (MX g q lb) [2, 3, 4, 5, 6, 7, 8, 9, 10, 11, 12, 13, 14, 15, 16, 17, 18, 19, 20, 21, 22, 23, 24, 25, 26, 27, 28, 29, 30, 31, 32, 33, 34, 35] [1, 2, 3, 4, 5, 6, 7, 8, 9, 10, 11, 12, 13, 14, 15, 16, 17, 18, 19, 20, 21, 22, 23, 24, 25, 26, 27, 28, 29, 30, 31, 32, 33, 34, 35, 36, 37, 38, 39, 40, 41, 42, 43, 44, 45, 46, 47, 48, 49, 50] [0, 1] σ Q)) (by decide) (Nat.le_of_ble_eq_true rfl) ?_
  intro p e s m below meth c A H ls hx hb hr hml hown hts hlk hnm hsz hP hK hNb hD hA hAe hS hX hl
  have hl : lv_has ls 1 [(0, .ref (q 0))] := hl
  have hB := hN
  have hF : f_r [2, 3, 4, 5, 6, 7, 8, 9, 10, 11, 12, 13, 14, 15, 16, 17, 18, 19, 20, 21, 22, 23, 24, 25, 26, 27, 28, 29, 30, 31, 32, 33, 34, 35] [1, 2, 3, 4, 5, 6, 7, 8, 9, 10, 11, 12, 13, 14, 15, 16, 17, 18, 19, 20, 21, 22, 23, 24, 25, 26, 27, 28, 29, 30, 31, 32, 33, 34, 35, 36, 37, 38, 39, 40, 41, 42, 43, 44, 45, 46, 47, 48, 49, 50] [0, 1] σ σ := f_0
  obtain ⟨locs, hlocs⟩ : ∃ z : List Loc, z = [] := ⟨_, rfl⟩
  rw [← hlocs] at hS ⊢
  obtain ⟨P99, hP99⟩ : ∃ P : S0 → Prop, ∀ (τ : S0), (P τ ↔ (n_m τ → f_r [2, 3, 4, 5, 6, 7, 8, 9, 10, 11, 12, 13, 14, 15, 16, 17, 18, 19, 20, 21, 22, 23, 24, 25, 26, 27, 28, 29, 30, 31, 32, 33, 34, 35] [1, 2, 3, 4, 5, 6, 7, 8, 9, 10, 11, 12, 13, 14, 15, 16, 17, 18, 19, 20, 21, 22, 23, 24, 25, 26, 27, 28, 29, 30, 31, 32, 33, 34, 35, 36, 37, 38, 39, 40, 41, 42, 43, 44, 45, 46, 47, 48, 49, 50] [0, 1] σ τ → ∀ (H : Heap) (locs : List Loc) (ls : Array Slot), KP g (MX g q lb τ) H → va_D A (MX g q lb τ) → va_S A s.heap H locs → lv_has ls 1 [(0, .ref (q 0))] → W p l e ({ frames := 9, cells := 0, slots := 0, locals := 189 }) s m [.ref (q 0)].toArray below meth c H locs 0 0 (MQ below (QV g A (p_V (MX g q lb) [2, 3, 4, 5, 6, 7, 8, 9, 10, 11, 12, 13, 14, 15, 16, 17, 18, 19, 20, 21, 22, 23, 24, 25, 26, 27, 28, 29, 30, 31, 32, 33, 34, 35] [1, 2, 3, 4, 5, 6, 7, 8, 9, 10, 11, 12, 13, 14, 15, 16, 17, 18, 19, 20, 21, 22, 23, 24, 25, 26, 27, 28, 29, 30, 31, 32, 33, 34, 35, 36, 37, 38, 39, 40, 41, 42, 43, 44, 45, 46, 47, 48, 49, 50] [0, 1] σ Q)) [.ref (q 0)].toArray s 0 0 A) (F0 m 99 ls []))) := ⟨_, fun _ => Iff.rfl⟩
  obtain ⟨P114, hP114⟩ : ∃ P : Int → S0 → Prop, ∀ (k1 : Int) (τ : S0), (P k1 τ ↔ (rg k1 → n_m τ → f_r [2, 3, 4, 5, 6, 7, 8, 9, 10, 11, 12, 13, 14, 15, 16, 17, 18, 19, 20, 21, 22, 23, 24, 25, 26, 27, 28, 29, 30, 31, 32, 33, 34, 35] [1, 2, 3, 4, 5, 6, 7, 8, 9, 10, 11, 12, 13, 14, 15, 16, 17, 18, 19, 20, 21, 22, 23, 24, 25, 26, 27, 28, 29, 30, 31, 32, 33, 34, 35, 36, 37, 38, 39, 40, 41, 42, 43, 44, 45, 46, 47, 48, 49, 50] [0, 1] σ τ → ∀ (H : Heap) (locs : List Loc) (ls : Array Slot), KP g (MX g q lb τ) H → va_D A (MX g q lb τ) → va_S A s.heap H locs → lv_has ls 1 [] → W p l e ({ frames := 9, cells := 0, slots := 0, locals := 189 }) s m [.ref (q 0)].toArray below meth c H locs 0 0 (MQ below (QV g A (p_V (MX g q lb) [2, 3, 4, 5, 6, 7, 8, 9, 10, 11, 12, 13, 14, 15, 16, 17, 18, 19, 20, 21, 22, 23, 24, 25, 26, 27, 28, 29, 30, 31, 32, 33, 34, 35] [1, 2, 3, 4, 5, 6, 7, 8, 9, 10, 11, 12, 13, 14, 15, 16, 17, 18, 19, 20, 21, 22, 23, 24, 25, 26, 27, 28, 29, 30, 31, 32, 33, 34, 35, 36, 37, 38, 39, 40, 41, 42, 43, 44, 45, 46, 47, 48, 49, 50] [0, 1] σ Q)) [.ref (q 0)].toArray s 0 0 A) (F0 m 114 ls [.int (I k1), .ref (q 0)]))) := ⟨_, fun _ _ => Iff.rfl⟩
  refine (fun hw => ?_) (hw P99 P114 ?_ ?_)
  ·
    refine lv_aload_n hx hb dX13_readStatement_0 rfl (lv_at hl 0 rfl) ?_
    refine gfX13_token hx hb hts hK hP hown (hts _ tw_2064) (x := σ.1 19) rfl dX13_readStatement_1 ?_
    refine lv_iconst (v := I 1) hx hb dX13_readStatement_4 rfl ?_
    refine bi_icmp_ne (tgt := 15) hx hb (hB.1 19) (by decide) dX13_readStatement_5 (by decide) (fun c1 => ?_) (fun c1 => ?_)
    ·
      replace hw := hw.1 c1
      refine lv_aload_n hx hb dX13_readStatement_15 rfl (lv_at hl 0 rfl) ?_
      refine gfX13_token hx hb hts hK hP hown (hts _ tw_2064) (x := σ.1 19) rfl dX13_readStatement_16 ?_
      refine lv_bipush (v := I 99) hx hb dX13_readStatement_19 (by decide) ?_
      refine bi_icmp_ne (tgt := 48) hx hb (hB.1 19) (by decide) dX13_readStatement_21 (by decide) (fun c2 => ?_) (fun c2 => ?_)
      ·
        replace hw := hw.1 c2
        refine lv_aload_n hx hb dX13_readStatement_48 rfl (lv_at hl 0 rfl) ?_
        refine gfX13_token hx hb hts hK hP hown (hts _ tw_2064) (x := σ.1 19) rfl dX13_readStatement_49 ?_
        refine lv_bipush (v := I 118) hx hb dX13_readStatement_52 (by decide) ?_
        refine bi_icmp_ne (tgt := 65) hx hb (hB.1 19) (by decide) dX13_readStatement_54 (by decide) (fun c3 => ?_) (fun c3 => ?_)
        ·
          replace hw := hw.1 c3
          refine lv_aload_n hx hb dX13_readStatement_65 rfl (lv_at hl 0 rfl) ?_
          refine gfX13_token hx hb hts hK hP hown (hts _ tw_2064) (x := σ.1 19) rfl dX13_readStatement_66 ?_
          refine lv_bipush (v := I 100) hx hb dX13_readStatement_69 (by decide) ?_
          refine bi_icmp_ne (tgt := 81) hx hb (hB.1 19) (by decide) dX13_readStatement_71 (by decide) (fun c4 => ?_) (fun c4 => ?_)
          ·
            replace hw := hw.1 c4
            refine lv_aload_n hx hb dX13_readStatement_81 rfl (lv_at hl 0 rfl) ?_
            refine gfX13_token hx hb hts hK hP hown (hts _ tw_2064) (x := σ.1 19) rfl dX13_readStatement_82 ?_
            refine lv_bipush (v := I 123) hx hb dX13_readStatement_85 (by decide) ?_
            refine bi_icmp_eq (tgt := 99) hx hb (hB.1 19) (by decide) dX13_readStatement_87 (by decide) (fun c5 => ?_) (fun c5 => ?_)
            ·
              replace hw := hw.1 c5
              exact (hP99 _).mp hw hN hF H locs ls hP hD hS (lv_sub hl [0] rfl)
            ·
              replace hw := hw.2 c5
              refine lv_aload_n hx hb dX13_readStatement_90 rfl (lv_at hl 0 rfl) ?_
              refine gfX13_token hx hb hts hK hP hown (hts _ tw_2064) (x := σ.1 19) rfl dX13_readStatement_91 ?_
              refine lv_bipush (v := I 125) hx hb dX13_readStatement_94 (by decide) ?_
              refine bi_icmp_ne (tgt := 120) hx hb (hB.1 19) (by decide) dX13_readStatement_96 (by decide) (fun c6 => ?_) (fun c6 => ?_)
              ·
                replace hw := hw.1 c6
                refine lv_aload_n hx hb dX13_readStatement_120 rfl (lv_at hl 0 rfl) ?_
                refine lv_iconst (v := I 4) hx hb dX13_readStatement_121 rfl ?_
                obtain ⟨Q7, hc, hw⟩ := hw
                refine wc_V (X := MX g q lb) (va_runV (As := [.int (I 4)]) (rest := []) ⟨hx, hb, hml, hown, hts⟩ (L_X13_failHere l g q lb hlb (by decide) hN hc H.size) (cwV 1 hts (TB_V tw_2585 tw_2587 ts_114 tw_15 co_X13_failHere) rfl rfl rfl (by decide +kernel) ⟨Nat.le_of_ble_eq_true rfl, Nat.le_of_ble_eq_true rfl⟩) (preV (q0 := 0) (ci := 13) rfl xT_bl hP hK hNb hD rfl rfl xT_at) rfl rfl hl.1 rfl (lv_room (Nat.le_of_ble_eq_true rfl)) dX13_readStatement_122 ⟨Nat.le_of_ble_eq_true rfl, Nat.le_of_ble_eq_true rfl⟩) hP hD hS hA (fun τ9 H locs hN hf hq hP hD hS => ?_)
                replace hw := hw τ9 hN hf hq
                have hF : f_r [2, 3, 4, 5, 6, 7, 8, 9, 10, 11, 12, 13, 14, 15, 16, 17, 18, 19, 20, 21, 22, 23, 24, 25, 26, 27, 28, 29, 30, 31, 32, 33, 34, 35] [1, 2, 3, 4, 5, 6, 7, 8, 9, 10, 11, 12, 13, 14, 15, 16, 17, 18, 19, 20, 21, 22, 23, 24, 25, 26, 27, 28, 29, 30, 31, 32, 33, 34, 35, 36, 37, 38, 39, 40, 41, 42, 43, 44, 45, 46, 47, 48, 49, 50] [0, 1] σ τ9 := f_t hF hf (by decide) (by decide) (by decide)
                have hB := hN
                exact xrv hx hb hr hlk hP hK hD hS ⟨_, hN, hF, rfl, hw⟩ (Nat.le_of_ble_eq_true rfl) (Nat.le_of_ble_eq_true rfl) dX13_readStatement_125
              ·
                replace hw := hw.2 c6
                exact (hP99 _).mp hw hN hF H locs ls hP hD hS (lv_sub hl [0] rfl)
          ·
            replace hw := hw.2 c4
            refine lv_aload_n hx hb dX13_readStatement_74 rfl (lv_at hl 0 rfl) ?_
            obtain ⟨Q10, hc, hw⟩ := hw
            refine wc_V (X := MX g q lb) (va_runV (As := []) (rest := []) ⟨hx, hb, hml, hown, hts⟩ (L_X13_readApart l g q lb hlb  hN hc H.size) (cwV 0 hts (TB_V tw_2766 tw_2768 ts_155 tw_15 co_X13_readApart) rfl rfl rfl (by decide +kernel) ⟨Nat.le_of_ble_eq_true rfl, Nat.le_of_ble_eq_true rfl⟩) (preV (q0 := 0) (ci := 13) rfl xT_bl hP hK hNb hD rfl rfl xT_at) rfl rfl hl.1 rfl (lv_room (Nat.le_of_ble_eq_true rfl)) dX13_readStatement_75 ⟨Nat.le_of_ble_eq_true rfl, Nat.le_of_ble_eq_true rfl⟩) hP hD hS hA (fun τ12 H locs hN hf hq hP hD hS => ?_)
            replace hw := hw τ12 hN hf hq
            have hF : f_r [2, 3, 4, 5, 6, 7, 8, 9, 10, 11, 12, 13, 14, 15, 16, 17, 18, 19, 20, 21, 22, 23, 24, 25, 26, 27, 28, 29, 30, 31, 32, 33, 34, 35] [1, 2, 3, 4, 5, 6, 7, 8, 9, 10, 11, 12, 13, 14, 15, 16, 17, 18, 19, 20, 21, 22, 23, 24, 25, 26, 27, 28, 29, 30, 31, 32, 33, 34, 35, 36, 37, 38, 39, 40, 41, 42, 43, 44, 45, 46, 47, 48, 49, 50] [0, 1] σ τ12 := f_t hF hf (by decide) (by decide) (by decide)
            have hB := hN
            refine lv_goto (tgt := 125) hx hb dX13_readStatement_78 (by decide) ?_
            exact xrv hx hb hr hlk hP hK hD hS ⟨_, hN, hF, rfl, hw⟩ (Nat.le_of_ble_eq_true rfl) (Nat.le_of_ble_eq_true rfl) dX13_readStatement_125
        ·
          replace hw := hw.2 c3
          refine lv_aload_n hx hb dX13_readStatement_57 rfl (lv_at hl 0 rfl) ?_
          refine lv_iconst (v := I 1) hx hb dX13_readStatement_58 rfl ?_
          obtain ⟨Q13, hc, hw⟩ := hw
          refine wc_V (X := MX g q lb) (va_runV (As := [.int (I 1)]) (rest := []) ⟨hx, hb, hml, hown, hts⟩ (L_X13_readDeclared l g q lb hlb (by decide) hN hc H.size) (cwV 1 hts (TB_V tw_2750 tw_2752 ts_151 tw_15 co_X13_readDeclared) rfl rfl rfl (by decide +kernel) ⟨Nat.le_of_ble_eq_true rfl, Nat.le_of_ble_eq_true rfl⟩) (preV (q0 := 0) (ci := 13) rfl xT_bl hP hK hNb hD rfl rfl xT_at) rfl rfl hl.1 rfl (lv_room (Nat.le_of_ble_eq_true rfl)) dX13_readStatement_59 ⟨Nat.le_of_ble_eq_true rfl, Nat.le_of_ble_eq_true rfl⟩) hP hD hS hA (fun τ15 H locs hN hf hq hP hD hS => ?_)
          replace hw := hw τ15 hN hf hq
          have hF : f_r [2, 3, 4, 5, 6, 7, 8, 9, 10, 11, 12, 13, 14, 15, 16, 17, 18, 19, 20, 21, 22, 23, 24, 25, 26, 27, 28, 29, 30, 31, 32, 33, 34, 35] [1, 2, 3, 4, 5, 6, 7, 8, 9, 10, 11, 12, 13, 14, 15, 16, 17, 18, 19, 20, 21, 22, 23, 24, 25, 26, 27, 28, 29, 30, 31, 32, 33, 34, 35, 36, 37, 38, 39, 40, 41, 42, 43, 44, 45, 46, 47, 48, 49, 50] [0, 1] σ τ15 := f_t hF hf (by decide) (by decide) (by decide)
          have hB := hN
          refine lv_goto (tgt := 125) hx hb dX13_readStatement_62 (by decide) ?_
          exact xrv hx hb hr hlk hP hK hD hS ⟨_, hN, hF, rfl, hw⟩ (Nat.le_of_ble_eq_true rfl) (Nat.le_of_ble_eq_true rfl) dX13_readStatement_125
      ·
        replace hw := hw.2 c2
        refine lv_aload_n hx hb dX13_readStatement_24 rfl (lv_at hl 0 rfl) ?_
        refine gfX13_scopes hx hb hts hK hP hown (hts _ tw_2057) (x := σ.1 15) rfl dX13_readStatement_25 ?_
        refine bi_if_le (tgt := 40) hx hb (hB.1 15) dX13_readStatement_28 (by decide) (fun c16 => ?_) (fun c16 => ?_)
        ·
          replace hw := hw.1 c16
          refine lv_aload_n hx hb dX13_readStatement_40 rfl (lv_at hl 0 rfl) ?_
          refine lv_iconst (v := I 0) hx hb dX13_readStatement_41 rfl ?_
          obtain ⟨Q17, hc, hw⟩ := hw
          refine wc_V (X := MX g q lb) (va_runV (As := [.int (I 0)]) (rest := []) ⟨hx, hb, hml, hown, hts⟩ (L_X13_readDeclared l g q lb hlb (by decide) hN hc H.size) (cwV 1 hts (TB_V tw_2750 tw_2752 ts_151 tw_15 co_X13_readDeclared) rfl rfl rfl (by decide +kernel) ⟨Nat.le_of_ble_eq_true rfl, Nat.le_of_ble_eq_true rfl⟩) (preV (q0 := 0) (ci := 13) rfl xT_bl hP hK hNb hD rfl rfl xT_at) rfl rfl hl.1 rfl (lv_room (Nat.le_of_ble_eq_true rfl)) dX13_readStatement_42 ⟨Nat.le_of_ble_eq_true rfl, Nat.le_of_ble_eq_true rfl⟩) hP hD hS hA (fun τ19 H locs hN hf hq hP hD hS => ?_)
          replace hw := hw τ19 hN hf hq
          have hF : f_r [2, 3, 4, 5, 6, 7, 8, 9, 10, 11, 12, 13, 14, 15, 16, 17, 18, 19, 20, 21, 22, 23, 24, 25, 26, 27, 28, 29, 30, 31, 32, 33, 34, 35] [1, 2, 3, 4, 5, 6, 7, 8, 9, 10, 11, 12, 13, 14, 15, 16, 17, 18, 19, 20, 21, 22, 23, 24, 25, 26, 27, 28, 29, 30, 31, 32, 33, 34, 35, 36, 37, 38, 39, 40, 41, 42, 43, 44, 45, 46, 47, 48, 49, 50] [0, 1] σ τ19 := f_t hF hf (by decide) (by decide) (by decide)
          have hB := hN
          refine lv_goto (tgt := 125) hx hb dX13_readStatement_45 (by decide) ?_
          exact xrv hx hb hr hlk hP hK hD hS ⟨_, hN, hF, rfl, hw⟩ (Nat.le_of_ble_eq_true rfl) (Nat.le_of_ble_eq_true rfl) dX13_readStatement_125
        ·
          replace hw := hw.2 c16
          refine lv_aload_n hx hb dX13_readStatement_31 rfl (lv_at hl 0 rfl) ?_
          refine lv_bipush (v := I 8) hx hb dX13_readStatement_32 (by decide) ?_
          obtain ⟨Q20, hc, hw⟩ := hw
          refine wc_V (X := MX g q lb) (va_runV (As := [.int (I 8)]) (rest := []) ⟨hx, hb, hml, hown, hts⟩ (L_X13_failHere l g q lb hlb (by decide) hN hc H.size) (cwV 1 hts (TB_V tw_2585 tw_2587 ts_114 tw_15 co_X13_failHere) rfl rfl rfl (by decide +kernel) ⟨Nat.le_of_ble_eq_true rfl, Nat.le_of_ble_eq_true rfl⟩) (preV (q0 := 0) (ci := 13) rfl xT_bl hP hK hNb hD rfl rfl xT_at) rfl rfl hl.1 rfl (lv_room (Nat.le_of_ble_eq_true rfl)) dX13_readStatement_34 ⟨Nat.le_of_ble_eq_true rfl, Nat.le_of_ble_eq_true rfl⟩) hP hD hS hA (fun τ22 H locs hN hf hq hP hD hS => ?_)
          replace hw := hw τ22 hN hf hq
          have hF : f_r [2, 3, 4, 5, 6, 7, 8, 9, 10, 11, 12, 13, 14, 15, 16, 17, 18, 19, 20, 21, 22, 23, 24, 25, 26, 27, 28, 29, 30, 31, 32, 33, 34, 35] [1, 2, 3, 4, 5, 6, 7, 8, 9, 10, 11, 12, 13, 14, 15, 16, 17, 18, 19, 20, 21, 22, 23, 24, 25, 26, 27, 28, 29, 30, 31, 32, 33, 34, 35, 36, 37, 38, 39, 40, 41, 42, 43, 44, 45, 46, 47, 48, 49, 50] [0, 1] σ τ22 := f_t hF hf (by decide) (by decide) (by decide)
          have hB := hN
          refine lv_goto (tgt := 125) hx hb dX13_readStatement_37 (by decide) ?_
          exact xrv hx hb hr hlk hP hK hD hS ⟨_, hN, hF, rfl, hw⟩ (Nat.le_of_ble_eq_true rfl) (Nat.le_of_ble_eq_true rfl) dX13_readStatement_125
    ·
      replace hw := hw.2 c1
      refine lv_aload_n hx hb dX13_readStatement_8 rfl (lv_at hl 0 rfl) ?_
      obtain ⟨Q23, hc, hw⟩ := hw
      refine wc_V (X := MX g q lb) (va_runV (As := []) (rest := []) ⟨hx, hb, hml, hown, hts⟩ (L_X13_readLabelled l g q lb hlb  hN hc H.size) (cwV 0 hts (TB_V tw_2577 tw_2579 ts_112 tw_15 co_X13_readLabelled) rfl rfl rfl (by decide +kernel) ⟨Nat.le_of_ble_eq_true rfl, Nat.le_of_ble_eq_true rfl⟩) (preV (q0 := 0) (ci := 13) rfl xT_bl hP hK hNb hD rfl rfl xT_at) rfl rfl hl.1 rfl (lv_room (Nat.le_of_ble_eq_true rfl)) dX13_readStatement_9 ⟨Nat.le_of_ble_eq_true rfl, Nat.le_of_ble_eq_true rfl⟩) hP hD hS hA (fun τ25 H locs hN hf hq hP hD hS => ?_)
      replace hw := hw τ25 hN hf hq
      have hF : f_r [2, 3, 4, 5, 6, 7, 8, 9, 10, 11, 12, 13, 14, 15, 16, 17, 18, 19, 20, 21, 22, 23, 24, 25, 26, 27, 28, 29, 30, 31, 32, 33, 34, 35] [1, 2, 3, 4, 5, 6, 7, 8, 9, 10, 11, 12, 13, 14, 15, 16, 17, 18, 19, 20, 21, 22, 23, 24, 25, 26, 27, 28, 29, 30, 31, 32, 33, 34, 35, 36, 37, 38, 39, 40, 41, 42, 43, 44, 45, 46, 47, 48, 49, 50] [0, 1] σ τ25 := f_t hF hf (by decide) (by decide) (by decide)
      have hB := hN
      refine lv_goto (tgt := 125) hx hb dX13_readStatement_12 (by decide) ?_
      exact xrv hx hb hr hlk hP hK hD hS ⟨_, hN, hF, rfl, hw⟩ (Nat.le_of_ble_eq_true rfl) (Nat.le_of_ble_eq_true rfl) dX13_readStatement_125
  ·
    intro τ hw
    refine (hP99 _).mpr ?_
    intro hN hF H locs ls hP hD hS hl
    have hB := hN
    refine lv_aload_n hx hb dX13_readStatement_99 rfl (lv_at hl 0 rfl) ?_
    refine lv_aload_n hx hb dX13_readStatement_100 rfl (lv_at hl 0 rfl) ?_
    refine gfX13_token hx hb hts hK hP hown (hts _ tw_2064) (x := τ.1 19) rfl dX13_readStatement_101 ?_
    refine lv_bipush (v := I 123) hx hb dX13_readStatement_104 (by decide) ?_
    refine bi_icmp_ne (tgt := 113) hx hb (hB.1 19) (by decide) dX13_readStatement_106 (by decide) (fun c26 => ?_) (fun c26 => ?_)
    ·
      replace hw := hw.1 c26
      refine lv_iconst (v := I 0) hx hb dX13_readStatement_113 rfl ?_
      exact (hP114 _ _).mp hw (by decide) hN hF H locs ls hP hD hS (lv_sub hl [] rfl)
    ·
      replace hw := hw.2 c26
      refine lv_iconst (v := I 1) hx hb dX13_readStatement_109 rfl ?_
      refine lv_goto (tgt := 114) hx hb dX13_readStatement_110 (by decide) ?_
      exact (hP114 _ _).mp hw (by decide) hN hF H locs ls hP hD hS (lv_sub hl [] rfl)
  ·
    intro k1 τ hw
    refine (hP114 _ _).mpr ?_
    intro r_k1 hN hF H locs ls hP hD hS hl
    have hB := hN
    obtain ⟨Q27, hc, hw⟩ := hw
    refine wc_V (X := MX g q lb) (va_runV (As := [.int (I k1)]) (rest := []) ⟨hx, hb, hml, hown, hts⟩ (L_X13_readScope l g q lb hlb r_k1 hN hc H.size) (cwV 1 hts (TB_V tw_2775 tw_2777 ts_157 tw_15 co_X13_readScope) rfl rfl rfl (by decide +kernel) ⟨Nat.le_of_ble_eq_true rfl, Nat.le_of_ble_eq_true rfl⟩) (preV (q0 := 0) (ci := 13) rfl xT_bl hP hK hNb hD rfl rfl xT_at) rfl rfl hl.1 rfl (lv_room (Nat.le_of_ble_eq_true rfl)) dX13_readStatement_114 ⟨Nat.le_of_ble_eq_true rfl, Nat.le_of_ble_eq_true rfl⟩) hP hD hS hA (fun τ29 H locs hN hf hq hP hD hS => ?_)
    replace hw := hw τ29 hN hf hq
    have hF : f_r [2, 3, 4, 5, 6, 7, 8, 9, 10, 11, 12, 13, 14, 15, 16, 17, 18, 19, 20, 21, 22, 23, 24, 25, 26, 27, 28, 29, 30, 31, 32, 33, 34, 35] [1, 2, 3, 4, 5, 6, 7, 8, 9, 10, 11, 12, 13, 14, 15, 16, 17, 18, 19, 20, 21, 22, 23, 24, 25, 26, 27, 28, 29, 30, 31, 32, 33, 34, 35, 36, 37, 38, 39, 40, 41, 42, 43, 44, 45, 46, 47, 48, 49, 50] [0, 1] σ τ29 := f_t hF hf (by decide) (by decide) (by decide)
    have hB := hN
    refine lv_goto (tgt := 125) hx hb dX13_readStatement_117 (by decide) ?_
    exact xrv hx hb hr hlk hP hK hD hS ⟨_, hN, hF, rfl, hw⟩ (Nat.le_of_ble_eq_true rfl) (Nat.le_of_ble_eq_true rfl) dX13_readStatement_125
def W_X13_noteAll (σ : S0) (Q : S0 → Prop) : Prop :=
  ∀ (P2 : Int → S0 → Prop),
  (∀ (u1 : Int) (τ : S0), ((τ.1 3 ≤ u1 → Q τ) ∧ (u1 < τ.1 3 → (0 ≤ u1 ∧ u1 < 1001) ∧ (∀ (x3 : Int), rg x3 → x3 = τ.2.1 8 u1 → ((0 ≤ x3 ∧ x3 ≤ 1) ∧ (∀ (x5 : Int), rg x5 → x5 = τ.2.1 9 u1 → ((0 ≤ x5 ∧ x5 ≤ 1) ∧ (∀ (x7 : Int), rg x7 → x7 = τ.2.1 12 u1 → ((0 ≤ x7 ∧ x7 ≤ 1) ∧ (∀ (x9 : Int), rg x9 → x9 = τ.2.1 10 u1 → (∀ (x10 : Int), rg x10 → x10 = τ.2.1 11 u1 → (rg (u1 + 1) ∧ P2 (u1 + 1) (s_a (s_a (s_a (s_a (s_a τ 51 u1 x3) 52 u1 x5) 53 u1 x7) 54 u1 x9) 55 u1 x10)))))))))))) → P2 u1 τ) →
  P2 0 σ
set_option maxRecDepth 100000 in
set_option maxHeartbeats 4000000 in
theorem L_X13_noteAll (l : Launch) (g : gG) (q : Nat → Nat) (lb : Nat) (hlb : lb < 2 ^ 31) {σ : S0} {Q : S0 → Prop} (hN : n_m σ) (hw : W_X13_noteAll σ Q) (sz : Nat) : MetV l yX13_noteAll cX13_noteAll 2 { frames := 0, cells := 0, slots := 0, locals := 0 } g [.ref (q 0)] (MX g q lb σ) sz xT (p_V (MX g q lb) [] [51, 52, 53, 54, 55] [] σ Q) 0 0 := by
  refine mkMet (Qc := fun A => QV g A (p_V (MX g q lb) [] [51, 52, 53, 54, 55] [] σ Q)) (by decide) (Nat.le_of_ble_eq_true rfl) ?_
  intro p e s m below meth c A H ls hx hb hr hml hown hts hlk hnm hsz hP hK hNb hD hA hAe hS hX hl
  have hl : lv_has ls 2 [(0, .ref (q 0))] := hl
  have hB := hN
  have hF : f_r [] [51, 52, 53, 54, 55] [] σ σ := f_0
  obtain ⟨locs, hlocs⟩ : ∃ z : List Loc, z = [] := ⟨_, rfl⟩
  rw [← hlocs] at hS ⊢
  obtain ⟨P2, hP2⟩ : ∃ P : Int → S0 → Prop, ∀ (u1 : Int) (τ : S0), (P u1 τ ↔ (rg u1 → n_m τ → f_r [] [51, 52, 53, 54, 55] [] σ τ → ∀ (H : Heap) (locs : List Loc) (ls : Array Slot), KP g (MX g q lb τ) H → va_D A (MX g q lb τ) → va_S A s.heap H locs → lv_has ls 2 [(0, .ref (q 0)), (1, .int (I u1))] → W p l e ({ frames := 0, cells := 0, slots := 0, locals := 0 }) s m [.ref (q 0)].toArray below meth c H locs 0 0 (MQ below (QV g A (p_V (MX g q lb) [] [51, 52, 53, 54, 55] [] σ Q)) [.ref (q 0)].toArray s 0 0 A) (F0 m 2 ls []))) := ⟨_, fun _ _ => Iff.rfl⟩
  refine (fun hw => ?_) (hw P2 ?_)
  ·
    refine lv_iconst (v := I 0) hx hb dX13_noteAll_0 rfl ?_
    refine lv_istore_n (lv' := [(1, .int (I 0)), (0, .ref (q 0))]) hx hb dX13_noteAll_1 rfl hl (by decide) rfl (fun ls hl => ?_)
    exact (hP2 _ _).mp hw (by decide) hN hF H locs ls hP hD hS (lv_sub hl [1, 0] rfl)
  ·
    intro u1 τ hw
    refine (hP2 _ _).mpr ?_
    intro r_u1 hN hF H locs ls hP hD hS hl
    have hB := hN
    refine lv_iload_n hx hb dX13_noteAll_2 rfl (lv_at hl 1 rfl) ?_
    refine lv_aload_n hx hb dX13_noteAll_3 rfl (lv_at hl 0 rfl) ?_
    refine gfX13_symbols hx hb hts hK hP hown (hts _ tw_2013) (x := τ.1 3) rfl dX13_noteAll_4 ?_
    refine bi_icmp_ge (tgt := 76) hx hb r_u1 (hB.1 3) dX13_noteAll_7 (by decide) (fun c1 => ?_) (fun c1 => ?_)
    ·
      replace hw := hw.1 c1
      exact xrv hx hb hr hlk hP hK hD hS ⟨_, hN, hF, rfl, hw⟩ (Nat.le_of_ble_eq_true rfl) (Nat.le_of_ble_eq_true rfl) dX13_noteAll_76
    ·
      replace hw := hw.2 c1
      refine lv_aload_n hx hb dX13_noteAll_10 rfl (lv_at hl 0 rfl) ?_
      refine gfX13_wasVariable hx hb hts hK hP hown (hts _ tw_2095) dX13_noteAll_11 ?_
      refine lv_iload_n hx hb dX13_noteAll_14 rfl (lv_at hl 1 rfl) ?_
      refine lv_aload_n hx hb dX13_noteAll_15 rfl (lv_at hl 0 rfl) ?_
      refine gfX13_isVariable hx hb hts hK hP hown (hts _ tw_2018) dX13_noteAll_16 ?_
      refine lv_iload_n hx hb dX13_noteAll_19 rfl (lv_at hl 1 rfl) ?_
      obtain ⟨c2, hw⟩ := hw
      refine ldMX13_isVariable hx hb hK hP hN c2 dX13_noteAll_20 (fun x3 r_x3 e_x3 => ?_)
      replace hw := hw x3 r_x3 e_x3
      obtain ⟨c4, hw⟩ := hw
      refine sdMX13_wasVariable hx hb hK hP hD hS c2 c4 dX13_noteAll_21 (fun H locs hP hD hS => ?_)
      have hN : n_m (s_a τ 51 u1 x3) := n_a (k := 51) (j := u1) hN (r_x3 : rg x3)
      have hF : f_r [] [51, 52, 53, 54, 55] [] σ (s_a τ 51 u1 x3) := f_a hF (by decide)
      refine lv_aload_n hx hb dX13_noteAll_22 rfl (lv_at hl 0 rfl) ?_
      refine gfX13_wasActive hx hb hts hK hP hown (hts _ tw_2096) dX13_noteAll_23 ?_
      refine lv_iload_n hx hb dX13_noteAll_26 rfl (lv_at hl 1 rfl) ?_
      refine lv_aload_n hx hb dX13_noteAll_27 rfl (lv_at hl 0 rfl) ?_
      refine gfX13_isActive hx hb hts hK hP hown (hts _ tw_2019) dX13_noteAll_28 ?_
      refine lv_iload_n hx hb dX13_noteAll_31 rfl (lv_at hl 1 rfl) ?_
      refine ldMX13_isActive hx hb hK hP hN c2 dX13_noteAll_32 (fun x5 r_x5 e_x5 => ?_)
      replace hw := hw x5 r_x5 e_x5
      obtain ⟨c6, hw⟩ := hw
      refine sdMX13_wasActive hx hb hK hP hD hS c2 c6 dX13_noteAll_33 (fun H locs hP hD hS => ?_)
      have hN : n_m (s_a (s_a τ 51 u1 x3) 52 u1 x5) := n_a (k := 52) (j := u1) hN (r_x5 : rg x5)
      have hF : f_r [] [51, 52, 53, 54, 55] [] σ (s_a (s_a τ 51 u1 x3) 52 u1 x5) := f_a hF (by decide)
      refine lv_aload_n hx hb dX13_noteAll_34 rfl (lv_at hl 0 rfl) ?_
      refine gfX13_wasBegin hx hb hts hK hP hown (hts _ tw_2097) dX13_noteAll_35 ?_
      refine lv_iload_n hx hb dX13_noteAll_38 rfl (lv_at hl 1 rfl) ?_
      refine lv_aload_n hx hb dX13_noteAll_39 rfl (lv_at hl 0 rfl) ?_
      refine gfX13_begins hx hb hts hK hP hown (hts _ tw_2022) dX13_noteAll_40 ?_
      refine lv_iload_n hx hb dX13_noteAll_43 rfl (lv_at hl 1 rfl) ?_
      refine ldMX13_begins hx hb hK hP hN c2 dX13_noteAll_44 (fun x7 r_x7 e_x7 => ?_)
      replace hw := hw x7 r_x7 e_x7
      obtain ⟨c8, hw⟩ := hw
      refine sdMX13_wasBegin hx hb hK hP hD hS c2 c8 dX13_noteAll_45 (fun H locs hP hD hS => ?_)
      have hN : n_m (s_a (s_a (s_a τ 51 u1 x3) 52 u1 x5) 53 u1 x7) := n_a (k := 53) (j := u1) hN (r_x7 : rg x7)
      have hF : f_r [] [51, 52, 53, 54, 55] [] σ (s_a (s_a (s_a τ 51 u1 x3) 52 u1 x5) 53 u1 x7) := f_a hF (by decide)
      refine lv_aload_n hx hb dX13_noteAll_46 rfl (lv_at hl 0 rfl) ?_
      refine gfX13_wasType hx hb hts hK hP hown (hts _ tw_2098) dX13_noteAll_47 ?_
      refine lv_iload_n hx hb dX13_noteAll_50 rfl (lv_at hl 1 rfl) ?_
      refine lv_aload_n hx hb dX13_noteAll_51 rfl (lv_at hl 0 rfl) ?_
      refine gfX13_typeOf hx hb hts hK hP hown (hts _ tw_2020) dX13_noteAll_52 ?_
      refine lv_iload_n hx hb dX13_noteAll_55 rfl (lv_at hl 1 rfl) ?_
      refine ldMX13_typeOf hx hb hK hP hN c2 dX13_noteAll_56 (fun x9 r_x9 e_x9 => ?_)
      replace hw := hw x9 r_x9 e_x9
      refine sdMX13_wasType hx hb hK hP hD hS c2 dX13_noteAll_57 (fun H locs hP hD hS => ?_)
      have hN : n_m (s_a (s_a (s_a (s_a τ 51 u1 x3) 52 u1 x5) 53 u1 x7) 54 u1 x9) := n_a (k := 54) (j := u1) hN (r_x9 : rg x9)
      have hF : f_r [] [51, 52, 53, 54, 55] [] σ (s_a (s_a (s_a (s_a τ 51 u1 x3) 52 u1 x5) 53 u1 x7) 54 u1 x9) := f_a hF (by decide)
      refine lv_aload_n hx hb dX13_noteAll_58 rfl (lv_at hl 0 rfl) ?_
      refine gfX13_wasFloat hx hb hts hK hP hown (hts _ tw_2099) dX13_noteAll_59 ?_
      refine lv_iload_n hx hb dX13_noteAll_62 rfl (lv_at hl 1 rfl) ?_
      refine lv_aload_n hx hb dX13_noteAll_63 rfl (lv_at hl 0 rfl) ?_
      refine gfX13_floatOf hx hb hts hK hP hown (hts _ tw_2021) dX13_noteAll_64 ?_
      refine lv_iload_n hx hb dX13_noteAll_67 rfl (lv_at hl 1 rfl) ?_
      refine ldMX13_floatOf hx hb hK hP hN c2 dX13_noteAll_68 (fun x10 r_x10 e_x10 => ?_)
      replace hw := hw x10 r_x10 e_x10
      refine sdMX13_wasFloat hx hb hK hP hD hS c2 dX13_noteAll_69 (fun H locs hP hD hS => ?_)
      have hN : n_m (s_a (s_a (s_a (s_a (s_a τ 51 u1 x3) 52 u1 x5) 53 u1 x7) 54 u1 x9) 55 u1 x10) := n_a (k := 55) (j := u1) hN (r_x10 : rg x10)
      have hF : f_r [] [51, 52, 53, 54, 55] [] σ (s_a (s_a (s_a (s_a (s_a τ 51 u1 x3) 52 u1 x5) 53 u1 x7) 54 u1 x9) 55 u1 x10) := f_a hF (by decide)
      refine lv_iinc (v := I (u1 + 1)) (lv' := [(1, .int (I (u1 + 1))), (0, .ref (q 0))]) hx hb dX13_noteAll_70 hl (k := 1) rfl (I_add _ _) (by decide) rfl (fun ls hl => ?_)
      refine lv_goto (tgt := 2) hx hb dX13_noteAll_73 (by decide) ?_
      obtain ⟨c11, hw⟩ := hw
      exact (hP2 _ _).mp hw c11 hN hF H locs ls hP hD hS (lv_sub hl [1, 0] rfl)
def W_X13_forgetText (n1 : Int) (n2 : Int) (n3 : Int) (n4 : Int) (n5 : Int) (n6 : Int) (σ : S0) (Q : S0 → Prop) : Prop :=
  ∀ (P60 : Int → S0 → Prop) (P98 : Int → S0 → Prop) (P136 : Int → S0 → Prop) (P174 : Int → S0 → Prop) (P185 : Int → S0 → Prop) (P284 : Int → Int → Int → S0 → Prop) (P314 : Int → S0 → Prop) (P337 : Int → S0 → Prop) (P347 : Int → S0 → Prop) (P371 : Int → S0 → Prop),
  (∀ (k1 : Int) (τ : S0), ((¬ τ.1 5 = 0 → (0 ≤ (τ.1 5 - 1) ∧ (τ.1 5 - 1) < 1501) ∧ (∀ (x11 : Int), rg x11 → x11 = τ.2.1 18 (τ.1 5 - 1) → (∀ (x12 : Int), rg x12 → x12 = τ.2.1 19 (τ.1 5 - 1) → (rg (x11 + x12) ∧ P98 (x11 + x12) (s_v τ 6 k1))))) ∧ (τ.1 5 = 0 → P98 0 (s_v τ 6 k1))) → P60 k1 τ) →
  (∀ (k1 : Int) (τ : S0), ((¬ τ.1 5 = 0 → (0 ≤ (τ.1 5 - 1) ∧ (τ.1 5 - 1) < 1501) ∧ (∀ (x16 : Int), rg x16 → x16 = τ.2.1 21 (τ.1 5 - 1) → (∀ (x17 : Int), rg x17 → x17 = τ.2.1 22 (τ.1 5 - 1) → (rg (x16 + x17) ∧ P136 (x16 + x17) (s_v τ 7 k1))))) ∧ (τ.1 5 = 0 → P136 0 (s_v τ 7 k1))) → P98 k1 τ) →
  (∀ (k1 : Int) (τ : S0), ((¬ τ.1 5 = 0 → (0 ≤ (τ.1 5 - 1) ∧ (τ.1 5 - 1) < 1501) ∧ (∀ (x21 : Int), rg x21 → x21 = τ.2.1 25 (τ.1 5 - 1) → (∀ (x22 : Int), rg x22 → x22 = τ.2.1 26 (τ.1 5 - 1) → (rg (x21 + x22) ∧ P174 (x21 + x22) (s_v τ 8 k1))))) ∧ (τ.1 5 = 0 → P174 0 (s_v τ 8 k1))) → P136 k1 τ) →
  (∀ (k1 : Int) (τ : S0), (P185 0 (s_v (s_v τ 9 k1) 4 0)) → P174 k1 τ) →
  (∀ (u7 : Int) (τ : S0), ((τ.1 3 ≤ u7 → (τ.1 10 < τ.1 3 → P314 (τ.1 10) τ) ∧ (τ.1 3 ≤ τ.1 10 → P314 (-1) τ)) ∧ (u7 < τ.1 3 → (0 ≤ u7 ∧ u7 < 1001) ∧ (∀ (x27 : Int), rg x27 → x27 = τ.2.1 51 u7 → ((0 ≤ x27 ∧ x27 ≤ 1) ∧ (∀ (x29 : Int), rg x29 → x29 = τ.2.1 52 u7 → ((0 ≤ x29 ∧ x29 ≤ 1) ∧ (∀ (x31 : Int), rg x31 → x31 = τ.2.1 53 u7 → ((0 ≤ x31 ∧ x31 ≤ 1) ∧ (∀ (x33 : Int), rg x33 → x33 = τ.2.1 54 u7 → (∀ (x34 : Int), rg x34 → x34 = τ.2.1 55 u7 → (∀ (x35 : Int), rg x35 → x35 = (st (τ.2.1 12) u7 x31) u7 → ((x35 = 0 → P284 u7 (τ.1 4) 0 (s_a (s_a (s_a (s_a (s_a τ 8 u7 x27) 9 u7 x29) 12 u7 x31) 10 u7 x33) 11 u7 x34)) ∧ (¬ x35 = 0 → P284 u7 (τ.1 4) 1 (s_a (s_a (s_a (s_a (s_a τ 8 u7 x27) 9 u7 x29) 12 u7 x31) 10 u7 x33) 11 u7 x34)))))))))))))) → P185 u7 τ) →
  (∀ (u7 : Int) (k1 : Int) (k2 : Int) (τ : S0), (rg (k1 + k2) ∧ rg (u7 + 1) ∧ P185 (u7 + 1) (s_v τ 4 (k1 + k2))) → P284 u7 k1 k2 τ) →
  (∀ (k1 : Int) (τ : S0), ((τ.1 11 < τ.1 3 → P337 (τ.1 11) (s_v τ 10 k1)) ∧ (τ.1 3 ≤ τ.1 11 → P337 (-1) (s_v τ 10 k1))) → P314 k1 τ) →
  (∀ (k1 : Int) (τ : S0), (∃ (Q40 : S0 → Prop), W_X13_clearTables (s_v τ 11 k1) Q40 ∧ ∀ (τ42 : S0), n_m τ42 → f_r [] [6, 7] [] (s_v τ 11 k1) τ42 → Q40 τ42 → (P347 0 τ42)) → P337 k1 τ) →
  (∀ (u7 : Int) (τ : S0), ((τ.1 3 ≤ u7 → P371 0 τ) ∧ (u7 < τ.1 3 → ∃ (Q44 : S0 → Prop), W_X13_keepSymbol u7 τ Q44 ∧ ∀ (τ46 : S0), n_m τ46 → f_r [] [6] [] τ τ46 → Q44 τ46 → (rg (u7 + 1) ∧ P347 (u7 + 1) τ46))) → P347 u7 τ) →
  (∀ (u7 : Int) (τ : S0), ((τ.1 5 ≤ u7 → Q τ) ∧ (u7 < τ.1 5 → ∃ (Q49 : S0 → Prop), W_X13_keepLabel u7 τ Q49 ∧ ∀ (τ51 : S0), n_m τ51 → f_r [] [7] [] τ τ51 → Q49 τ51 → (rg (u7 + 1) ∧ P371 (u7 + 1) τ51))) → P371 u7 τ) →
  ∃ (Q1 : S0 → Prop), W_X13_dropTo n4 n5 n6 σ Q1 ∧ ∀ (τ3 : S0), n_m τ3 → f_r [12, 13, 14] [9, 11] [1] σ τ3 → Q1 τ3 → ((¬ n2 = 0 → (0 ≤ (n2 - 1) ∧ (n2 - 1) < 1501) ∧ (∀ (x6 : Int), rg x6 → x6 = τ3.2.1 14 (n2 - 1) → (∀ (x7 : Int), rg x7 → x7 = τ3.2.1 15 (n2 - 1) → (rg (x6 + x7) ∧ P60 (x6 + x7) (s_v (s_v (s_v τ3 3 n1) 5 n2) 2 n3))))) ∧ (n2 = 0 → P60 0 (s_v (s_v (s_v τ3 3 n1) 5 n2) 2 n3)))
set_option maxRecDepth 100000 in
set_option maxHeartbeats 4000000 in
theorem L_X13_forgetText (l : Launch) (g : gG) (q : Nat → Nat) (lb : Nat) (hlb : lb < 2 ^ 31) {n1 : Int} {n2 : Int} {n3 : Int} {n4 : Int} {n5 : Int} {n6 : Int} {σ : S0} {Q : S0 → Prop} (r_n1 : rg n1) (r_n2 : rg n2) (r_n3 : rg n3) (r_n4 : rg n4) (r_n5 : rg n5) (r_n6 : rg n6) (hN : n_m σ) (hw : W_X13_forgetText n1 n2 n3 n4 n5 n6 σ Q) (sz : Nat) : MetV l yX13_forgetText cX13_forgetText 8 { frames := 2, cells := 0, slots := 0, locals := 51 } g [.ref (q 0), .int (I n1), .int (I n2), .int (I n3), .int (I n4), .int (I n5), .int (I n6)] (MX g q lb σ) sz xT (p_V (MX g q lb) [2, 3, 4, 5, 6, 7, 8, 9, 10, 11, 12, 13, 14] [6, 7, 8, 9, 10, 11, 12] [1] σ Q) 0 0 := by
  refine mkMet (Qc := fun A => QV g A (p_V (MX g q lb) [2, 3, 4, 5, 6, 7, 8, 9, 10, 11, 12, 13, 14] [6, 7, 8, 9, 10, 11, 12] [1] σ Q)) (by decide) (Nat.le_of_ble_eq_true rfl) ?_
  intro p e s m below meth c A H ls hx hb hr hml hown hts hlk hnm hsz hP hK hNb hD hA hAe hS hX hl
  have hl : lv_has ls 8 [(0, .ref (q 0)), (1, .int (I n1)), (2, .int (I n2)), (3, .int (I n3)), (4, .int (I n4)), (5, .int (I n5)), (6, .int (I n6))] := hl
  have hB := hN
  have hF : f_r [2, 3, 4, 5, 6, 7, 8, 9, 10, 11, 12, 13, 14] [6, 7, 8, 9, 10, 11, 12] [1] σ σ := f_0
  obtain ⟨locs, hlocs⟩ : ∃ z : List Loc, z = [] := ⟨_, rfl⟩
  rw [← hlocs] at hS ⊢
  obtain ⟨P60, hP60⟩ : ∃ P : Int → S0 → Prop, ∀ (k1 : Int) (τ : S0), (P k1 τ ↔ (rg k1 → n_m τ → f_r [2, 3, 4, 5, 6, 7, 8, 9, 10, 11, 12, 13, 14] [6, 7, 8, 9, 10, 11, 12] [1] σ τ → ∀ (H : Heap) (locs : List Loc) (ls : Array Slot), KP g (MX g q lb τ) H → va_D A (MX g q lb τ) → va_S A s.heap H locs → lv_has ls 8 [(0, .ref (q 0))] → W p l e ({ frames := 2, cells := 0, slots := 0, locals := 51 }) s m [.ref (q 0), .int (I n1), .int (I n2), .int (I n3), .int (I n4), .int (I n5), .int (I n6)].toArray below meth c H locs 0 0 (MQ below (QV g A (p_V (MX g q lb) [2, 3, 4, 5, 6, 7, 8, 9, 10, 11, 12, 13, 14] [6, 7, 8, 9, 10, 11, 12] [1] σ Q)) [.ref (q 0), .int (I n1), .int (I n2), .int (I n3), .int (I n4), .int (I n5), .int (I n6)].toArray s 0 0 A) (F0 m 60 ls [.int (I k1), .ref (q 0)]))) := ⟨_, fun _ _ => Iff.rfl⟩
  obtain ⟨P98, hP98⟩ : ∃ P : Int → S0 → Prop, ∀ (k1 : Int) (τ : S0), (P k1 τ ↔ (rg k1 → n_m τ → f_r [2, 3, 4, 5, 6, 7, 8, 9, 10, 11, 12, 13, 14] [6, 7, 8, 9, 10, 11, 12] [1] σ τ → ∀ (H : Heap) (locs : List Loc) (ls : Array Slot), KP g (MX g q lb τ) H → va_D A (MX g q lb τ) → va_S A s.heap H locs → lv_has ls 8 [(0, .ref (q 0))] → W p l e ({ frames := 2, cells := 0, slots := 0, locals := 51 }) s m [.ref (q 0), .int (I n1), .int (I n2), .int (I n3), .int (I n4), .int (I n5), .int (I n6)].toArray below meth c H locs 0 0 (MQ below (QV g A (p_V (MX g q lb) [2, 3, 4, 5, 6, 7, 8, 9, 10, 11, 12, 13, 14] [6, 7, 8, 9, 10, 11, 12] [1] σ Q)) [.ref (q 0), .int (I n1), .int (I n2), .int (I n3), .int (I n4), .int (I n5), .int (I n6)].toArray s 0 0 A) (F0 m 98 ls [.int (I k1), .ref (q 0)]))) := ⟨_, fun _ _ => Iff.rfl⟩
  obtain ⟨P136, hP136⟩ : ∃ P : Int → S0 → Prop, ∀ (k1 : Int) (τ : S0), (P k1 τ ↔ (rg k1 → n_m τ → f_r [2, 3, 4, 5, 6, 7, 8, 9, 10, 11, 12, 13, 14] [6, 7, 8, 9, 10, 11, 12] [1] σ τ → ∀ (H : Heap) (locs : List Loc) (ls : Array Slot), KP g (MX g q lb τ) H → va_D A (MX g q lb τ) → va_S A s.heap H locs → lv_has ls 8 [(0, .ref (q 0))] → W p l e ({ frames := 2, cells := 0, slots := 0, locals := 51 }) s m [.ref (q 0), .int (I n1), .int (I n2), .int (I n3), .int (I n4), .int (I n5), .int (I n6)].toArray below meth c H locs 0 0 (MQ below (QV g A (p_V (MX g q lb) [2, 3, 4, 5, 6, 7, 8, 9, 10, 11, 12, 13, 14] [6, 7, 8, 9, 10, 11, 12] [1] σ Q)) [.ref (q 0), .int (I n1), .int (I n2), .int (I n3), .int (I n4), .int (I n5), .int (I n6)].toArray s 0 0 A) (F0 m 136 ls [.int (I k1), .ref (q 0)]))) := ⟨_, fun _ _ => Iff.rfl⟩
  obtain ⟨P174, hP174⟩ : ∃ P : Int → S0 → Prop, ∀ (k1 : Int) (τ : S0), (P k1 τ ↔ (rg k1 → n_m τ → f_r [2, 3, 4, 5, 6, 7, 8, 9, 10, 11, 12, 13, 14] [6, 7, 8, 9, 10, 11, 12] [1] σ τ → ∀ (H : Heap) (locs : List Loc) (ls : Array Slot), KP g (MX g q lb τ) H → va_D A (MX g q lb τ) → va_S A s.heap H locs → lv_has ls 8 [(0, .ref (q 0))] → W p l e ({ frames := 2, cells := 0, slots := 0, locals := 51 }) s m [.ref (q 0), .int (I n1), .int (I n2), .int (I n3), .int (I n4), .int (I n5), .int (I n6)].toArray below meth c H locs 0 0 (MQ below (QV g A (p_V (MX g q lb) [2, 3, 4, 5, 6, 7, 8, 9, 10, 11, 12, 13, 14] [6, 7, 8, 9, 10, 11, 12] [1] σ Q)) [.ref (q 0), .int (I n1), .int (I n2), .int (I n3), .int (I n4), .int (I n5), .int (I n6)].toArray s 0 0 A) (F0 m 174 ls [.int (I k1), .ref (q 0)]))) := ⟨_, fun _ _ => Iff.rfl⟩
  obtain ⟨P185, hP185⟩ : ∃ P : Int → S0 → Prop, ∀ (u7 : Int) (τ : S0), (P u7 τ ↔ (rg u7 → n_m τ → f_r [2, 3, 4, 5, 6, 7, 8, 9, 10, 11, 12, 13, 14] [6, 7, 8, 9, 10, 11, 12] [1] σ τ → ∀ (H : Heap) (locs : List Loc) (ls : Array Slot), KP g (MX g q lb τ) H → va_D A (MX g q lb τ) → va_S A s.heap H locs → lv_has ls 8 [(0, .ref (q 0)), (7, .int (I u7))] → W p l e ({ frames := 2, cells := 0, slots := 0, locals := 51 }) s m [.ref (q 0), .int (I n1), .int (I n2), .int (I n3), .int (I n4), .int (I n5), .int (I n6)].toArray below meth c H locs 0 0 (MQ below (QV g A (p_V (MX g q lb) [2, 3, 4, 5, 6, 7, 8, 9, 10, 11, 12, 13, 14] [6, 7, 8, 9, 10, 11, 12] [1] σ Q)) [.ref (q 0), .int (I n1), .int (I n2), .int (I n3), .int (I n4), .int (I n5), .int (I n6)].toArray s 0 0 A) (F0 m 185 ls []))) := ⟨_, fun _ _ => Iff.rfl⟩
  obtain ⟨P284, hP284⟩ : ∃ P : Int → Int → Int → S0 → Prop, ∀ (u7 : Int) (k1 : Int) (k2 : Int) (τ : S0), (P u7 k1 k2 τ ↔ (rg u7 → rg k1 → rg k2 → n_m τ → f_r [2, 3, 4, 5, 6, 7, 8, 9, 10, 11, 12, 13, 14] [6, 7, 8, 9, 10, 11, 12] [1] σ τ → ∀ (H : Heap) (locs : List Loc) (ls : Array Slot), KP g (MX g q lb τ) H → va_D A (MX g q lb τ) → va_S A s.heap H locs → lv_has ls 8 [(0, .ref (q 0)), (7, .int (I u7))] → W p l e ({ frames := 2, cells := 0, slots := 0, locals := 51 }) s m [.ref (q 0), .int (I n1), .int (I n2), .int (I n3), .int (I n4), .int (I n5), .int (I n6)].toArray below meth c H locs 0 0 (MQ below (QV g A (p_V (MX g q lb) [2, 3, 4, 5, 6, 7, 8, 9, 10, 11, 12, 13, 14] [6, 7, 8, 9, 10, 11, 12] [1] σ Q)) [.ref (q 0), .int (I n1), .int (I n2), .int (I n3), .int (I n4), .int (I n5), .int (I n6)].toArray s 0 0 A) (F0 m 284 ls [.int (I k2), .int (I k1), .ref (q 0)]))) := ⟨_, fun _ _ _ _ => Iff.rfl⟩
  obtain ⟨P314, hP314⟩ : ∃ P : Int → S0 → Prop, ∀ (k1 : Int) (τ : S0), (P k1 τ ↔ (rg k1 → n_m τ → f_r [2, 3, 4, 5, 6, 7, 8, 9, 10, 11, 12, 13, 14] [6, 7, 8, 9, 10, 11, 12] [1] σ τ → ∀ (H : Heap) (locs : List Loc) (ls : Array Slot), KP g (MX g q lb τ) H → va_D A (MX g q lb τ) → va_S A s.heap H locs → lv_has ls 8 [(0, .ref (q 0))] → W p l e ({ frames := 2, cells := 0, slots := 0, locals := 51 }) s m [.ref (q 0), .int (I n1), .int (I n2), .int (I n3), .int (I n4), .int (I n5), .int (I n6)].toArray below meth c H locs 0 0 (MQ below (QV g A (p_V (MX g q lb) [2, 3, 4, 5, 6, 7, 8, 9, 10, 11, 12, 13, 14] [6, 7, 8, 9, 10, 11, 12] [1] σ Q)) [.ref (q 0), .int (I n1), .int (I n2), .int (I n3), .int (I n4), .int (I n5), .int (I n6)].toArray s 0 0 A) (F0 m 314 ls [.int (I k1), .ref (q 0)]))) := ⟨_, fun _ _ => Iff.rfl⟩
  obtain ⟨P337, hP337⟩ : ∃ P : Int → S0 → Prop, ∀ (k1 : Int) (τ : S0), (P k1 τ ↔ (rg k1 → n_m τ → f_r [2, 3, 4, 5, 6, 7, 8, 9, 10, 11, 12, 13, 14] [6, 7, 8, 9, 10, 11, 12] [1] σ τ → ∀ (H : Heap) (locs : List Loc) (ls : Array Slot), KP g (MX g q lb τ) H → va_D A (MX g q lb τ) → va_S A s.heap H locs → lv_has ls 8 [(0, .ref (q 0))] → W p l e ({ frames := 2, cells := 0, slots := 0, locals := 51 }) s m [.ref (q 0), .int (I n1), .int (I n2), .int (I n3), .int (I n4), .int (I n5), .int (I n6)].toArray below meth c H locs 0 0 (MQ below (QV g A (p_V (MX g q lb) [2, 3, 4, 5, 6, 7, 8, 9, 10, 11, 12, 13, 14] [6, 7, 8, 9, 10, 11, 12] [1] σ Q)) [.ref (q 0), .int (I n1), .int (I n2), .int (I n3), .int (I n4), .int (I n5), .int (I n6)].toArray s 0 0 A) (F0 m 337 ls [.int (I k1), .ref (q 0)]))) := ⟨_, fun _ _ => Iff.rfl⟩
  obtain ⟨P347, hP347⟩ : ∃ P : Int → S0 → Prop, ∀ (u7 : Int) (τ : S0), (P u7 τ ↔ (rg u7 → n_m τ → f_r [2, 3, 4, 5, 6, 7, 8, 9, 10, 11, 12, 13, 14] [6, 7, 8, 9, 10, 11, 12] [1] σ τ → ∀ (H : Heap) (locs : List Loc) (ls : Array Slot), KP g (MX g q lb τ) H → va_D A (MX g q lb τ) → va_S A s.heap H locs → lv_has ls 8 [(0, .ref (q 0)), (7, .int (I u7))] → W p l e ({ frames := 2, cells := 0, slots := 0, locals := 51 }) s m [.ref (q 0), .int (I n1), .int (I n2), .int (I n3), .int (I n4), .int (I n5), .int (I n6)].toArray below meth c H locs 0 0 (MQ below (QV g A (p_V (MX g q lb) [2, 3, 4, 5, 6, 7, 8, 9, 10, 11, 12, 13, 14] [6, 7, 8, 9, 10, 11, 12] [1] σ Q)) [.ref (q 0), .int (I n1), .int (I n2), .int (I n3), .int (I n4), .int (I n5), .int (I n6)].toArray s 0 0 A) (F0 m 347 ls []))) := ⟨_, fun _ _ => Iff.rfl⟩
  obtain ⟨P371, hP371⟩ : ∃ P : Int → S0 → Prop, ∀ (u7 : Int) (τ : S0), (P u7 τ ↔ (rg u7 → n_m τ → f_r [2, 3, 4, 5, 6, 7, 8, 9, 10, 11, 12, 13, 14] [6, 7, 8, 9, 10, 11, 12] [1] σ τ → ∀ (H : Heap) (locs : List Loc) (ls : Array Slot), KP g (MX g q lb τ) H → va_D A (MX g q lb τ) → va_S A s.heap H locs → lv_has ls 8 [(0, .ref (q 0)), (7, .int (I u7))] → W p l e ({ frames := 2, cells := 0, slots := 0, locals := 51 }) s m [.ref (q 0), .int (I n1), .int (I n2), .int (I n3), .int (I n4), .int (I n5), .int (I n6)].toArray below meth c H locs 0 0 (MQ below (QV g A (p_V (MX g q lb) [2, 3, 4, 5, 6, 7, 8, 9, 10, 11, 12, 13, 14] [6, 7, 8, 9, 10, 11, 12] [1] σ Q)) [.ref (q 0), .int (I n1), .int (I n2), .int (I n3), .int (I n4), .int (I n5), .int (I n6)].toArray s 0 0 A) (F0 m 371 ls []))) := ⟨_, fun _ _ => Iff.rfl⟩
  refine (fun hw => ?_) (hw P60 P98 P136 P174 P185 P284 P314 P337 P347 P371 ?_ ?_ ?_ ?_ ?_ ?_ ?_ ?_ ?_ ?_)
  ·
    refine lv_aload_n hx hb dX13_forgetText_0 rfl (lv_at hl 0 rfl) ?_
    refine lv_iload hx hb dX13_forgetText_1 (lv_at hl 4 rfl) ?_
    refine lv_iload hx hb dX13_forgetText_3 (lv_at hl 5 rfl) ?_
    refine lv_iload hx hb dX13_forgetText_5 (lv_at hl 6 rfl) ?_
    obtain ⟨Q1, hc, hw⟩ := hw
    refine wc_V (X := MX g q lb) (va_runV (As := [.int (I n4), .int (I n5), .int (I n6)]) (rest := []) ⟨hx, hb, hml, hown, hts⟩ (L_X13_dropTo l g q lb hlb r_n4 r_n5 r_n6 hN hc H.size) (cwV 3 hts (TB_V tw_2779 tw_2781 ts_158 tw_15 co_X13_dropTo) rfl rfl rfl (by decide +kernel) ⟨Nat.le_of_ble_eq_true rfl, Nat.le_of_ble_eq_true rfl⟩) (preV (q0 := 0) (ci := 13) rfl xT_bl hP hK hNb hD rfl rfl xT_at) rfl rfl hl.1 rfl (lv_room (Nat.le_of_ble_eq_true rfl)) dX13_forgetText_7 ⟨Nat.le_of_ble_eq_true rfl, Nat.le_of_ble_eq_true rfl⟩) hP hD hS hA (fun τ3 H locs hN hf hq hP hD hS => ?_)
    replace hw := hw τ3 hN hf hq
    have hF : f_r [2, 3, 4, 5, 6, 7, 8, 9, 10, 11, 12, 13, 14] [6, 7, 8, 9, 10, 11, 12] [1] σ τ3 := f_t hF hf (by decide) (by decide) (by decide)
    have hB := hN
    refine lv_aload_n hx hb dX13_forgetText_10 rfl (lv_at hl 0 rfl) ?_
    refine lv_iload_n hx hb dX13_forgetText_11 rfl (lv_at hl 1 rfl) ?_
    refine pfX13_symbols hx hb hts hK hP hD hS hown (hts _ tw_2013) dX13_forgetText_12 (fun H locs hP hD hS => ?_)
    have hN : n_m (s_v τ3 3 n1) := n_v (i := 3) hN (r_n1 : rg n1)
    have hF : f_r [2, 3, 4, 5, 6, 7, 8, 9, 10, 11, 12, 13, 14] [6, 7, 8, 9, 10, 11, 12] [1] σ (s_v τ3 3 n1) := f_v hF (by decide)
    refine lv_aload_n hx hb dX13_forgetText_15 rfl (lv_at hl 0 rfl) ?_
    refine lv_iload_n hx hb dX13_forgetText_16 rfl (lv_at hl 2 rfl) ?_
    refine pfX13_statements hx hb hts hK hP hD hS hown (hts _ tw_2024) dX13_forgetText_17 (fun H locs hP hD hS => ?_)
    have hN : n_m (s_v (s_v τ3 3 n1) 5 n2) := n_v (i := 5) hN (r_n2 : rg n2)
    have hF : f_r [2, 3, 4, 5, 6, 7, 8, 9, 10, 11, 12, 13, 14] [6, 7, 8, 9, 10, 11, 12] [1] σ (s_v (s_v τ3 3 n1) 5 n2) := f_v hF (by decide)
    refine lv_aload_n hx hb dX13_forgetText_20 rfl (lv_at hl 0 rfl) ?_
    refine lv_iload_n hx hb dX13_forgetText_21 rfl (lv_at hl 3 rfl) ?_
    refine pfX13_charCount hx hb hts hK hP hD hS hown (hts _ tw_2010) dX13_forgetText_22 (fun H locs hP hD hS => ?_)
    have hN : n_m (s_v (s_v (s_v τ3 3 n1) 5 n2) 2 n3) := n_v (i := 2) hN (r_n3 : rg n3)
    have hF : f_r [2, 3, 4, 5, 6, 7, 8, 9, 10, 11, 12, 13, 14] [6, 7, 8, 9, 10, 11, 12] [1] σ (s_v (s_v (s_v τ3 3 n1) 5 n2) 2 n3) := f_v hF (by decide)
    refine lv_aload_n hx hb dX13_forgetText_25 rfl (lv_at hl 0 rfl) ?_
    refine lv_aload_n hx hb dX13_forgetText_26 rfl (lv_at hl 0 rfl) ?_
    refine gfX13_statements hx hb hts hK hP hown (hts _ tw_2024) (x := n2) rfl dX13_forgetText_27 ?_
    refine bi_if_ne (tgt := 37) hx hb r_n2 dX13_forgetText_30 (by decide) (fun c4 => ?_) (fun c4 => ?_)
    ·
      replace hw := hw.1 c4
      refine lv_aload_n hx hb dX13_forgetText_37 rfl (lv_at hl 0 rfl) ?_
      refine gfX13_textAt hx hb hts hK hP hown (hts _ tw_2026) dX13_forgetText_38 ?_
      refine lv_aload_n hx hb dX13_forgetText_41 rfl (lv_at hl 0 rfl) ?_
      refine gfX13_statements hx hb hts hK hP hown (hts _ tw_2024) (x := n2) rfl dX13_forgetText_42 ?_
      refine lv_iconst (v := I 1) hx hb dX13_forgetText_45 rfl ?_
      refine bi_isub hx hb dX13_forgetText_46 ?_
      obtain ⟨c5, hw⟩ := hw
      refine ldMX13_textAt hx hb hK hP hN c5 dX13_forgetText_47 (fun x6 r_x6 e_x6 => ?_)
      replace hw := hw x6 r_x6 e_x6
      refine lv_aload_n hx hb dX13_forgetText_48 rfl (lv_at hl 0 rfl) ?_
      refine gfX13_textSize hx hb hts hK hP hown (hts _ tw_2027) dX13_forgetText_49 ?_
      refine lv_aload_n hx hb dX13_forgetText_52 rfl (lv_at hl 0 rfl) ?_
      refine gfX13_statements hx hb hts hK hP hown (hts _ tw_2024) (x := n2) rfl dX13_forgetText_53 ?_
      refine lv_iconst (v := I 1) hx hb dX13_forgetText_56 rfl ?_
      refine bi_isub hx hb dX13_forgetText_57 ?_
      refine ldMX13_textSize hx hb hK hP hN c5 dX13_forgetText_58 (fun x7 r_x7 e_x7 => ?_)
      replace hw := hw x7 r_x7 e_x7
      refine bi_iadd hx hb dX13_forgetText_59 ?_
      obtain ⟨c8, hw⟩ := hw
      exact (hP60 _ _).mp hw c8 hN hF H locs ls hP hD hS (lv_sub hl [0] rfl)
    ·
      replace hw := hw.2 c4
      refine lv_iconst (v := I 0) hx hb dX13_forgetText_33 rfl ?_
      refine lv_goto (tgt := 60) hx hb dX13_forgetText_34 (by decide) ?_
      exact (hP60 _ _).mp hw (by decide) hN hF H locs ls hP hD hS (lv_sub hl [0] rfl)
  ·
    intro k1 τ hw
    refine (hP60 _ _).mpr ?_
    intro r_k1 hN hF H locs ls hP hD hS hl
    have hB := hN
    refine pfX13_textCount hx hb hts hK hP hD hS hown (hts _ tw_2030) dX13_forgetText_60 (fun H locs hP hD hS => ?_)
    have hN : n_m (s_v τ 6 k1) := n_v (i := 6) hN (r_k1 : rg k1)
    have hF : f_r [2, 3, 4, 5, 6, 7, 8, 9, 10, 11, 12, 13, 14] [6, 7, 8, 9, 10, 11, 12] [1] σ (s_v τ 6 k1) := f_v hF (by decide)
    refine lv_aload_n hx hb dX13_forgetText_63 rfl (lv_at hl 0 rfl) ?_
    refine lv_aload_n hx hb dX13_forgetText_64 rfl (lv_at hl 0 rfl) ?_
    refine gfX13_statements hx hb hts hK hP hown (hts _ tw_2024) (x := τ.1 5) rfl dX13_forgetText_65 ?_
    refine bi_if_ne (tgt := 75) hx hb (hB.1 5) dX13_forgetText_68 (by decide) (fun c9 => ?_) (fun c9 => ?_)
    ·
      replace hw := hw.1 c9
      refine lv_aload_n hx hb dX13_forgetText_75 rfl (lv_at hl 0 rfl) ?_
      refine gfX13_hypAt hx hb hts hK hP hown (hts _ tw_2031) dX13_forgetText_76 ?_
      refine lv_aload_n hx hb dX13_forgetText_79 rfl (lv_at hl 0 rfl) ?_
      refine gfX13_statements hx hb hts hK hP hown (hts _ tw_2024) (x := τ.1 5) rfl dX13_forgetText_80 ?_
      refine lv_iconst (v := I 1) hx hb dX13_forgetText_83 rfl ?_
      refine bi_isub hx hb dX13_forgetText_84 ?_
      obtain ⟨c10, hw⟩ := hw
      refine ldMX13_hypAt hx hb hK hP hN c10 dX13_forgetText_85 (fun x11 r_x11 e_x11 => ?_)
      replace hw := hw x11 r_x11 e_x11
      refine lv_aload_n hx hb dX13_forgetText_86 rfl (lv_at hl 0 rfl) ?_
      refine gfX13_hypSize hx hb hts hK hP hown (hts _ tw_2032) dX13_forgetText_87 ?_
      refine lv_aload_n hx hb dX13_forgetText_90 rfl (lv_at hl 0 rfl) ?_
      refine gfX13_statements hx hb hts hK hP hown (hts _ tw_2024) (x := τ.1 5) rfl dX13_forgetText_91 ?_
      refine lv_iconst (v := I 1) hx hb dX13_forgetText_94 rfl ?_
      refine bi_isub hx hb dX13_forgetText_95 ?_
      refine ldMX13_hypSize hx hb hK hP hN c10 dX13_forgetText_96 (fun x12 r_x12 e_x12 => ?_)
      replace hw := hw x12 r_x12 e_x12
      refine bi_iadd hx hb dX13_forgetText_97 ?_
      obtain ⟨c13, hw⟩ := hw
      exact (hP98 _ _).mp hw c13 hN hF H locs ls hP hD hS (lv_sub hl [0] rfl)
    ·
      replace hw := hw.2 c9
      refine lv_iconst (v := I 0) hx hb dX13_forgetText_71 rfl ?_
      refine lv_goto (tgt := 98) hx hb dX13_forgetText_72 (by decide) ?_
      exact (hP98 _ _).mp hw (by decide) hN hF H locs ls hP hD hS (lv_sub hl [0] rfl)
  ·
    intro k1 τ hw
    refine (hP98 _ _).mpr ?_
    intro r_k1 hN hF H locs ls hP hD hS hl
    have hB := hN
    refine pfX13_hypCount hx hb hts hK hP hD hS hown (hts _ tw_2034) dX13_forgetText_98 (fun H locs hP hD hS => ?_)
    have hN : n_m (s_v τ 7 k1) := n_v (i := 7) hN (r_k1 : rg k1)
    have hF : f_r [2, 3, 4, 5, 6, 7, 8, 9, 10, 11, 12, 13, 14] [6, 7, 8, 9, 10, 11, 12] [1] σ (s_v τ 7 k1) := f_v hF (by decide)
    refine lv_aload_n hx hb dX13_forgetText_101 rfl (lv_at hl 0 rfl) ?_
    refine lv_aload_n hx hb dX13_forgetText_102 rfl (lv_at hl 0 rfl) ?_
    refine gfX13_statements hx hb hts hK hP hown (hts _ tw_2024) (x := τ.1 5) rfl dX13_forgetText_103 ?_
    refine bi_if_ne (tgt := 113) hx hb (hB.1 5) dX13_forgetText_106 (by decide) (fun c14 => ?_) (fun c14 => ?_)
    ·
      replace hw := hw.1 c14
      refine lv_aload_n hx hb dX13_forgetText_113 rfl (lv_at hl 0 rfl) ?_
      refine gfX13_pairAt hx hb hts hK hP hown (hts _ tw_2035) dX13_forgetText_114 ?_
      refine lv_aload_n hx hb dX13_forgetText_117 rfl (lv_at hl 0 rfl) ?_
      refine gfX13_statements hx hb hts hK hP hown (hts _ tw_2024) (x := τ.1 5) rfl dX13_forgetText_118 ?_
      refine lv_iconst (v := I 1) hx hb dX13_forgetText_121 rfl ?_
      refine bi_isub hx hb dX13_forgetText_122 ?_
      obtain ⟨c15, hw⟩ := hw
      refine ldMX13_pairAt hx hb hK hP hN c15 dX13_forgetText_123 (fun x16 r_x16 e_x16 => ?_)
      replace hw := hw x16 r_x16 e_x16
      refine lv_aload_n hx hb dX13_forgetText_124 rfl (lv_at hl 0 rfl) ?_
      refine gfX13_pairSize hx hb hts hK hP hown (hts _ tw_2036) dX13_forgetText_125 ?_
      refine lv_aload_n hx hb dX13_forgetText_128 rfl (lv_at hl 0 rfl) ?_
      refine gfX13_statements hx hb hts hK hP hown (hts _ tw_2024) (x := τ.1 5) rfl dX13_forgetText_129 ?_
      refine lv_iconst (v := I 1) hx hb dX13_forgetText_132 rfl ?_
      refine bi_isub hx hb dX13_forgetText_133 ?_
      refine ldMX13_pairSize hx hb hK hP hN c15 dX13_forgetText_134 (fun x17 r_x17 e_x17 => ?_)
      replace hw := hw x17 r_x17 e_x17
      refine bi_iadd hx hb dX13_forgetText_135 ?_
      obtain ⟨c18, hw⟩ := hw
      exact (hP136 _ _).mp hw c18 hN hF H locs ls hP hD hS (lv_sub hl [0] rfl)
    ·
      replace hw := hw.2 c14
      refine lv_iconst (v := I 0) hx hb dX13_forgetText_109 rfl ?_
      refine lv_goto (tgt := 136) hx hb dX13_forgetText_110 (by decide) ?_
      exact (hP136 _ _).mp hw (by decide) hN hF H locs ls hP hD hS (lv_sub hl [0] rfl)
  ·
    intro k1 τ hw
    refine (hP136 _ _).mpr ?_
    intro r_k1 hN hF H locs ls hP hD hS hl
    have hB := hN
    refine pfX13_pairCount hx hb hts hK hP hD hS hown (hts _ tw_2039) dX13_forgetText_136 (fun H locs hP hD hS => ?_)
    have hN : n_m (s_v τ 8 k1) := n_v (i := 8) hN (r_k1 : rg k1)
    have hF : f_r [2, 3, 4, 5, 6, 7, 8, 9, 10, 11, 12, 13, 14] [6, 7, 8, 9, 10, 11, 12] [1] σ (s_v τ 8 k1) := f_v hF (by decide)
    refine lv_aload_n hx hb dX13_forgetText_139 rfl (lv_at hl 0 rfl) ?_
    refine lv_aload_n hx hb dX13_forgetText_140 rfl (lv_at hl 0 rfl) ?_
    refine gfX13_statements hx hb hts hK hP hown (hts _ tw_2024) (x := τ.1 5) rfl dX13_forgetText_141 ?_
    refine bi_if_ne (tgt := 151) hx hb (hB.1 5) dX13_forgetText_144 (by decide) (fun c19 => ?_) (fun c19 => ?_)
    ·
      replace hw := hw.1 c19
      refine lv_aload_n hx hb dX13_forgetText_151 rfl (lv_at hl 0 rfl) ?_
      refine gfX13_stepAt hx hb hts hK hP hown (hts _ tw_2040) dX13_forgetText_152 ?_
      refine lv_aload_n hx hb dX13_forgetText_155 rfl (lv_at hl 0 rfl) ?_
      refine gfX13_statements hx hb hts hK hP hown (hts _ tw_2024) (x := τ.1 5) rfl dX13_forgetText_156 ?_
      refine lv_iconst (v := I 1) hx hb dX13_forgetText_159 rfl ?_
      refine bi_isub hx hb dX13_forgetText_160 ?_
      obtain ⟨c20, hw⟩ := hw
      refine ldMX13_stepAt hx hb hK hP hN c20 dX13_forgetText_161 (fun x21 r_x21 e_x21 => ?_)
      replace hw := hw x21 r_x21 e_x21
      refine lv_aload_n hx hb dX13_forgetText_162 rfl (lv_at hl 0 rfl) ?_
      refine gfX13_stepSize hx hb hts hK hP hown (hts _ tw_2041) dX13_forgetText_163 ?_
      refine lv_aload_n hx hb dX13_forgetText_166 rfl (lv_at hl 0 rfl) ?_
      refine gfX13_statements hx hb hts hK hP hown (hts _ tw_2024) (x := τ.1 5) rfl dX13_forgetText_167 ?_
      refine lv_iconst (v := I 1) hx hb dX13_forgetText_170 rfl ?_
      refine bi_isub hx hb dX13_forgetText_171 ?_
      refine ldMX13_stepSize hx hb hK hP hN c20 dX13_forgetText_172 (fun x22 r_x22 e_x22 => ?_)
      replace hw := hw x22 r_x22 e_x22
      refine bi_iadd hx hb dX13_forgetText_173 ?_
      obtain ⟨c23, hw⟩ := hw
      exact (hP174 _ _).mp hw c23 hN hF H locs ls hP hD hS (lv_sub hl [0] rfl)
    ·
      replace hw := hw.2 c19
      refine lv_iconst (v := I 0) hx hb dX13_forgetText_147 rfl ?_
      refine lv_goto (tgt := 174) hx hb dX13_forgetText_148 (by decide) ?_
      exact (hP174 _ _).mp hw (by decide) hN hF H locs ls hP hD hS (lv_sub hl [0] rfl)
  ·
    intro k1 τ hw
    refine (hP174 _ _).mpr ?_
    intro r_k1 hN hF H locs ls hP hD hS hl
    have hB := hN
    refine pfX13_stepCount hx hb hts hK hP hD hS hown (hts _ tw_2045) dX13_forgetText_174 (fun H locs hP hD hS => ?_)
    have hN : n_m (s_v τ 9 k1) := n_v (i := 9) hN (r_k1 : rg k1)
    have hF : f_r [2, 3, 4, 5, 6, 7, 8, 9, 10, 11, 12, 13, 14] [6, 7, 8, 9, 10, 11, 12] [1] σ (s_v τ 9 k1) := f_v hF (by decide)
    refine lv_aload_n hx hb dX13_forgetText_177 rfl (lv_at hl 0 rfl) ?_
    refine lv_iconst (v := I 0) hx hb dX13_forgetText_178 rfl ?_
    refine pfX13_beginnings hx hb hts hK hP hD hS hown (hts _ tw_2023) dX13_forgetText_179 (fun H locs hP hD hS => ?_)
    have hN : n_m (s_v (s_v τ 9 k1) 4 0) := n_v (i := 4) hN ((by decide) : rg 0)
    have hF : f_r [2, 3, 4, 5, 6, 7, 8, 9, 10, 11, 12, 13, 14] [6, 7, 8, 9, 10, 11, 12] [1] σ (s_v (s_v τ 9 k1) 4 0) := f_v hF (by decide)
    refine lv_iconst (v := I 0) hx hb dX13_forgetText_182 rfl ?_
    refine lv_istore (lv' := [(7, .int (I 0)), (0, .ref (q 0))]) hx hb dX13_forgetText_183 hl (by decide) rfl (fun ls hl => ?_)
    exact (hP185 _ _).mp hw (by decide) hN hF H locs ls hP hD hS (lv_sub hl [1, 0] rfl)
  ·
    intro u7 τ hw
    refine (hP185 _ _).mpr ?_
    intro r_u7 hN hF H locs ls hP hD hS hl
    have hB := hN
    refine lv_iload hx hb dX13_forgetText_185 (lv_at hl 1 rfl) ?_
    refine lv_aload_n hx hb dX13_forgetText_187 rfl (lv_at hl 0 rfl) ?_
    refine gfX13_symbols hx hb hts hK hP hown (hts _ tw_2013) (x := τ.1 3) rfl dX13_forgetText_188 ?_
    refine bi_icmp_ge (tgt := 294) hx hb r_u7 (hB.1 3) dX13_forgetText_191 (by decide) (fun c24 => ?_) (fun c24 => ?_)
    ·
      replace hw := hw.1 c24
      refine lv_aload_n hx hb dX13_forgetText_294 rfl (lv_at hl 0 rfl) ?_
      refine lv_aload_n hx hb dX13_forgetText_295 rfl (lv_at hl 0 rfl) ?_
      refine gfX13_wff hx hb hts hK hP hown (hts _ tw_2047) (x := τ.1 10) rfl dX13_forgetText_296 ?_
      refine lv_aload_n hx hb dX13_forgetText_299 rfl (lv_at hl 0 rfl) ?_
      refine gfX13_symbols hx hb hts hK hP hown (hts _ tw_2013) (x := τ.1 3) rfl dX13_forgetText_300 ?_
      refine bi_icmp_lt (tgt := 310) hx hb (hB.1 10) (hB.1 3) dX13_forgetText_303 (by decide) (fun c25 => ?_) (fun c25 => ?_)
      ·
        replace hw := hw.1 c25
        refine lv_aload_n hx hb dX13_forgetText_310 rfl (lv_at hl 0 rfl) ?_
        refine gfX13_wff hx hb hts hK hP hown (hts _ tw_2047) (x := τ.1 10) rfl dX13_forgetText_311 ?_
        exact (hP314 _ _).mp hw (hB.1 10) hN hF H locs ls hP hD hS (lv_sub hl [0] rfl)
      ·
        replace hw := hw.2 c25
        refine lv_iconst (v := I (-1)) hx hb dX13_forgetText_306 rfl ?_
        refine lv_goto (tgt := 314) hx hb dX13_forgetText_307 (by decide) ?_
        exact (hP314 _ _).mp hw (by decide) hN hF H locs ls hP hD hS (lv_sub hl [0] rfl)
    ·
      replace hw := hw.2 c24
      refine lv_aload_n hx hb dX13_forgetText_194 rfl (lv_at hl 0 rfl) ?_
      refine gfX13_isVariable hx hb hts hK hP hown (hts _ tw_2018) dX13_forgetText_195 ?_
      refine lv_iload hx hb dX13_forgetText_198 (lv_at hl 1 rfl) ?_
      refine lv_aload_n hx hb dX13_forgetText_200 rfl (lv_at hl 0 rfl) ?_
      refine gfX13_wasVariable hx hb hts hK hP hown (hts _ tw_2095) dX13_forgetText_201 ?_
      refine lv_iload hx hb dX13_forgetText_204 (lv_at hl 1 rfl) ?_
      obtain ⟨c26, hw⟩ := hw
      refine ldMX13_wasVariable hx hb hK hP hN c26 dX13_forgetText_206 (fun x27 r_x27 e_x27 => ?_)
      replace hw := hw x27 r_x27 e_x27
      obtain ⟨c28, hw⟩ := hw
      refine sdMX13_isVariable hx hb hK hP hD hS c26 c28 dX13_forgetText_207 (fun H locs hP hD hS => ?_)
      have hN : n_m (s_a τ 8 u7 x27) := n_a (k := 8) (j := u7) hN (r_x27 : rg x27)
      have hF : f_r [2, 3, 4, 5, 6, 7, 8, 9, 10, 11, 12, 13, 14] [6, 7, 8, 9, 10, 11, 12] [1] σ (s_a τ 8 u7 x27) := f_a hF (by decide)
      refine lv_aload_n hx hb dX13_forgetText_208 rfl (lv_at hl 0 rfl) ?_
      refine gfX13_isActive hx hb hts hK hP hown (hts _ tw_2019) dX13_forgetText_209 ?_
      refine lv_iload hx hb dX13_forgetText_212 (lv_at hl 1 rfl) ?_
      refine lv_aload_n hx hb dX13_forgetText_214 rfl (lv_at hl 0 rfl) ?_
      refine gfX13_wasActive hx hb hts hK hP hown (hts _ tw_2096) dX13_forgetText_215 ?_
      refine lv_iload hx hb dX13_forgetText_218 (lv_at hl 1 rfl) ?_
      refine ldMX13_wasActive hx hb hK hP hN c26 dX13_forgetText_220 (fun x29 r_x29 e_x29 => ?_)
      replace hw := hw x29 r_x29 e_x29
      obtain ⟨c30, hw⟩ := hw
      refine sdMX13_isActive hx hb hK hP hD hS c26 c30 dX13_forgetText_221 (fun H locs hP hD hS => ?_)
      have hN : n_m (s_a (s_a τ 8 u7 x27) 9 u7 x29) := n_a (k := 9) (j := u7) hN (r_x29 : rg x29)
      have hF : f_r [2, 3, 4, 5, 6, 7, 8, 9, 10, 11, 12, 13, 14] [6, 7, 8, 9, 10, 11, 12] [1] σ (s_a (s_a τ 8 u7 x27) 9 u7 x29) := f_a hF (by decide)
      refine lv_aload_n hx hb dX13_forgetText_222 rfl (lv_at hl 0 rfl) ?_
      refine gfX13_begins hx hb hts hK hP hown (hts _ tw_2022) dX13_forgetText_223 ?_
      refine lv_iload hx hb dX13_forgetText_226 (lv_at hl 1 rfl) ?_
      refine lv_aload_n hx hb dX13_forgetText_228 rfl (lv_at hl 0 rfl) ?_
      refine gfX13_wasBegin hx hb hts hK hP hown (hts _ tw_2097) dX13_forgetText_229 ?_
      refine lv_iload hx hb dX13_forgetText_232 (lv_at hl 1 rfl) ?_
      refine ldMX13_wasBegin hx hb hK hP hN c26 dX13_forgetText_234 (fun x31 r_x31 e_x31 => ?_)
      replace hw := hw x31 r_x31 e_x31
      obtain ⟨c32, hw⟩ := hw
      refine sdMX13_begins hx hb hK hP hD hS c26 c32 dX13_forgetText_235 (fun H locs hP hD hS => ?_)
      have hN : n_m (s_a (s_a (s_a τ 8 u7 x27) 9 u7 x29) 12 u7 x31) := n_a (k := 12) (j := u7) hN (r_x31 : rg x31)
      have hF : f_r [2, 3, 4, 5, 6, 7, 8, 9, 10, 11, 12, 13, 14] [6, 7, 8, 9, 10, 11, 12] [1] σ (s_a (s_a (s_a τ 8 u7 x27) 9 u7 x29) 12 u7 x31) := f_a hF (by decide)
      refine lv_aload_n hx hb dX13_forgetText_236 rfl (lv_at hl 0 rfl) ?_
      refine gfX13_typeOf hx hb hts hK hP hown (hts _ tw_2020) dX13_forgetText_237 ?_
      refine lv_iload hx hb dX13_forgetText_240 (lv_at hl 1 rfl) ?_
      refine lv_aload_n hx hb dX13_forgetText_242 rfl (lv_at hl 0 rfl) ?_
      refine gfX13_wasType hx hb hts hK hP hown (hts _ tw_2098) dX13_forgetText_243 ?_
      refine lv_iload hx hb dX13_forgetText_246 (lv_at hl 1 rfl) ?_
      refine ldMX13_wasType hx hb hK hP hN c26 dX13_forgetText_248 (fun x33 r_x33 e_x33 => ?_)
      replace hw := hw x33 r_x33 e_x33
      refine sdMX13_typeOf hx hb hK hP hD hS c26 dX13_forgetText_249 (fun H locs hP hD hS => ?_)
      have hN : n_m (s_a (s_a (s_a (s_a τ 8 u7 x27) 9 u7 x29) 12 u7 x31) 10 u7 x33) := n_a (k := 10) (j := u7) hN (r_x33 : rg x33)
      have hF : f_r [2, 3, 4, 5, 6, 7, 8, 9, 10, 11, 12, 13, 14] [6, 7, 8, 9, 10, 11, 12] [1] σ (s_a (s_a (s_a (s_a τ 8 u7 x27) 9 u7 x29) 12 u7 x31) 10 u7 x33) := f_a hF (by decide)
      refine lv_aload_n hx hb dX13_forgetText_250 rfl (lv_at hl 0 rfl) ?_
      refine gfX13_floatOf hx hb hts hK hP hown (hts _ tw_2021) dX13_forgetText_251 ?_
      refine lv_iload hx hb dX13_forgetText_254 (lv_at hl 1 rfl) ?_
      refine lv_aload_n hx hb dX13_forgetText_256 rfl (lv_at hl 0 rfl) ?_
      refine gfX13_wasFloat hx hb hts hK hP hown (hts _ tw_2099) dX13_forgetText_257 ?_
      refine lv_iload hx hb dX13_forgetText_260 (lv_at hl 1 rfl) ?_
      refine ldMX13_wasFloat hx hb hK hP hN c26 dX13_forgetText_262 (fun x34 r_x34 e_x34 => ?_)
      replace hw := hw x34 r_x34 e_x34
      refine sdMX13_floatOf hx hb hK hP hD hS c26 dX13_forgetText_263 (fun H locs hP hD hS => ?_)
      have hN : n_m (s_a (s_a (s_a (s_a (s_a τ 8 u7 x27) 9 u7 x29) 12 u7 x31) 10 u7 x33) 11 u7 x34) := n_a (k := 11) (j := u7) hN (r_x34 : rg x34)
      have hF : f_r [2, 3, 4, 5, 6, 7, 8, 9, 10, 11, 12, 13, 14] [6, 7, 8, 9, 10, 11, 12] [1] σ (s_a (s_a (s_a (s_a (s_a τ 8 u7 x27) 9 u7 x29) 12 u7 x31) 10 u7 x33) 11 u7 x34) := f_a hF (by decide)
      refine lv_aload_n hx hb dX13_forgetText_264 rfl (lv_at hl 0 rfl) ?_
      refine lv_dup hx hb dX13_forgetText_265 rfl ?_
      refine gfX13_beginnings hx hb hts hK hP hown (hts _ tw_2023) (x := τ.1 4) rfl dX13_forgetText_266 ?_
      refine lv_aload_n hx hb dX13_forgetText_269 rfl (lv_at hl 0 rfl) ?_
      refine gfX13_begins hx hb hts hK hP hown (hts _ tw_2022) dX13_forgetText_270 ?_
      refine lv_iload hx hb dX13_forgetText_273 (lv_at hl 1 rfl) ?_
      refine ldMX13_begins hx hb hK hP hN c26 dX13_forgetText_275 (fun x35 r_x35 e_x35 => ?_)
      replace hw := hw x35 r_x35 e_x35
      refine bi_if_eq (tgt := 283) hx hb r_x35 dX13_forgetText_276 (by decide) (fun c36 => ?_) (fun c36 => ?_)
      ·
        replace hw := hw.1 c36
        refine lv_iconst (v := I 0) hx hb dX13_forgetText_283 rfl ?_
        exact (hP284 _ _ _ _).mp hw r_u7 (hB.1 4) (by decide) hN hF H locs ls hP hD hS (lv_sub hl [0, 1] rfl)
      ·
        replace hw := hw.2 c36
        refine lv_iconst (v := I 1) hx hb dX13_forgetText_279 rfl ?_
        refine lv_goto (tgt := 284) hx hb dX13_forgetText_280 (by decide) ?_
        exact (hP284 _ _ _ _).mp hw r_u7 (hB.1 4) (by decide) hN hF H locs ls hP hD hS (lv_sub hl [0, 1] rfl)
  ·
    intro u7 k1 k2 τ hw
    refine (hP284 _ _ _ _).mpr ?_
    intro r_u7 r_k1 r_k2 hN hF H locs ls hP hD hS hl
    have hB := hN
    refine bi_iadd hx hb dX13_forgetText_284 ?_
    obtain ⟨c38, hw⟩ := hw
    refine pfX13_beginnings hx hb hts hK hP hD hS hown (hts _ tw_2023) dX13_forgetText_285 (fun H locs hP hD hS => ?_)
    have hN : n_m (s_v τ 4 (k1 + k2)) := n_v (i := 4) hN (c38 : rg (k1 + k2))
    have hF : f_r [2, 3, 4, 5, 6, 7, 8, 9, 10, 11, 12, 13, 14] [6, 7, 8, 9, 10, 11, 12] [1] σ (s_v τ 4 (k1 + k2)) := f_v hF (by decide)
    refine lv_iinc (v := I (u7 + 1)) (lv' := [(7, .int (I (u7 + 1))), (0, .ref (q 0))]) hx hb dX13_forgetText_288 hl (k := 1) rfl (I_add _ _) (by decide) rfl (fun ls hl => ?_)
    refine lv_goto (tgt := 185) hx hb dX13_forgetText_291 (by decide) ?_
    obtain ⟨c39, hw⟩ := hw
    exact (hP185 _ _).mp hw c39 hN hF H locs ls hP hD hS (lv_sub hl [1, 0] rfl)
  ·
    intro k1 τ hw
    refine (hP314 _ _).mpr ?_
    intro r_k1 hN hF H locs ls hP hD hS hl
    have hB := hN
    refine pfX13_wff hx hb hts hK hP hD hS hown (hts _ tw_2047) dX13_forgetText_314 (fun H locs hP hD hS => ?_)
    have hN : n_m (s_v τ 10 k1) := n_v (i := 10) hN (r_k1 : rg k1)
    have hF : f_r [2, 3, 4, 5, 6, 7, 8, 9, 10, 11, 12, 13, 14] [6, 7, 8, 9, 10, 11, 12] [1] σ (s_v τ 10 k1) := f_v hF (by decide)
    refine lv_aload_n hx hb dX13_forgetText_317 rfl (lv_at hl 0 rfl) ?_
    refine lv_aload_n hx hb dX13_forgetText_318 rfl (lv_at hl 0 rfl) ?_
    refine gfX13_turnstile hx hb hts hK hP hown (hts _ tw_2048) (x := τ.1 11) rfl dX13_forgetText_319 ?_
    refine lv_aload_n hx hb dX13_forgetText_322 rfl (lv_at hl 0 rfl) ?_
    refine gfX13_symbols hx hb hts hK hP hown (hts _ tw_2013) (x := τ.1 3) rfl dX13_forgetText_323 ?_
    refine bi_icmp_lt (tgt := 333) hx hb (hB.1 11) (hB.1 3) dX13_forgetText_326 (by decide) (fun c37 => ?_) (fun c37 => ?_)
    ·
      replace hw := hw.1 c37
      refine lv_aload_n hx hb dX13_forgetText_333 rfl (lv_at hl 0 rfl) ?_
      refine gfX13_turnstile hx hb hts hK hP hown (hts _ tw_2048) (x := τ.1 11) rfl dX13_forgetText_334 ?_
      exact (hP337 _ _).mp hw (hB.1 11) hN hF H locs ls hP hD hS (lv_sub hl [0] rfl)
    ·
      replace hw := hw.2 c37
      refine lv_iconst (v := I (-1)) hx hb dX13_forgetText_329 rfl ?_
      refine lv_goto (tgt := 337) hx hb dX13_forgetText_330 (by decide) ?_
      exact (hP337 _ _).mp hw (by decide) hN hF H locs ls hP hD hS (lv_sub hl [0] rfl)
  ·
    intro k1 τ hw
    refine (hP337 _ _).mpr ?_
    intro r_k1 hN hF H locs ls hP hD hS hl
    have hB := hN
    refine pfX13_turnstile hx hb hts hK hP hD hS hown (hts _ tw_2048) dX13_forgetText_337 (fun H locs hP hD hS => ?_)
    have hN : n_m (s_v τ 11 k1) := n_v (i := 11) hN (r_k1 : rg k1)
    have hF : f_r [2, 3, 4, 5, 6, 7, 8, 9, 10, 11, 12, 13, 14] [6, 7, 8, 9, 10, 11, 12] [1] σ (s_v τ 11 k1) := f_v hF (by decide)
    refine lv_aload_n hx hb dX13_forgetText_340 rfl (lv_at hl 0 rfl) ?_
    obtain ⟨Q40, hc, hw⟩ := hw
    refine wc_V (X := MX g q lb) (va_runV (As := []) (rest := []) ⟨hx, hb, hml, hown, hts⟩ (L_X13_clearTables l g q lb hlb  hN hc H.size) (cwV 0 hts (TB_V tw_2002 tw_2004 ts_102 tw_15 co_X13_clearTables) rfl rfl rfl (by decide +kernel) ⟨Nat.le_of_ble_eq_true rfl, Nat.le_of_ble_eq_true rfl⟩) (preV (q0 := 0) (ci := 13) rfl xT_bl hP hK hNb hD rfl rfl xT_at) rfl rfl hl.1 rfl (lv_room (Nat.le_of_ble_eq_true rfl)) dX13_forgetText_341 ⟨Nat.le_of_ble_eq_true rfl, Nat.le_of_ble_eq_true rfl⟩) hP hD hS hA (fun τ42 H locs hN hf hq hP hD hS => ?_)
    replace hw := hw τ42 hN hf hq
    have hF : f_r [2, 3, 4, 5, 6, 7, 8, 9, 10, 11, 12, 13, 14] [6, 7, 8, 9, 10, 11, 12] [1] σ τ42 := f_t hF hf (by decide) (by decide) (by decide)
    have hB := hN
    refine lv_iconst (v := I 0) hx hb dX13_forgetText_344 rfl ?_
    refine lv_istore (lv' := [(7, .int (I 0)), (0, .ref (q 0))]) hx hb dX13_forgetText_345 hl (by decide) rfl (fun ls hl => ?_)
    exact (hP347 _ _).mp hw (by decide) hN hF H locs ls hP hD hS (lv_sub hl [1, 0] rfl)
  ·
    intro u7 τ hw
    refine (hP347 _ _).mpr ?_
    intro r_u7 hN hF H locs ls hP hD hS hl
    have hB := hN
    refine lv_iload hx hb dX13_forgetText_347 (lv_at hl 1 rfl) ?_
    refine lv_aload_n hx hb dX13_forgetText_349 rfl (lv_at hl 0 rfl) ?_
    refine gfX13_symbols hx hb hts hK hP hown (hts _ tw_2013) (x := τ.1 3) rfl dX13_forgetText_350 ?_
    refine bi_icmp_ge (tgt := 368) hx hb r_u7 (hB.1 3) dX13_forgetText_353 (by decide) (fun c43 => ?_) (fun c43 => ?_)
    ·
      replace hw := hw.1 c43
      refine lv_iconst (v := I 0) hx hb dX13_forgetText_368 rfl ?_
      refine lv_istore (lv' := [(7, .int (I 0)), (0, .ref (q 0))]) hx hb dX13_forgetText_369 hl (by decide) rfl (fun ls hl => ?_)
      exact (hP371 _ _).mp hw (by decide) hN hF H locs ls hP hD hS (lv_sub hl [1, 0] rfl)
    ·
      replace hw := hw.2 c43
      refine lv_aload_n hx hb dX13_forgetText_356 rfl (lv_at hl 0 rfl) ?_
      refine lv_iload hx hb dX13_forgetText_357 (lv_at hl 1 rfl) ?_
      obtain ⟨Q44, hc, hw⟩ := hw
      refine wc_V (X := MX g q lb) (va_runV (As := [.int (I u7)]) (rest := []) ⟨hx, hb, hml, hown, hts⟩ (L_X13_keepSymbol l g q lb hlb r_u7 hN hc H.size) (cwV 1 hts (TB_V tw_2758 tw_2760 ts_153 tw_15 co_X13_keepSymbol) rfl rfl rfl (by decide +kernel) ⟨Nat.le_of_ble_eq_true rfl, Nat.le_of_ble_eq_true rfl⟩) (preV (q0 := 0) (ci := 13) rfl xT_bl hP hK hNb hD rfl rfl xT_at) rfl rfl hl.1 rfl (lv_room (Nat.le_of_ble_eq_true rfl)) dX13_forgetText_359 ⟨Nat.le_of_ble_eq_true rfl, Nat.le_of_ble_eq_true rfl⟩) hP hD hS hA (fun τ46 H locs hN hf hq hP hD hS => ?_)
      replace hw := hw τ46 hN hf hq
      have hF : f_r [2, 3, 4, 5, 6, 7, 8, 9, 10, 11, 12, 13, 14] [6, 7, 8, 9, 10, 11, 12] [1] σ τ46 := f_t hF hf (by decide) (by decide) (by decide)
      have hB := hN
      refine lv_iinc (v := I (u7 + 1)) (lv' := [(7, .int (I (u7 + 1))), (0, .ref (q 0))]) hx hb dX13_forgetText_362 hl (k := 1) rfl (I_add _ _) (by decide) rfl (fun ls hl => ?_)
      refine lv_goto (tgt := 347) hx hb dX13_forgetText_365 (by decide) ?_
      obtain ⟨c47, hw⟩ := hw
      exact (hP347 _ _).mp hw c47 hN hF H locs ls hP hD hS (lv_sub hl [1, 0] rfl)
  ·
    intro u7 τ hw
    refine (hP371 _ _).mpr ?_
    intro r_u7 hN hF H locs ls hP hD hS hl
    have hB := hN
    refine lv_iload hx hb dX13_forgetText_371 (lv_at hl 1 rfl) ?_
    refine lv_aload_n hx hb dX13_forgetText_373 rfl (lv_at hl 0 rfl) ?_
    refine gfX13_statements hx hb hts hK hP hown (hts _ tw_2024) (x := τ.1 5) rfl dX13_forgetText_374 ?_
    refine bi_icmp_ge (tgt := 392) hx hb r_u7 (hB.1 5) dX13_forgetText_377 (by decide) (fun c48 => ?_) (fun c48 => ?_)
    ·
      replace hw := hw.1 c48
      exact xrv hx hb hr hlk hP hK hD hS ⟨_, hN, hF, rfl, hw⟩ (Nat.le_of_ble_eq_true rfl) (Nat.le_of_ble_eq_true rfl) dX13_forgetText_392
    ·
      replace hw := hw.2 c48
      refine lv_aload_n hx hb dX13_forgetText_380 rfl (lv_at hl 0 rfl) ?_
      refine lv_iload hx hb dX13_forgetText_381 (lv_at hl 1 rfl) ?_
      obtain ⟨Q49, hc, hw⟩ := hw
      refine wc_V (X := MX g q lb) (va_runV (As := [.int (I u7)]) (rest := []) ⟨hx, hb, hml, hown, hts⟩ (L_X13_keepLabel l g q lb hlb r_u7 hN hc H.size) (cwV 1 hts (TB_V tw_2621 tw_2623 ts_120 tw_15 co_X13_keepLabel) rfl rfl rfl (by decide +kernel) ⟨Nat.le_of_ble_eq_true rfl, Nat.le_of_ble_eq_true rfl⟩) (preV (q0 := 0) (ci := 13) rfl xT_bl hP hK hNb hD rfl rfl xT_at) rfl rfl hl.1 rfl (lv_room (Nat.le_of_ble_eq_true rfl)) dX13_forgetText_383 ⟨Nat.le_of_ble_eq_true rfl, Nat.le_of_ble_eq_true rfl⟩) hP hD hS hA (fun τ51 H locs hN hf hq hP hD hS => ?_)
      replace hw := hw τ51 hN hf hq
      have hF : f_r [2, 3, 4, 5, 6, 7, 8, 9, 10, 11, 12, 13, 14] [6, 7, 8, 9, 10, 11, 12] [1] σ τ51 := f_t hF hf (by decide) (by decide) (by decide)
      have hB := hN
      refine lv_iinc (v := I (u7 + 1)) (lv' := [(7, .int (I (u7 + 1))), (0, .ref (q 0))]) hx hb dX13_forgetText_386 hl (k := 1) rfl (I_add _ _) (by decide) rfl (fun ls hl => ?_)
      refine lv_goto (tgt := 371) hx hb dX13_forgetText_389 (by decide) ?_
      obtain ⟨c52, hw⟩ := hw
      exact (hP371 _ _).mp hw c52 hN hF H locs ls hP hD hS (lv_sub hl [1, 0] rfl)
def W_X13_forgetTrees (n1 : Int) (σ : S0) (Q : S0 → Prop) : Prop :=
  ∀ (P7 : Int → S0 → Prop) (P36 : Int → S0 → Prop),
  (∀ (u2 : Int) (τ : S0), ((1500 ≤ u2 → P36 0 τ) ∧ (u2 < 1500 → (0 ≤ u2 ∧ u2 < 1501) ∧ (rg (u2 + 1) ∧ P7 (u2 + 1) (s_a (s_a τ 94 u2 (-1)) 96 u2 0)))) → P7 u2 τ) →
  (∀ (u2 : Int) (τ : S0), ((1500 ≤ u2 → Q (s_v τ 38 0)) ∧ (u2 < 1500 → (0 ≤ u2 ∧ u2 < 1501) ∧ (rg (u2 + 1) ∧ P36 (u2 + 1) (s_a τ 95 u2 (-9))))) → P36 u2 τ) →
  P7 n1 (s_v σ 49 0)
set_option maxRecDepth 100000 in
set_option maxHeartbeats 4000000 in
theorem L_X13_forgetTrees (l : Launch) (g : gG) (q : Nat → Nat) (lb : Nat) (hlb : lb < 2 ^ 31) {n1 : Int} {σ : S0} {Q : S0 → Prop} (r_n1 : rg n1) (hN : n_m σ) (hw : W_X13_forgetTrees n1 σ Q) (sz : Nat) : MetV l yX13_forgetTrees cX13_forgetTrees 3 { frames := 0, cells := 0, slots := 0, locals := 0 } g [.ref (q 0), .int (I n1)] (MX g q lb σ) sz xT (p_V (MX g q lb) [38, 49] [94, 95, 96] [] σ Q) 0 0 := by
  refine mkMet (Qc := fun A => QV g A (p_V (MX g q lb) [38, 49] [94, 95, 96] [] σ Q)) (by decide) (Nat.le_of_ble_eq_true rfl) ?_
  intro p e s m below meth c A H ls hx hb hr hml hown hts hlk hnm hsz hP hK hNb hD hA hAe hS hX hl
  have hl : lv_has ls 3 [(0, .ref (q 0)), (1, .int (I n1))] := hl
  have hB := hN
  have hF : f_r [38, 49] [94, 95, 96] [] σ σ := f_0
  obtain ⟨locs, hlocs⟩ : ∃ z : List Loc, z = [] := ⟨_, rfl⟩
  rw [← hlocs] at hS ⊢
  obtain ⟨P7, hP7⟩ : ∃ P : Int → S0 → Prop, ∀ (u2 : Int) (τ : S0), (P u2 τ ↔ (rg u2 → n_m τ → f_r [38, 49] [94, 95, 96] [] σ τ → ∀ (H : Heap) (locs : List Loc) (ls : Array Slot), KP g (MX g q lb τ) H → va_D A (MX g q lb τ) → va_S A s.heap H locs → lv_has ls 3 [(0, .ref (q 0)), (2, .int (I u2))] → W p l e ({ frames := 0, cells := 0, slots := 0, locals := 0 }) s m [.ref (q 0), .int (I n1)].toArray below meth c H locs 0 0 (MQ below (QV g A (p_V (MX g q lb) [38, 49] [94, 95, 96] [] σ Q)) [.ref (q 0), .int (I n1)].toArray s 0 0 A) (F0 m 7 ls []))) := ⟨_, fun _ _ => Iff.rfl⟩
  obtain ⟨P36, hP36⟩ : ∃ P : Int → S0 → Prop, ∀ (u2 : Int) (τ : S0), (P u2 τ ↔ (rg u2 → n_m τ → f_r [38, 49] [94, 95, 96] [] σ τ → ∀ (H : Heap) (locs : List Loc) (ls : Array Slot), KP g (MX g q lb τ) H → va_D A (MX g q lb τ) → va_S A s.heap H locs → lv_has ls 3 [(0, .ref (q 0)), (2, .int (I u2))] → W p l e ({ frames := 0, cells := 0, slots := 0, locals := 0 }) s m [.ref (q 0), .int (I n1)].toArray below meth c H locs 0 0 (MQ below (QV g A (p_V (MX g q lb) [38, 49] [94, 95, 96] [] σ Q)) [.ref (q 0), .int (I n1)].toArray s 0 0 A) (F0 m 36 ls []))) := ⟨_, fun _ _ => Iff.rfl⟩
  refine (fun hw => ?_) (hw P7 P36 ?_ ?_)
  ·
    refine lv_aload_n hx hb dX13_forgetTrees_0 rfl (lv_at hl 0 rfl) ?_
    refine lv_iconst (v := I 0) hx hb dX13_forgetTrees_1 rfl ?_
    refine pfX13_isTreed hx hb hts hK hP hD hS hown (hts _ tw_2146) (by decide)  dX13_forgetTrees_2 (fun H locs hP hD hS => ?_)
    have hN : n_m (s_v σ 49 0) := n_v (i := 49) hN ((by decide) : rg 0)
    have hF : f_r [38, 49] [94, 95, 96] [] σ (s_v σ 49 0) := f_v hF (by decide)
    refine lv_iload_n hx hb dX13_forgetTrees_5 rfl (lv_at hl 1 rfl) ?_
    refine lv_istore_n (lv' := [(2, .int (I n1)), (0, .ref (q 0)), (1, .int (I n1))]) hx hb dX13_forgetTrees_6 rfl hl (by decide) rfl (fun ls hl => ?_)
    exact (hP7 _ _).mp hw r_n1 hN hF H locs ls hP hD hS (lv_sub hl [1, 0] rfl)
  ·
    intro u2 τ hw
    refine (hP7 _ _).mpr ?_
    intro r_u2 hN hF H locs ls hP hD hS hl
    have hB := hN
    refine lv_iload_n hx hb dX13_forgetTrees_7 rfl (lv_at hl 1 rfl) ?_
    refine lv_sipush (v := I 1500) hx hb dX13_forgetTrees_8 (by decide) ?_
    refine bi_icmp_ge (tgt := 34) hx hb r_u2 (by decide) dX13_forgetTrees_11 (by decide) (fun c1 => ?_) (fun c1 => ?_)
    ·
      replace hw := hw.1 c1
      refine lv_iconst (v := I 0) hx hb dX13_forgetTrees_34 rfl ?_
      refine lv_istore_n (lv' := [(2, .int (I 0)), (0, .ref (q 0))]) hx hb dX13_forgetTrees_35 rfl hl (by decide) rfl (fun ls hl => ?_)
      exact (hP36 _ _).mp hw (by decide) hN hF H locs ls hP hD hS (lv_sub hl [1, 0] rfl)
    ·
      replace hw := hw.2 c1
      refine lv_aload_n hx hb dX13_forgetTrees_14 rfl (lv_at hl 0 rfl) ?_
      refine gfX13_treeCount hx hb hts hK hP hown (hts _ tw_2159) dX13_forgetTrees_15 ?_
      refine lv_iload_n hx hb dX13_forgetTrees_18 rfl (lv_at hl 1 rfl) ?_
      refine lv_iconst (v := I (-1)) hx hb dX13_forgetTrees_19 rfl ?_
      obtain ⟨c2, hw⟩ := hw
      refine sdMX13_treeCount hx hb hK hP hD hS c2 dX13_forgetTrees_20 (fun H locs hP hD hS => ?_)
      have hN : n_m (s_a τ 94 u2 (-1)) := n_a (k := 94) (j := u2) hN ((by decide) : rg (-1))
      have hF : f_r [38, 49] [94, 95, 96] [] σ (s_a τ 94 u2 (-1)) := f_a hF (by decide)
      refine lv_aload_n hx hb dX13_forgetTrees_21 rfl (lv_at hl 0 rfl) ?_
      refine gfX13_isEquality hx hb hts hK hP hown (hts _ tw_2162) dX13_forgetTrees_22 ?_
      refine lv_iload_n hx hb dX13_forgetTrees_25 rfl (lv_at hl 1 rfl) ?_
      refine lv_iconst (v := I 0) hx hb dX13_forgetTrees_26 rfl ?_
      refine sdMX13_isEquality hx hb hK hP hD hS c2 (by decide) dX13_forgetTrees_27 (fun H locs hP hD hS => ?_)
      have hN : n_m (s_a (s_a τ 94 u2 (-1)) 96 u2 0) := n_a (k := 96) (j := u2) hN ((by decide) : rg 0)
      have hF : f_r [38, 49] [94, 95, 96] [] σ (s_a (s_a τ 94 u2 (-1)) 96 u2 0) := f_a hF (by decide)
      refine lv_iinc (v := I (u2 + 1)) (lv' := [(2, .int (I (u2 + 1))), (0, .ref (q 0))]) hx hb dX13_forgetTrees_28 hl (k := 1) rfl (I_add _ _) (by decide) rfl (fun ls hl => ?_)
      refine lv_goto (tgt := 7) hx hb dX13_forgetTrees_31 (by decide) ?_
      obtain ⟨c3, hw⟩ := hw
      exact (hP7 _ _).mp hw c3 hN hF H locs ls hP hD hS (lv_sub hl [1, 0] rfl)
  ·
    intro u2 τ hw
    refine (hP36 _ _).mpr ?_
    intro r_u2 hN hF H locs ls hP hD hS hl
    have hB := hN
    refine lv_iload_n hx hb dX13_forgetTrees_36 rfl (lv_at hl 1 rfl) ?_
    refine lv_sipush (v := I 1500) hx hb dX13_forgetTrees_37 (by decide) ?_
    refine bi_icmp_ge (tgt := 57) hx hb r_u2 (by decide) dX13_forgetTrees_40 (by decide) (fun c4 => ?_) (fun c4 => ?_)
    ·
      replace hw := hw.1 c4
      refine lv_aload_n hx hb dX13_forgetTrees_57 rfl (lv_at hl 0 rfl) ?_
      refine lv_iconst (v := I 0) hx hb dX13_forgetTrees_58 rfl ?_
      refine pfX13_rowsOf hx hb hts hK hP hD hS hown (hts _ tw_2105) dX13_forgetTrees_59 (fun H locs hP hD hS => ?_)
      have hN : n_m (s_v τ 38 0) := n_v (i := 38) hN ((by decide) : rg 0)
      have hF : f_r [38, 49] [94, 95, 96] [] σ (s_v τ 38 0) := f_v hF (by decide)
      exact xrv hx hb hr hlk hP hK hD hS ⟨_, hN, hF, rfl, hw⟩ (Nat.le_of_ble_eq_true rfl) (Nat.le_of_ble_eq_true rfl) dX13_forgetTrees_62
    ·
      replace hw := hw.2 c4
      refine lv_aload_n hx hb dX13_forgetTrees_43 rfl (lv_at hl 0 rfl) ?_
      refine gfX13_definitions hx hb hts hK hP hown (hts _ tw_2161) dX13_forgetTrees_44 ?_
      refine lv_iload_n hx hb dX13_forgetTrees_47 rfl (lv_at hl 1 rfl) ?_
      refine lv_bipush (v := I (-9)) hx hb dX13_forgetTrees_48 (by decide) ?_
      obtain ⟨c5, hw⟩ := hw
      refine sdMX13_definitions hx hb hK hP hD hS c5 dX13_forgetTrees_50 (fun H locs hP hD hS => ?_)
      have hN : n_m (s_a τ 95 u2 (-9)) := n_a (k := 95) (j := u2) hN ((by decide) : rg (-9))
      have hF : f_r [38, 49] [94, 95, 96] [] σ (s_a τ 95 u2 (-9)) := f_a hF (by decide)
      refine lv_iinc (v := I (u2 + 1)) (lv' := [(2, .int (I (u2 + 1))), (0, .ref (q 0))]) hx hb dX13_forgetTrees_51 hl (k := 1) rfl (I_add _ _) (by decide) rfl (fun ls hl => ?_)
      refine lv_goto (tgt := 36) hx hb dX13_forgetTrees_54 (by decide) ?_
      obtain ⟨c6, hw⟩ := hw
      exact (hP36 _ _).mp hw c6 hN hF H locs ls hP hD hS (lv_sub hl [1, 0] rfl)
def W_X13_read (σ : S0) (Q : Int → S0 → Prop) : Prop :=
  ∀ (P61 : Int → Int → Int → Int → Int → Int → S0 → Prop) (P93 : Int → Int → Int → Int → Int → Int → S0 → Prop) (P116 : Int → Int → Int → Int → Int → Int → S0 → Prop) (P136 : Int → S0 → Prop),
  (∀ (u1 : Int) (u2 : Int) (u3 : Int) (u4 : Int) (u5 : Int) (u6 : Int) (τ : S0), ((¬ τ.1 20 = 0 → P93 u1 u2 u3 u4 u5 u6 τ) ∧ (τ.1 20 = 0 → (τ.1 19 = 0 → P93 u1 u2 u3 u4 u5 u6 τ) ∧ (¬ τ.1 19 = 0 → ∃ (Q15 : S0 → Prop), W_X13_readStatement τ Q15 ∧ ∀ (τ17 : S0), n_m τ17 → f_r [2, 3, 4, 5, 6, 7, 8, 9, 10, 11, 12, 13, 14, 15, 16, 17, 18, 19, 20, 21, 22, 23, 24, 25, 26, 27, 28, 29, 30, 31, 32, 33, 34, 35] [1, 2, 3, 4, 5, 6, 7, 8, 9, 10, 11, 12, 13, 14, 15, 16, 17, 18, 19, 20, 21, 22, 23, 24, 25, 26, 27, 28, 29, 30, 31, 32, 33, 34, 35, 36, 37, 38, 39, 40, 41, 42, 43, 44, 45, 46, 47, 48, 49, 50] [0, 1] τ τ17 → Q15 τ17 → ((¬ τ17.1 20 = 0 → P61 u1 u2 u3 u4 u5 u6 τ17) ∧ (τ17.1 20 = 0 → ∃ (Q19 : S0 → Prop), W_X13_next τ17 Q19 ∧ ∀ (τ21 : S0), n_m τ21 → f_r [16, 17, 18, 19, 20, 21] [] [] τ17 τ21 → Q19 τ21 → (P61 u1 u2 u3 u4 u5 u6 τ21)))))) → P61 u1 u2 u3 u4 u5 u6 τ) →
  (∀ (u1 : Int) (u2 : Int) (u3 : Int) (u4 : Int) (u5 : Int) (u6 : Int) (τ : S0), ((¬ τ.1 20 = 0 → P116 u1 u2 u3 u4 u5 u6 τ) ∧ (τ.1 20 = 0 → (τ.1 15 ≤ 0 → P116 u1 u2 u3 u4 u5 u6 τ) ∧ (0 < τ.1 15 → ∃ (Q24 : S0 → Prop), W_X13_fail 4 (τ.1 0) τ Q24 ∧ ∀ (τ26 : S0), n_m τ26 → f_r [20, 21] [] [] τ τ26 → Q24 τ26 → (P116 u1 u2 u3 u4 u5 u6 τ26)))) → P93 u1 u2 u3 u4 u5 u6 τ) →
  (∀ (u1 : Int) (u2 : Int) (u3 : Int) (u4 : Int) (u5 : Int) (u6 : Int) (τ : S0), ((τ.1 20 ≤ 0 → P136 u2 τ) ∧ (0 < τ.1 20 → ∃ (Q28 : S0 → Prop), W_X13_forgetText u1 u2 u3 u4 u5 u6 τ Q28 ∧ ∀ (τ30 : S0), n_m τ30 → f_r [2, 3, 4, 5, 6, 7, 8, 9, 10, 11, 12, 13, 14] [6, 7, 8, 9, 10, 11, 12] [1] τ τ30 → Q28 τ30 → (P136 u2 τ30))) → P116 u1 u2 u3 u4 u5 u6 τ) →
  (∀ (u2 : Int) (τ : S0), (∃ (Q31 : S0 → Prop), W_X13_forgetTrees u2 (s_v (s_v τ 0 0) 1 0) Q31 ∧ ∀ (τ33 : S0), n_m τ33 → f_r [38, 49] [94, 95, 96] [] (s_v (s_v τ 0 0) 1 0) τ33 → Q31 τ33 → (Q (τ33.1 20) τ33)) → P136 u2 τ) →
  ∃ (Q1 : S0 → Prop), W_X13_noteAll σ Q1 ∧ ∀ (τ3 : S0), n_m τ3 → f_r [] [51, 52, 53, 54, 55] [] σ τ3 → Q1 τ3 → (∃ (Q4 : S0 → Prop), W_X13_next (s_v (s_v (s_v (s_v τ3 16 0) 20 0) 21 (-1)) 15 0) Q4 ∧ ∀ (τ6 : S0), n_m τ6 → f_r [16, 17, 18, 19, 20, 21] [] [] (s_v (s_v (s_v (s_v τ3 16 0) 20 0) 21 (-1)) 15 0) τ6 → Q4 τ6 → (rg (σ.1 3) ∧ rg (σ.1 5) ∧ rg (σ.1 2) ∧ rg (σ.1 12) ∧ rg (σ.1 13) ∧ rg (σ.1 14) ∧ P61 (σ.1 3) (σ.1 5) (σ.1 2) (σ.1 12) (σ.1 13) (σ.1 14) τ6))
set_option maxRecDepth 100000 in
set_option maxHeartbeats 4000000 in
theorem L_X13_read (l : Launch) (g : gG) (q : Nat → Nat) (lb : Nat) (hlb : lb < 2 ^ 31) {σ : S0} {Q : Int → S0 → Prop} (hN : n_m σ) (hw : W_X13_read σ Q) (sz : Nat) : MetI l yX13_read cX13_read 7 (some .int) { frames := 10, cells := 0, slots := 0, locals := 209 } g [.ref (q 0)] (MX g q lb σ) sz xT (p_I (MX g q lb) [0, 1, 2, 3, 4, 5, 6, 7, 8, 9, 10, 11, 12, 13, 14, 15, 16, 17, 18, 19, 20, 21, 22, 23, 24, 25, 26, 27, 28, 29, 30, 31, 32, 33, 34, 35, 38, 49] [1, 2, 3, 4, 5, 6, 7, 8, 9, 10, 11, 12, 13, 14, 15, 16, 17, 18, 19, 20, 21, 22, 23, 24, 25, 26, 27, 28, 29, 30, 31, 32, 33, 34, 35, 36, 37, 38, 39, 40, 41, 42, 43, 44, 45, 46, 47, 48, 49, 50, 51, 52, 53, 54, 55, 94, 95, 96] [0, 1] σ Q) 0 0 := by
  refine mkMet (Qc := fun A => QI g A (p_I (MX g q lb) [0, 1, 2, 3, 4, 5, 6, 7, 8, 9, 10, 11, 12, 13, 14, 15, 16, 17, 18, 19, 20, 21, 22, 23, 24, 25, 26, 27, 28, 29, 30, 31, 32, 33, 34, 35, 38, 49] [1, 2, 3, 4, 5, 6, 7, 8, 9, 10, 11, 12, 13, 14, 15, 16, 17, 18, 19, 20, 21, 22, 23, 24, 25, 26, 27, 28, 29, 30, 31, 32, 33, 34, 35, 36, 37, 38, 39, 40, 41, 42, 43, 44, 45, 46, 47, 48, 49, 50, 51, 52, 53, 54, 55, 94, 95, 96] [0, 1] σ Q)) (by decide) (Nat.le_of_ble_eq_true rfl) ?_
  intro p e s m below meth c A H ls hx hb hr hml hown hts hlk hnm hsz hP hK hNb hD hA hAe hS hX hl
  have hl : lv_has ls 7 [(0, .ref (q 0))] := hl
  have hB := hN
  have hF : f_r [0, 1, 2, 3, 4, 5, 6, 7, 8, 9, 10, 11, 12, 13, 14, 15, 16, 17, 18, 19, 20, 21, 22, 23, 24, 25, 26, 27, 28, 29, 30, 31, 32, 33, 34, 35, 38, 49] [1, 2, 3, 4, 5, 6, 7, 8, 9, 10, 11, 12, 13, 14, 15, 16, 17, 18, 19, 20, 21, 22, 23, 24, 25, 26, 27, 28, 29, 30, 31, 32, 33, 34, 35, 36, 37, 38, 39, 40, 41, 42, 43, 44, 45, 46, 47, 48, 49, 50, 51, 52, 53, 54, 55, 94, 95, 96] [0, 1] σ σ := f_0
  obtain ⟨locs, hlocs⟩ : ∃ z : List Loc, z = [] := ⟨_, rfl⟩
  rw [← hlocs] at hS ⊢
  obtain ⟨P61, hP61⟩ : ∃ P : Int → Int → Int → Int → Int → Int → S0 → Prop, ∀ (u1 : Int) (u2 : Int) (u3 : Int) (u4 : Int) (u5 : Int) (u6 : Int) (τ : S0), (P u1 u2 u3 u4 u5 u6 τ ↔ (rg u1 → rg u2 → rg u3 → rg u4 → rg u5 → rg u6 → n_m τ → f_r [0, 1, 2, 3, 4, 5, 6, 7, 8, 9, 10, 11, 12, 13, 14, 15, 16, 17, 18, 19, 20, 21, 22, 23, 24, 25, 26, 27, 28, 29, 30, 31, 32, 33, 34, 35, 38, 49] [1, 2, 3, 4, 5, 6, 7, 8, 9, 10, 11, 12, 13, 14, 15, 16, 17, 18, 19, 20, 21, 22, 23, 24, 25, 26, 27, 28, 29, 30, 31, 32, 33, 34, 35, 36, 37, 38, 39, 40, 41, 42, 43, 44, 45, 46, 47, 48, 49, 50, 51, 52, 53, 54, 55, 94, 95, 96] [0, 1] σ τ → ∀ (H : Heap) (locs : List Loc) (ls : Array Slot), KP g (MX g q lb τ) H → va_D A (MX g q lb τ) → va_S A s.heap H locs → lv_has ls 7 [(0, .ref (q 0)), (1, .int (I u1)), (2, .int (I u2)), (3, .int (I u3)), (4, .int (I u4)), (5, .int (I u5)), (6, .int (I u6))] → W p l e ({ frames := 10, cells := 0, slots := 0, locals := 209 }) s m [.ref (q 0)].toArray below meth c H locs 0 0 (MQ below (QI g A (p_I (MX g q lb) [0, 1, 2, 3, 4, 5, 6, 7, 8, 9, 10, 11, 12, 13, 14, 15, 16, 17, 18, 19, 20, 21, 22, 23, 24, 25, 26, 27, 28, 29, 30, 31, 32, 33, 34, 35, 38, 49] [1, 2, 3, 4, 5, 6, 7, 8, 9, 10, 11, 12, 13, 14, 15, 16, 17, 18, 19, 20, 21, 22, 23, 24, 25, 26, 27, 28, 29, 30, 31, 32, 33, 34, 35, 36, 37, 38, 39, 40, 41, 42, 43, 44, 45, 46, 47, 48, 49, 50, 51, 52, 53, 54, 55, 94, 95, 96] [0, 1] σ Q)) [.ref (q 0)].toArray s 0 0 A) (F0 m 61 ls []))) := ⟨_, fun _ _ _ _ _ _ _ => Iff.rfl⟩
  obtain ⟨P93, hP93⟩ : ∃ P : Int → Int → Int → Int → Int → Int → S0 → Prop, ∀ (u1 : Int) (u2 : Int) (u3 : Int) (u4 : Int) (u5 : Int) (u6 : Int) (τ : S0), (P u1 u2 u3 u4 u5 u6 τ ↔ (rg u1 → rg u2 → rg u3 → rg u4 → rg u5 → rg u6 → n_m τ → f_r [0, 1, 2, 3, 4, 5, 6, 7, 8, 9, 10, 11, 12, 13, 14, 15, 16, 17, 18, 19, 20, 21, 22, 23, 24, 25, 26, 27, 28, 29, 30, 31, 32, 33, 34, 35, 38, 49] [1, 2, 3, 4, 5, 6, 7, 8, 9, 10, 11, 12, 13, 14, 15, 16, 17, 18, 19, 20, 21, 22, 23, 24, 25, 26, 27, 28, 29, 30, 31, 32, 33, 34, 35, 36, 37, 38, 39, 40, 41, 42, 43, 44, 45, 46, 47, 48, 49, 50, 51, 52, 53, 54, 55, 94, 95, 96] [0, 1] σ τ → ∀ (H : Heap) (locs : List Loc) (ls : Array Slot), KP g (MX g q lb τ) H → va_D A (MX g q lb τ) → va_S A s.heap H locs → lv_has ls 7 [(0, .ref (q 0)), (1, .int (I u1)), (2, .int (I u2)), (3, .int (I u3)), (4, .int (I u4)), (5, .int (I u5)), (6, .int (I u6))] → W p l e ({ frames := 10, cells := 0, slots := 0, locals := 209 }) s m [.ref (q 0)].toArray below meth c H locs 0 0 (MQ below (QI g A (p_I (MX g q lb) [0, 1, 2, 3, 4, 5, 6, 7, 8, 9, 10, 11, 12, 13, 14, 15, 16, 17, 18, 19, 20, 21, 22, 23, 24, 25, 26, 27, 28, 29, 30, 31, 32, 33, 34, 35, 38, 49] [1, 2, 3, 4, 5, 6, 7, 8, 9, 10, 11, 12, 13, 14, 15, 16, 17, 18, 19, 20, 21, 22, 23, 24, 25, 26, 27, 28, 29, 30, 31, 32, 33, 34, 35, 36, 37, 38, 39, 40, 41, 42, 43, 44, 45, 46, 47, 48, 49, 50, 51, 52, 53, 54, 55, 94, 95, 96] [0, 1] σ Q)) [.ref (q 0)].toArray s 0 0 A) (F0 m 93 ls []))) := ⟨_, fun _ _ _ _ _ _ _ => Iff.rfl⟩
  obtain ⟨P116, hP116⟩ : ∃ P : Int → Int → Int → Int → Int → Int → S0 → Prop, ∀ (u1 : Int) (u2 : Int) (u3 : Int) (u4 : Int) (u5 : Int) (u6 : Int) (τ : S0), (P u1 u2 u3 u4 u5 u6 τ ↔ (rg u1 → rg u2 → rg u3 → rg u4 → rg u5 → rg u6 → n_m τ → f_r [0, 1, 2, 3, 4, 5, 6, 7, 8, 9, 10, 11, 12, 13, 14, 15, 16, 17, 18, 19, 20, 21, 22, 23, 24, 25, 26, 27, 28, 29, 30, 31, 32, 33, 34, 35, 38, 49] [1, 2, 3, 4, 5, 6, 7, 8, 9, 10, 11, 12, 13, 14, 15, 16, 17, 18, 19, 20, 21, 22, 23, 24, 25, 26, 27, 28, 29, 30, 31, 32, 33, 34, 35, 36, 37, 38, 39, 40, 41, 42, 43, 44, 45, 46, 47, 48, 49, 50, 51, 52, 53, 54, 55, 94, 95, 96] [0, 1] σ τ → ∀ (H : Heap) (locs : List Loc) (ls : Array Slot), KP g (MX g q lb τ) H → va_D A (MX g q lb τ) → va_S A s.heap H locs → lv_has ls 7 [(0, .ref (q 0)), (1, .int (I u1)), (2, .int (I u2)), (3, .int (I u3)), (4, .int (I u4)), (5, .int (I u5)), (6, .int (I u6))] → W p l e ({ frames := 10, cells := 0, slots := 0, locals := 209 }) s m [.ref (q 0)].toArray below meth c H locs 0 0 (MQ below (QI g A (p_I (MX g q lb) [0, 1, 2, 3, 4, 5, 6, 7, 8, 9, 10, 11, 12, 13, 14, 15, 16, 17, 18, 19, 20, 21, 22, 23, 24, 25, 26, 27, 28, 29, 30, 31, 32, 33, 34, 35, 38, 49] [1, 2, 3, 4, 5, 6, 7, 8, 9, 10, 11, 12, 13, 14, 15, 16, 17, 18, 19, 20, 21, 22, 23, 24, 25, 26, 27, 28, 29, 30, 31, 32, 33, 34, 35, 36, 37, 38, 39, 40, 41, 42, 43, 44, 45, 46, 47, 48, 49, 50, 51, 52, 53, 54, 55, 94, 95, 96] [0, 1] σ Q)) [.ref (q 0)].toArray s 0 0 A) (F0 m 116 ls []))) := ⟨_, fun _ _ _ _ _ _ _ => Iff.rfl⟩
  obtain ⟨P136, hP136⟩ : ∃ P : Int → S0 → Prop, ∀ (u2 : Int) (τ : S0), (P u2 τ ↔ (rg u2 → n_m τ → f_r [0, 1, 2, 3, 4, 5, 6, 7, 8, 9, 10, 11, 12, 13, 14, 15, 16, 17, 18, 19, 20, 21, 22, 23, 24, 25, 26, 27, 28, 29, 30, 31, 32, 33, 34, 35, 38, 49] [1, 2, 3, 4, 5, 6, 7, 8, 9, 10, 11, 12, 13, 14, 15, 16, 17, 18, 19, 20, 21, 22, 23, 24, 25, 26, 27, 28, 29, 30, 31, 32, 33, 34, 35, 36, 37, 38, 39, 40, 41, 42, 43, 44, 45, 46, 47, 48, 49, 50, 51, 52, 53, 54, 55, 94, 95, 96] [0, 1] σ τ → ∀ (H : Heap) (locs : List Loc) (ls : Array Slot), KP g (MX g q lb τ) H → va_D A (MX g q lb τ) → va_S A s.heap H locs → lv_has ls 7 [(0, .ref (q 0)), (2, .int (I u2))] → W p l e ({ frames := 10, cells := 0, slots := 0, locals := 209 }) s m [.ref (q 0)].toArray below meth c H locs 0 0 (MQ below (QI g A (p_I (MX g q lb) [0, 1, 2, 3, 4, 5, 6, 7, 8, 9, 10, 11, 12, 13, 14, 15, 16, 17, 18, 19, 20, 21, 22, 23, 24, 25, 26, 27, 28, 29, 30, 31, 32, 33, 34, 35, 38, 49] [1, 2, 3, 4, 5, 6, 7, 8, 9, 10, 11, 12, 13, 14, 15, 16, 17, 18, 19, 20, 21, 22, 23, 24, 25, 26, 27, 28, 29, 30, 31, 32, 33, 34, 35, 36, 37, 38, 39, 40, 41, 42, 43, 44, 45, 46, 47, 48, 49, 50, 51, 52, 53, 54, 55, 94, 95, 96] [0, 1] σ Q)) [.ref (q 0)].toArray s 0 0 A) (F0 m 136 ls []))) := ⟨_, fun _ _ => Iff.rfl⟩
  refine (fun hw => ?_) (hw P61 P93 P116 P136 ?_ ?_ ?_ ?_)
  ·
    refine lv_aload_n hx hb dX13_read_0 rfl (lv_at hl 0 rfl) ?_
    refine gfX13_symbols hx hb hts hK hP hown (hts _ tw_2013) (x := σ.1 3) rfl dX13_read_1 ?_
    refine lv_istore_n (lv' := [(1, .int (I (σ.1 3))), (0, .ref (q 0))]) hx hb dX13_read_4 rfl hl (by decide) rfl (fun ls hl => ?_)
    refine lv_aload_n hx hb dX13_read_5 rfl (lv_at hl 1 rfl) ?_
    refine gfX13_statements hx hb hts hK hP hown (hts _ tw_2024) (x := σ.1 5) rfl dX13_read_6 ?_
    refine lv_istore_n (lv' := [(2, .int (I (σ.1 5))), (1, .int (I (σ.1 3))), (0, .ref (q 0))]) hx hb dX13_read_9 rfl hl (by decide) rfl (fun ls hl => ?_)
    refine lv_aload_n hx hb dX13_read_10 rfl (lv_at hl 2 rfl) ?_
    refine gfX13_charCount hx hb hts hK hP hown (hts _ tw_2010) (x := σ.1 2) rfl dX13_read_11 ?_
    refine lv_istore_n (lv' := [(3, .int (I (σ.1 2))), (2, .int (I (σ.1 5))), (1, .int (I (σ.1 3))), (0, .ref (q 0))]) hx hb dX13_read_14 rfl hl (by decide) rfl (fun ls hl => ?_)
    refine lv_aload_n hx hb dX13_read_15 rfl (lv_at hl 3 rfl) ?_
    refine gfX13_activeVariableCount hx hb hts hK hP hown (hts _ tw_2050) (x := σ.1 12) rfl dX13_read_16 ?_
    refine lv_istore (lv' := [(4, .int (I (σ.1 12))), (3, .int (I (σ.1 2))), (2, .int (I (σ.1 5))), (1, .int (I (σ.1 3))), (0, .ref (q 0))]) hx hb dX13_read_19 hl (by decide) rfl (fun ls hl => ?_)
    refine lv_aload_n hx hb dX13_read_21 rfl (lv_at hl 4 rfl) ?_
    refine gfX13_activeHypCount hx hb hts hK hP hown (hts _ tw_2052) (x := σ.1 13) rfl dX13_read_22 ?_
    refine lv_istore (lv' := [(5, .int (I (σ.1 13))), (4, .int (I (σ.1 12))), (3, .int (I (σ.1 2))), (2, .int (I (σ.1 5))), (1, .int (I (σ.1 3))), (0, .ref (q 0))]) hx hb dX13_read_25 hl (by decide) rfl (fun ls hl => ?_)
    refine lv_aload_n hx hb dX13_read_27 rfl (lv_at hl 5 rfl) ?_
    refine gfX13_apartCount hx hb hts hK hP hown (hts _ tw_2055) (x := σ.1 14) rfl dX13_read_28 ?_
    refine lv_istore (lv' := [(6, .int (I (σ.1 14))), (5, .int (I (σ.1 13))), (4, .int (I (σ.1 12))), (3, .int (I (σ.1 2))), (2, .int (I (σ.1 5))), (1, .int (I (σ.1 3))), (0, .ref (q 0))]) hx hb dX13_read_31 hl (by decide) rfl (fun ls hl => ?_)
    refine lv_aload_n hx hb dX13_read_33 rfl (lv_at hl 6 rfl) ?_
    obtain ⟨Q1, hc, hw⟩ := hw
    refine wc_V (X := MX g q lb) (va_runV (As := []) (rest := []) ⟨hx, hb, hml, hown, hts⟩ (L_X13_noteAll l g q lb hlb  hN hc H.size) (cwV 0 hts (TB_V tw_2532 tw_2534 ts_103 tw_15 co_X13_noteAll) rfl rfl rfl (by decide +kernel) ⟨Nat.le_of_ble_eq_true rfl, Nat.le_of_ble_eq_true rfl⟩) (preV (q0 := 0) (ci := 13) rfl xT_bl hP hK hNb hD rfl rfl xT_at) rfl rfl hl.1 rfl (lv_room (Nat.le_of_ble_eq_true rfl)) dX13_read_34 ⟨Nat.le_of_ble_eq_true rfl, Nat.le_of_ble_eq_true rfl⟩) hP hD hS hA (fun τ3 H locs hN hf hq hP hD hS => ?_)
    replace hw := hw τ3 hN hf hq
    have hF : f_r [0, 1, 2, 3, 4, 5, 6, 7, 8, 9, 10, 11, 12, 13, 14, 15, 16, 17, 18, 19, 20, 21, 22, 23, 24, 25, 26, 27, 28, 29, 30, 31, 32, 33, 34, 35, 38, 49] [1, 2, 3, 4, 5, 6, 7, 8, 9, 10, 11, 12, 13, 14, 15, 16, 17, 18, 19, 20, 21, 22, 23, 24, 25, 26, 27, 28, 29, 30, 31, 32, 33, 34, 35, 36, 37, 38, 39, 40, 41, 42, 43, 44, 45, 46, 47, 48, 49, 50, 51, 52, 53, 54, 55, 94, 95, 96] [0, 1] σ τ3 := f_t hF hf (by decide) (by decide) (by decide)
    have hB := hN
    refine lv_aload_n hx hb dX13_read_37 rfl (lv_at hl 6 rfl) ?_
    refine lv_iconst (v := I 0) hx hb dX13_read_38 rfl ?_
    refine pfX13_at hx hb hts hK hP hD hS hown (hts _ tw_2061) dX13_read_39 (fun H locs hP hD hS => ?_)
    have hN : n_m (s_v τ3 16 0) := n_v (i := 16) hN ((by decide) : rg 0)
    have hF : f_r [0, 1, 2, 3, 4, 5, 6, 7, 8, 9, 10, 11, 12, 13, 14, 15, 16, 17, 18, 19, 20, 21, 22, 23, 24, 25, 26, 27, 28, 29, 30, 31, 32, 33, 34, 35, 38, 49] [1, 2, 3, 4, 5, 6, 7, 8, 9, 10, 11, 12, 13, 14, 15, 16, 17, 18, 19, 20, 21, 22, 23, 24, 25, 26, 27, 28, 29, 30, 31, 32, 33, 34, 35, 36, 37, 38, 39, 40, 41, 42, 43, 44, 45, 46, 47, 48, 49, 50, 51, 52, 53, 54, 55, 94, 95, 96] [0, 1] σ (s_v τ3 16 0) := f_v hF (by decide)
    refine lv_aload_n hx hb dX13_read_42 rfl (lv_at hl 6 rfl) ?_
    refine lv_iconst (v := I 0) hx hb dX13_read_43 rfl ?_
    refine pfX13_fault hx hb hts hK hP hD hS hown (hts _ tw_2065) dX13_read_44 (fun H locs hP hD hS => ?_)
    have hN : n_m (s_v (s_v τ3 16 0) 20 0) := n_v (i := 20) hN ((by decide) : rg 0)
    have hF : f_r [0, 1, 2, 3, 4, 5, 6, 7, 8, 9, 10, 11, 12, 13, 14, 15, 16, 17, 18, 19, 20, 21, 22, 23, 24, 25, 26, 27, 28, 29, 30, 31, 32, 33, 34, 35, 38, 49] [1, 2, 3, 4, 5, 6, 7, 8, 9, 10, 11, 12, 13, 14, 15, 16, 17, 18, 19, 20, 21, 22, 23, 24, 25, 26, 27, 28, 29, 30, 31, 32, 33, 34, 35, 36, 37, 38, 39, 40, 41, 42, 43, 44, 45, 46, 47, 48, 49, 50, 51, 52, 53, 54, 55, 94, 95, 96] [0, 1] σ (s_v (s_v τ3 16 0) 20 0) := f_v hF (by decide)
    refine lv_aload_n hx hb dX13_read_47 rfl (lv_at hl 6 rfl) ?_
    refine lv_iconst (v := I (-1)) hx hb dX13_read_48 rfl ?_
    refine pfX13_placeIs hx hb hts hK hP hD hS hown (hts _ tw_2066) dX13_read_49 (fun H locs hP hD hS => ?_)
    have hN : n_m (s_v (s_v (s_v τ3 16 0) 20 0) 21 (-1)) := n_v (i := 21) hN ((by decide) : rg (-1))
    have hF : f_r [0, 1, 2, 3, 4, 5, 6, 7, 8, 9, 10, 11, 12, 13, 14, 15, 16, 17, 18, 19, 20, 21, 22, 23, 24, 25, 26, 27, 28, 29, 30, 31, 32, 33, 34, 35, 38, 49] [1, 2, 3, 4, 5, 6, 7, 8, 9, 10, 11, 12, 13, 14, 15, 16, 17, 18, 19, 20, 21, 22, 23, 24, 25, 26, 27, 28, 29, 30, 31, 32, 33, 34, 35, 36, 37, 38, 39, 40, 41, 42, 43, 44, 45, 46, 47, 48, 49, 50, 51, 52, 53, 54, 55, 94, 95, 96] [0, 1] σ (s_v (s_v (s_v τ3 16 0) 20 0) 21 (-1)) := f_v hF (by decide)
    refine lv_aload_n hx hb dX13_read_52 rfl (lv_at hl 6 rfl) ?_
    refine lv_iconst (v := I 0) hx hb dX13_read_53 rfl ?_
    refine pfX13_scopes hx hb hts hK hP hD hS hown (hts _ tw_2057) dX13_read_54 (fun H locs hP hD hS => ?_)
    have hN : n_m (s_v (s_v (s_v (s_v τ3 16 0) 20 0) 21 (-1)) 15 0) := n_v (i := 15) hN ((by decide) : rg 0)
    have hF : f_r [0, 1, 2, 3, 4, 5, 6, 7, 8, 9, 10, 11, 12, 13, 14, 15, 16, 17, 18, 19, 20, 21, 22, 23, 24, 25, 26, 27, 28, 29, 30, 31, 32, 33, 34, 35, 38, 49] [1, 2, 3, 4, 5, 6, 7, 8, 9, 10, 11, 12, 13, 14, 15, 16, 17, 18, 19, 20, 21, 22, 23, 24, 25, 26, 27, 28, 29, 30, 31, 32, 33, 34, 35, 36, 37, 38, 39, 40, 41, 42, 43, 44, 45, 46, 47, 48, 49, 50, 51, 52, 53, 54, 55, 94, 95, 96] [0, 1] σ (s_v (s_v (s_v (s_v τ3 16 0) 20 0) 21 (-1)) 15 0) := f_v hF (by decide)
    refine lv_aload_n hx hb dX13_read_57 rfl (lv_at hl 6 rfl) ?_
    obtain ⟨Q4, hc, hw⟩ := hw
    refine wc_V (X := MX g q lb) (va_runV (As := []) (rest := []) ⟨hx, hb, hml, hown, hts⟩ (L_X13_next l g q lb hlb  hN hc H.size) (cwV 0 hts (TB_V tw_2536 tw_2538 ts_104 tw_15 co_X13_next) rfl rfl rfl (by decide +kernel) ⟨Nat.le_of_ble_eq_true rfl, Nat.le_of_ble_eq_true rfl⟩) (preV (q0 := 0) (ci := 13) rfl xT_bl hP hK hNb hD rfl rfl xT_at) rfl rfl hl.1 rfl (lv_room (Nat.le_of_ble_eq_true rfl)) dX13_read_58 ⟨Nat.le_of_ble_eq_true rfl, Nat.le_of_ble_eq_true rfl⟩) hP hD hS hA (fun τ6 H locs hN hf hq hP hD hS => ?_)
    replace hw := hw τ6 hN hf hq
    have hF : f_r [0, 1, 2, 3, 4, 5, 6, 7, 8, 9, 10, 11, 12, 13, 14, 15, 16, 17, 18, 19, 20, 21, 22, 23, 24, 25, 26, 27, 28, 29, 30, 31, 32, 33, 34, 35, 38, 49] [1, 2, 3, 4, 5, 6, 7, 8, 9, 10, 11, 12, 13, 14, 15, 16, 17, 18, 19, 20, 21, 22, 23, 24, 25, 26, 27, 28, 29, 30, 31, 32, 33, 34, 35, 36, 37, 38, 39, 40, 41, 42, 43, 44, 45, 46, 47, 48, 49, 50, 51, 52, 53, 54, 55, 94, 95, 96] [0, 1] σ τ6 := f_t hF hf (by decide) (by decide) (by decide)
    have hB := hN
    obtain ⟨c7, hw⟩ := hw
    obtain ⟨c8, hw⟩ := hw
    obtain ⟨c9, hw⟩ := hw
    obtain ⟨c10, hw⟩ := hw
    obtain ⟨c11, hw⟩ := hw
    obtain ⟨c12, hw⟩ := hw
    exact (hP61 _ _ _ _ _ _ _).mp hw c7 c8 c9 c10 c11 c12 hN hF H locs ls hP hD hS (lv_sub hl [6, 5, 4, 3, 2, 1, 0] rfl)
  ·
    intro u1 u2 u3 u4 u5 u6 τ hw
    refine (hP61 _ _ _ _ _ _ _).mpr ?_
    intro r_u1 r_u2 r_u3 r_u4 r_u5 r_u6 hN hF H locs ls hP hD hS hl
    have hB := hN
    refine lv_aload_n hx hb dX13_read_61 rfl (lv_at hl 0 rfl) ?_
    refine gfX13_fault hx hb hts hK hP hown (hts _ tw_2065) (x := τ.1 20) rfl dX13_read_62 ?_
    refine bi_if_ne (tgt := 93) hx hb (hB.1 20) dX13_read_65 (by decide) (fun c13 => ?_) (fun c13 => ?_)
    ·
      replace hw := hw.1 c13
      exact (hP93 _ _ _ _ _ _ _).mp hw r_u1 r_u2 r_u3 r_u4 r_u5 r_u6 hN hF H locs ls hP hD hS (lv_sub hl [0, 1, 2, 3, 4, 5, 6] rfl)
    ·
      replace hw := hw.2 c13
      refine lv_aload_n hx hb dX13_read_68 rfl (lv_at hl 0 rfl) ?_
      refine gfX13_token hx hb hts hK hP hown (hts _ tw_2064) (x := τ.1 19) rfl dX13_read_69 ?_
      refine bi_if_eq (tgt := 93) hx hb (hB.1 19) dX13_read_72 (by decide) (fun c14 => ?_) (fun c14 => ?_)
      ·
        replace hw := hw.1 c14
        exact (hP93 _ _ _ _ _ _ _).mp hw r_u1 r_u2 r_u3 r_u4 r_u5 r_u6 hN hF H locs ls hP hD hS (lv_sub hl [0, 1, 2, 3, 4, 5, 6] rfl)
      ·
        replace hw := hw.2 c14
        refine lv_aload_n hx hb dX13_read_75 rfl (lv_at hl 0 rfl) ?_
        obtain ⟨Q15, hc, hw⟩ := hw
        refine wc_V (X := MX g q lb) (va_runV (As := []) (rest := []) ⟨hx, hb, hml, hown, hts⟩ (L_X13_readStatement l g q lb hlb  hN hc H.size) (cwV 0 hts (TB_V tw_2573 tw_2575 ts_111 tw_15 co_X13_readStatement) rfl rfl rfl (by decide +kernel) ⟨Nat.le_of_ble_eq_true rfl, Nat.le_of_ble_eq_true rfl⟩) (preV (q0 := 0) (ci := 13) rfl xT_bl hP hK hNb hD rfl rfl xT_at) rfl rfl hl.1 rfl (lv_room (Nat.le_of_ble_eq_true rfl)) dX13_read_76 ⟨Nat.le_of_ble_eq_true rfl, Nat.le_of_ble_eq_true rfl⟩) hP hD hS hA (fun τ17 H locs hN hf hq hP hD hS => ?_)
        replace hw := hw τ17 hN hf hq
        have hF : f_r [0, 1, 2, 3, 4, 5, 6, 7, 8, 9, 10, 11, 12, 13, 14, 15, 16, 17, 18, 19, 20, 21, 22, 23, 24, 25, 26, 27, 28, 29, 30, 31, 32, 33, 34, 35, 38, 49] [1, 2, 3, 4, 5, 6, 7, 8, 9, 10, 11, 12, 13, 14, 15, 16, 17, 18, 19, 20, 21, 22, 23, 24, 25, 26, 27, 28, 29, 30, 31, 32, 33, 34, 35, 36, 37, 38, 39, 40, 41, 42, 43, 44, 45, 46, 47, 48, 49, 50, 51, 52, 53, 54, 55, 94, 95, 96] [0, 1] σ τ17 := f_t hF hf (by decide) (by decide) (by decide)
        have hB := hN
        refine lv_aload_n hx hb dX13_read_79 rfl (lv_at hl 0 rfl) ?_
        refine gfX13_fault hx hb hts hK hP hown (hts _ tw_2065) (x := τ17.1 20) rfl dX13_read_80 ?_
        refine bi_if_ne (tgt := 61) hx hb (hB.1 20) dX13_read_83 (by decide) (fun c18 => ?_) (fun c18 => ?_)
        ·
          replace hw := hw.1 c18
          exact (hP61 _ _ _ _ _ _ _).mp hw r_u1 r_u2 r_u3 r_u4 r_u5 r_u6 hN hF H locs ls hP hD hS (lv_sub hl [0, 1, 2, 3, 4, 5, 6] rfl)
        ·
          replace hw := hw.2 c18
          refine lv_aload_n hx hb dX13_read_86 rfl (lv_at hl 0 rfl) ?_
          obtain ⟨Q19, hc, hw⟩ := hw
          refine wc_V (X := MX g q lb) (va_runV (As := []) (rest := []) ⟨hx, hb, hml, hown, hts⟩ (L_X13_next l g q lb hlb  hN hc H.size) (cwV 0 hts (TB_V tw_2536 tw_2538 ts_104 tw_15 co_X13_next) rfl rfl rfl (by decide +kernel) ⟨Nat.le_of_ble_eq_true rfl, Nat.le_of_ble_eq_true rfl⟩) (preV (q0 := 0) (ci := 13) rfl xT_bl hP hK hNb hD rfl rfl xT_at) rfl rfl hl.1 rfl (lv_room (Nat.le_of_ble_eq_true rfl)) dX13_read_87 ⟨Nat.le_of_ble_eq_true rfl, Nat.le_of_ble_eq_true rfl⟩) hP hD hS hA (fun τ21 H locs hN hf hq hP hD hS => ?_)
          replace hw := hw τ21 hN hf hq
          have hF : f_r [0, 1, 2, 3, 4, 5, 6, 7, 8, 9, 10, 11, 12, 13, 14, 15, 16, 17, 18, 19, 20, 21, 22, 23, 24, 25, 26, 27, 28, 29, 30, 31, 32, 33, 34, 35, 38, 49] [1, 2, 3, 4, 5, 6, 7, 8, 9, 10, 11, 12, 13, 14, 15, 16, 17, 18, 19, 20, 21, 22, 23, 24, 25, 26, 27, 28, 29, 30, 31, 32, 33, 34, 35, 36, 37, 38, 39, 40, 41, 42, 43, 44, 45, 46, 47, 48, 49, 50, 51, 52, 53, 54, 55, 94, 95, 96] [0, 1] σ τ21 := f_t hF hf (by decide) (by decide) (by decide)
          have hB := hN
          refine lv_goto (tgt := 61) hx hb dX13_read_90 (by decide) ?_
          exact (hP61 _ _ _ _ _ _ _).mp hw r_u1 r_u2 r_u3 r_u4 r_u5 r_u6 hN hF H locs ls hP hD hS (lv_sub hl [0, 1, 2, 3, 4, 5, 6] rfl)
  ·
    intro u1 u2 u3 u4 u5 u6 τ hw
    refine (hP93 _ _ _ _ _ _ _).mpr ?_
    intro r_u1 r_u2 r_u3 r_u4 r_u5 r_u6 hN hF H locs ls hP hD hS hl
    have hB := hN
    refine lv_aload_n hx hb dX13_read_93 rfl (lv_at hl 0 rfl) ?_
    refine gfX13_fault hx hb hts hK hP hown (hts _ tw_2065) (x := τ.1 20) rfl dX13_read_94 ?_
    refine bi_if_ne (tgt := 116) hx hb (hB.1 20) dX13_read_97 (by decide) (fun c22 => ?_) (fun c22 => ?_)
    ·
      replace hw := hw.1 c22
      exact (hP116 _ _ _ _ _ _ _).mp hw r_u1 r_u2 r_u3 r_u4 r_u5 r_u6 hN hF H locs ls hP hD hS (lv_sub hl [0, 1, 2, 3, 4, 5, 6] rfl)
    ·
      replace hw := hw.2 c22
      refine lv_aload_n hx hb dX13_read_100 rfl (lv_at hl 0 rfl) ?_
      refine gfX13_scopes hx hb hts hK hP hown (hts _ tw_2057) (x := τ.1 15) rfl dX13_read_101 ?_
      refine bi_if_le (tgt := 116) hx hb (hB.1 15) dX13_read_104 (by decide) (fun c23 => ?_) (fun c23 => ?_)
      ·
        replace hw := hw.1 c23
        exact (hP116 _ _ _ _ _ _ _).mp hw r_u1 r_u2 r_u3 r_u4 r_u5 r_u6 hN hF H locs ls hP hD hS (lv_sub hl [0, 1, 2, 3, 4, 5, 6] rfl)
      ·
        replace hw := hw.2 c23
        refine lv_aload_n hx hb dX13_read_107 rfl (lv_at hl 0 rfl) ?_
        refine lv_iconst (v := I 4) hx hb dX13_read_108 rfl ?_
        refine lv_aload_n hx hb dX13_read_109 rfl (lv_at hl 0 rfl) ?_
        refine gfX13_tapeSize hx hb hts hK hP hown (hts _ tw_2007) (x := τ.1 0) rfl dX13_read_110 ?_
        obtain ⟨Q24, hc, hw⟩ := hw
        refine wc_V (X := MX g q lb) (va_runV (As := [.int (I 4), .int (I (τ.1 0))]) (rest := []) ⟨hx, hb, hml, hown, hts⟩ (L_X13_fail l g q lb hlb (by decide) (hB.1 0) hN hc H.size) (cwV 2 hts (TB_V tw_2550 tw_2552 ts_106 tw_15 co_X13_fail) rfl rfl rfl (by decide +kernel) ⟨Nat.le_of_ble_eq_true rfl, Nat.le_of_ble_eq_true rfl⟩) (preV (q0 := 0) (ci := 13) rfl xT_bl hP hK hNb hD rfl rfl xT_at) rfl rfl hl.1 rfl (lv_room (Nat.le_of_ble_eq_true rfl)) dX13_read_113 ⟨Nat.le_of_ble_eq_true rfl, Nat.le_of_ble_eq_true rfl⟩) hP hD hS hA (fun τ26 H locs hN hf hq hP hD hS => ?_)
        replace hw := hw τ26 hN hf hq
        have hF : f_r [0, 1, 2, 3, 4, 5, 6, 7, 8, 9, 10, 11, 12, 13, 14, 15, 16, 17, 18, 19, 20, 21, 22, 23, 24, 25, 26, 27, 28, 29, 30, 31, 32, 33, 34, 35, 38, 49] [1, 2, 3, 4, 5, 6, 7, 8, 9, 10, 11, 12, 13, 14, 15, 16, 17, 18, 19, 20, 21, 22, 23, 24, 25, 26, 27, 28, 29, 30, 31, 32, 33, 34, 35, 36, 37, 38, 39, 40, 41, 42, 43, 44, 45, 46, 47, 48, 49, 50, 51, 52, 53, 54, 55, 94, 95, 96] [0, 1] σ τ26 := f_t hF hf (by decide) (by decide) (by decide)
        have hB := hN
        exact (hP116 _ _ _ _ _ _ _).mp hw r_u1 r_u2 r_u3 r_u4 r_u5 r_u6 hN hF H locs ls hP hD hS (lv_sub hl [0, 1, 2, 3, 4, 5, 6] rfl)
  ·
    intro u1 u2 u3 u4 u5 u6 τ hw
    refine (hP116 _ _ _ _ _ _ _).mpr ?_
    intro r_u1 r_u2 r_u3 r_u4 r_u5 r_u6 hN hF H locs ls hP hD hS hl
    have hB := hN
    refine lv_aload_n hx hb dX13_read_116 rfl (lv_at hl 0 rfl) ?_
    refine gfX13_fault hx hb hts hK hP hown (hts _ tw_2065) (x := τ.1 20) rfl dX13_read_117 ?_
    refine bi_if_le (tgt := 136) hx hb (hB.1 20) dX13_read_120 (by decide) (fun c27 => ?_) (fun c27 => ?_)
    ·
      replace hw := hw.1 c27
      exact (hP136 _ _).mp hw r_u2 hN hF H locs ls hP hD hS (lv_sub hl [0, 2] rfl)
    ·
      replace hw := hw.2 c27
      refine lv_aload_n hx hb dX13_read_123 rfl (lv_at hl 0 rfl) ?_
      refine lv_iload_n hx hb dX13_read_124 rfl (lv_at hl 1 rfl) ?_
      refine lv_iload_n hx hb dX13_read_125 rfl (lv_at hl 2 rfl) ?_
      refine lv_iload_n hx hb dX13_read_126 rfl (lv_at hl 3 rfl) ?_
      refine lv_iload hx hb dX13_read_127 (lv_at hl 4 rfl) ?_
      refine lv_iload hx hb dX13_read_129 (lv_at hl 5 rfl) ?_
      refine lv_iload hx hb dX13_read_131 (lv_at hl 6 rfl) ?_
      obtain ⟨Q28, hc, hw⟩ := hw
      refine wc_V (X := MX g q lb) (va_runV (As := [.int (I u1), .int (I u2), .int (I u3), .int (I u4), .int (I u5), .int (I u6)]) (rest := []) ⟨hx, hb, hml, hown, hts⟩ (L_X13_forgetText l g q lb hlb r_u1 r_u2 r_u3 r_u4 r_u5 r_u6 hN hc H.size) (cwV 6 hts (TB_V tw_2783 tw_2785 ts_159 tw_15 co_X13_forgetText) rfl rfl rfl (by decide +kernel) ⟨Nat.le_of_ble_eq_true rfl, Nat.le_of_ble_eq_true rfl⟩) (preV (q0 := 0) (ci := 13) rfl xT_bl hP hK hNb hD rfl rfl xT_at) rfl rfl hl.1 rfl (lv_room (Nat.le_of_ble_eq_true rfl)) dX13_read_133 ⟨Nat.le_of_ble_eq_true rfl, Nat.le_of_ble_eq_true rfl⟩) hP hD hS hA (fun τ30 H locs hN hf hq hP hD hS => ?_)
      replace hw := hw τ30 hN hf hq
      have hF : f_r [0, 1, 2, 3, 4, 5, 6, 7, 8, 9, 10, 11, 12, 13, 14, 15, 16, 17, 18, 19, 20, 21, 22, 23, 24, 25, 26, 27, 28, 29, 30, 31, 32, 33, 34, 35, 38, 49] [1, 2, 3, 4, 5, 6, 7, 8, 9, 10, 11, 12, 13, 14, 15, 16, 17, 18, 19, 20, 21, 22, 23, 24, 25, 26, 27, 28, 29, 30, 31, 32, 33, 34, 35, 36, 37, 38, 39, 40, 41, 42, 43, 44, 45, 46, 47, 48, 49, 50, 51, 52, 53, 54, 55, 94, 95, 96] [0, 1] σ τ30 := f_t hF hf (by decide) (by decide) (by decide)
      have hB := hN
      exact (hP136 _ _).mp hw r_u2 hN hF H locs ls hP hD hS (lv_sub hl [0, 2] rfl)
  ·
    intro u2 τ hw
    refine (hP136 _ _).mpr ?_
    intro r_u2 hN hF H locs ls hP hD hS hl
    have hB := hN
    refine lv_aload_n hx hb dX13_read_136 rfl (lv_at hl 0 rfl) ?_
    refine lv_iconst (v := I 0) hx hb dX13_read_137 rfl ?_
    refine pfX13_tapeSize hx hb hts hK hP hD hS hown (hts _ tw_2007) dX13_read_138 (fun H locs hP hD hS => ?_)
    have hN : n_m (s_v τ 0 0) := n_v (i := 0) hN ((by decide) : rg 0)
    have hF : f_r [0, 1, 2, 3, 4, 5, 6, 7, 8, 9, 10, 11, 12, 13, 14, 15, 16, 17, 18, 19, 20, 21, 22, 23, 24, 25, 26, 27, 28, 29, 30, 31, 32, 33, 34, 35, 38, 49] [1, 2, 3, 4, 5, 6, 7, 8, 9, 10, 11, 12, 13, 14, 15, 16, 17, 18, 19, 20, 21, 22, 23, 24, 25, 26, 27, 28, 29, 30, 31, 32, 33, 34, 35, 36, 37, 38, 39, 40, 41, 42, 43, 44, 45, 46, 47, 48, 49, 50, 51, 52, 53, 54, 55, 94, 95, 96] [0, 1] σ (s_v τ 0 0) := f_v hF (by decide)
    refine lv_aload_n hx hb dX13_read_141 rfl (lv_at hl 0 rfl) ?_
    refine lv_iconst (v := I 0) hx hb dX13_read_142 rfl ?_
    refine pfX13_isFed hx hb hts hK hP hD hS hown (hts _ tw_2008) (by decide)  dX13_read_143 (fun H locs hP hD hS => ?_)
    have hN : n_m (s_v (s_v τ 0 0) 1 0) := n_v (i := 1) hN ((by decide) : rg 0)
    have hF : f_r [0, 1, 2, 3, 4, 5, 6, 7, 8, 9, 10, 11, 12, 13, 14, 15, 16, 17, 18, 19, 20, 21, 22, 23, 24, 25, 26, 27, 28, 29, 30, 31, 32, 33, 34, 35, 38, 49] [1, 2, 3, 4, 5, 6, 7, 8, 9, 10, 11, 12, 13, 14, 15, 16, 17, 18, 19, 20, 21, 22, 23, 24, 25, 26, 27, 28, 29, 30, 31, 32, 33, 34, 35, 36, 37, 38, 39, 40, 41, 42, 43, 44, 45, 46, 47, 48, 49, 50, 51, 52, 53, 54, 55, 94, 95, 96] [0, 1] σ (s_v (s_v τ 0 0) 1 0) := f_v hF (by decide)
    refine lv_aload_n hx hb dX13_read_146 rfl (lv_at hl 0 rfl) ?_
    refine lv_iload_n hx hb dX13_read_147 rfl (lv_at hl 1 rfl) ?_
    obtain ⟨Q31, hc, hw⟩ := hw
    refine wc_V (X := MX g q lb) (va_runV (As := [.int (I u2)]) (rest := []) ⟨hx, hb, hml, hown, hts⟩ (L_X13_forgetTrees l g q lb hlb r_u2 hN hc H.size) (cwV 1 hts (TB_V tw_2787 tw_2789 ts_160 tw_15 co_X13_forgetTrees) rfl rfl rfl (by decide +kernel) ⟨Nat.le_of_ble_eq_true rfl, Nat.le_of_ble_eq_true rfl⟩) (preV (q0 := 0) (ci := 13) rfl xT_bl hP hK hNb hD rfl rfl xT_at) rfl rfl hl.1 rfl (lv_room (Nat.le_of_ble_eq_true rfl)) dX13_read_148 ⟨Nat.le_of_ble_eq_true rfl, Nat.le_of_ble_eq_true rfl⟩) hP hD hS hA (fun τ33 H locs hN hf hq hP hD hS => ?_)
    replace hw := hw τ33 hN hf hq
    have hF : f_r [0, 1, 2, 3, 4, 5, 6, 7, 8, 9, 10, 11, 12, 13, 14, 15, 16, 17, 18, 19, 20, 21, 22, 23, 24, 25, 26, 27, 28, 29, 30, 31, 32, 33, 34, 35, 38, 49] [1, 2, 3, 4, 5, 6, 7, 8, 9, 10, 11, 12, 13, 14, 15, 16, 17, 18, 19, 20, 21, 22, 23, 24, 25, 26, 27, 28, 29, 30, 31, 32, 33, 34, 35, 36, 37, 38, 39, 40, 41, 42, 43, 44, 45, 46, 47, 48, 49, 50, 51, 52, 53, 54, 55, 94, 95, 96] [0, 1] σ τ33 := f_t hF hf (by decide) (by decide) (by decide)
    have hB := hN
    refine lv_aload_n hx hb dX13_read_151 rfl (lv_at hl 0 rfl) ?_
    refine gfX13_fault hx hb hts hK hP hown (hts _ tw_2065) (x := τ33.1 20) rfl dX13_read_152 ?_
    exact xri hx hb hr hlk hP hK hD hS ⟨_, _, (hB.1 20), rfl, hN, hF, rfl, hw⟩ (Nat.le_of_ble_eq_true rfl) (Nat.le_of_ble_eq_true rfl) dX13_read_155
def W_X13_place (σ : S0) (Q : Int → Prop) : Prop :=
  Q (σ.1 21)
set_option maxRecDepth 100000 in
set_option maxHeartbeats 4000000 in
theorem L_X13_place (l : Launch) (g : gG) (q : Nat → Nat) (lb : Nat) (hlb : lb < 2 ^ 31) {σ : S0} {Q : Int → Prop} (hN : n_m σ) (hw : W_X13_place σ Q) (sz : Nat) : MetI l yX13_place cX13_place 1 (some .int) { frames := 0, cells := 0, slots := 0, locals := 0 } g [.ref (q 0)] (MX g q lb σ) sz xT (p_i (MX g q lb) σ Q) 0 0 := by
  refine mkMet (Qc := fun A => QI g A (p_i (MX g q lb) σ Q)) (by decide) (Nat.le_of_ble_eq_true rfl) ?_
  intro p e s m below meth c A H ls hx hb hr hml hown hts hlk hnm hsz hP hK hNb hD hA hAe hS hX hl
  have hl : lv_has ls 1 [(0, .ref (q 0))] := hl
  have hB := hN
  obtain ⟨locs, hlocs⟩ : ∃ z : List Loc, z = [] := ⟨_, rfl⟩
  rw [← hlocs] at hS ⊢
  refine lv_aload_n hx hb dX13_place_0 rfl (lv_at hl 0 rfl) ?_
  refine gfX13_placeIs hx hb hts hK hP hown (hts _ tw_2066) (x := σ.1 21) rfl dX13_place_1 ?_
  exact xri hx hb hr hlk hP hK hD hS ⟨_, (hB.1 21), rfl, rfl, hw⟩ (Nat.le_of_ble_eq_true rfl) (Nat.le_of_ble_eq_true rfl) dX13_place_4
def W_X13_isStatement (n1 : Int) (σ : S0) (Q : Int → Prop) : Prop :=
  rg (σ.1 5 - 1) ∧ ∃ (Q2 : Int → Prop), W_X13_isIn (j_of n1) 0 (j_of (σ.1 5 - 1)) σ Q2 ∧ ∀ (x3 : Int), rg x3 → Q2 x3 → ((0 ≤ x3 ∧ x3 ≤ 1) ∧ Q x3)
set_option maxRecDepth 100000 in
set_option maxHeartbeats 4000000 in
theorem L_X13_isStatement (l : Launch) (g : gG) (q : Nat → Nat) (lb : Nat) (hlb : lb < 2 ^ 31) {n1 : Int} {σ : S0} {Q : Int → Prop} (r_n1 : rg n1) (hN : n_m σ) (hw : W_X13_isStatement n1 σ Q) (sz : Nat) : MetI l yX13_isStatement cX13_isStatement 2 (some .boolean) { frames := 1, cells := 0, slots := 0, locals := 25 } g [.ref (q 0), .int (I n1)] (MX g q lb σ) sz xT (p_i (MX g q lb) σ Q) 0 0 := by
  refine mkMet (Qc := fun A => QI g A (p_i (MX g q lb) σ Q)) (by decide) (Nat.le_of_ble_eq_true rfl) ?_
  intro p e s m below meth c A H ls hx hb hr hml hown hts hlk hnm hsz hP hK hNb hD hA hAe hS hX hl
  have hl : lv_has ls 2 [(0, .ref (q 0)), (1, .int (I n1))] := hl
  have hB := hN
  obtain ⟨locs, hlocs⟩ : ∃ z : List Loc, z = [] := ⟨_, rfl⟩
  rw [← hlocs] at hS ⊢
  refine lv_iload_n hx hb dX13_isStatement_0 rfl (lv_at hl 1 rfl) ?_
  refine bi_i2l hx hb r_n1 dX13_isStatement_1 ?_
  refine lv_lconst (v := 0) hx hb dX13_isStatement_2 (by decide) ?_
  refine lv_aload_n hx hb dX13_isStatement_3 rfl (lv_at hl 0 rfl) ?_
  refine gfX13_statements hx hb hts hK hP hown (hts _ tw_2024) (x := σ.1 5) rfl dX13_isStatement_4 ?_
  refine lv_iconst (v := I 1) hx hb dX13_isStatement_7 rfl ?_
  refine bi_isub hx hb dX13_isStatement_8 ?_
  obtain ⟨c1, hw⟩ := hw
  refine bi_i2l hx hb c1 dX13_isStatement_9 ?_
  obtain ⟨Q2, hc, hw⟩ := hw
  refine wc_i (X := MX g q lb) (va_runS (As := [.long (j_of n1), .long 0, .long (j_of (σ.1 5 - 1))]) (rest := []) ⟨hx, hb, hml, hown, hts⟩ (L_X13_isIn l g q lb hlb  hN hc H.size) (cwS 3 hts (TB_S tw_2525 tw_2526 tw_15 co_X13_isIn) rfl rfl rfl (by decide +kernel) ⟨Nat.le_of_ble_eq_true rfl, Nat.le_of_ble_eq_true rfl⟩) (preS xT_bl hP hK hNb hD xT_at) rfl rfl hl.1 rfl (lv_room (Nat.le_of_ble_eq_true rfl)) dX13_isStatement_10 ⟨Nat.le_of_ble_eq_true rfl, Nat.le_of_ble_eq_true rfl⟩) hP hD hS hA (fun x3 H locs r_x3 hq hP hD hS => ?_)
  replace hw := hw x3 r_x3 hq
  obtain ⟨c5, hw⟩ := hw
  exact xrz hx hb hr (nzI c5.1 c5.2) hlk hP hK hD hS ⟨_, r_x3, rfl, rfl, hw⟩ (Nat.le_of_ble_eq_true rfl) (Nat.le_of_ble_eq_true rfl) dX13_isStatement_13
def W_X13_isAssertion (n1 : Int) (σ : S0) (Q : Int → Prop) : Prop :=
  ∃ (Q1 : Int → Prop), W_X13_isStatement n1 σ Q1 ∧ ∀ (x2 : Int), rg x2 → Q1 x2 → ((x2 = 0 → Q 0) ∧ (¬ x2 = 0 → (0 ≤ n1 ∧ n1 < 1501) ∧ (∀ (x6 : Int), rg x6 → x6 = σ.2.1 13 n1 → ((x6 < 2 → Q 0) ∧ (2 ≤ x6 → Q 1)))))
set_option maxRecDepth 100000 in
set_option maxHeartbeats 4000000 in
theorem L_X13_isAssertion (l : Launch) (g : gG) (q : Nat → Nat) (lb : Nat) (hlb : lb < 2 ^ 31) {n1 : Int} {σ : S0} {Q : Int → Prop} (r_n1 : rg n1) (hN : n_m σ) (hw : W_X13_isAssertion n1 σ Q) (sz : Nat) : MetI l yX13_isAssertion cX13_isAssertion 2 (some .boolean) { frames := 2, cells := 0, slots := 0, locals := 46 } g [.ref (q 0), .int (I n1)] (MX g q lb σ) sz xT (p_i (MX g q lb) σ Q) 0 0 := by
  refine mkMet (Qc := fun A => QI g A (p_i (MX g q lb) σ Q)) (by decide) (Nat.le_of_ble_eq_true rfl) ?_
  intro p e s m below meth c A H ls hx hb hr hml hown hts hlk hnm hsz hP hK hNb hD hA hAe hS hX hl
  have hl : lv_has ls 2 [(0, .ref (q 0)), (1, .int (I n1))] := hl
  have hB := hN
  obtain ⟨locs, hlocs⟩ : ∃ z : List Loc, z = [] := ⟨_, rfl⟩
  rw [← hlocs] at hS ⊢
  refine lv_aload_n hx hb dX13_isAssertion_0 rfl (lv_at hl 0 rfl) ?_
  refine lv_iload_n hx hb dX13_isAssertion_1 rfl (lv_at hl 1 rfl) ?_
  obtain ⟨Q1, hc, hw⟩ := hw
  refine wc_i (X := MX g q lb) (va_runV (As := [.int (I n1)]) (rest := []) ⟨hx, hb, hml, hown, hts⟩ (L_X13_isStatement l g q lb hlb r_n1 hN hc H.size) (cwV 1 hts (TB_V tw_2803 tw_2805 ts_161 tw_15 co_X13_isStatement) rfl rfl rfl (by decide +kernel) ⟨Nat.le_of_ble_eq_true rfl, Nat.le_of_ble_eq_true rfl⟩) (preV (q0 := 0) (ci := 13) rfl xT_bl hP hK hNb hD rfl rfl xT_at) rfl rfl hl.1 rfl (lv_room (Nat.le_of_ble_eq_true rfl)) dX13_isAssertion_2 ⟨Nat.le_of_ble_eq_true rfl, Nat.le_of_ble_eq_true rfl⟩) hP hD hS hA (fun x2 H locs r_x2 hq hP hD hS => ?_)
  replace hw := hw x2 r_x2 hq
  refine bi_if_eq (tgt := 22) hx hb r_x2 dX13_isAssertion_5 (by decide) (fun c4 => ?_) (fun c4 => ?_)
  ·
    replace hw := hw.1 c4
    refine lv_iconst (v := I 0) hx hb dX13_isAssertion_22 rfl ?_
    exact xrz hx hb hr (by decide) hlk hP hK hD hS ⟨_, (by decide), rfl, rfl, hw⟩ (Nat.le_of_ble_eq_true rfl) (Nat.le_of_ble_eq_true rfl) dX13_isAssertion_23
  ·
    replace hw := hw.2 c4
    refine lv_aload_n hx hb dX13_isAssertion_8 rfl (lv_at hl 0 rfl) ?_
    refine gfX13_kindOf hx hb hts hK hP hown (hts _ tw_2025) dX13_isAssertion_9 ?_
    refine lv_iload_n hx hb dX13_isAssertion_12 rfl (lv_at hl 1 rfl) ?_
    obtain ⟨c5, hw⟩ := hw
    refine ldMX13_kindOf hx hb hK hP hN c5 dX13_isAssertion_13 (fun x6 r_x6 e_x6 => ?_)
    replace hw := hw x6 r_x6 e_x6
    refine lv_iconst (v := I 2) hx hb dX13_isAssertion_14 rfl ?_
    refine bi_icmp_lt (tgt := 22) hx hb r_x6 (by decide) dX13_isAssertion_15 (by decide) (fun c7 => ?_) (fun c7 => ?_)
    ·
      replace hw := hw.1 c7
      refine lv_iconst (v := I 0) hx hb dX13_isAssertion_22 rfl ?_
      exact xrz hx hb hr (by decide) hlk hP hK hD hS ⟨_, (by decide), rfl, rfl, hw⟩ (Nat.le_of_ble_eq_true rfl) (Nat.le_of_ble_eq_true rfl) dX13_isAssertion_23
    ·
      replace hw := hw.2 c7
      refine lv_iconst (v := I 1) hx hb dX13_isAssertion_18 rfl ?_
      refine lv_goto (tgt := 23) hx hb dX13_isAssertion_19 (by decide) ?_
      exact xrz hx hb hr (by decide) hlk hP hK hD hS ⟨_, (by decide), rfl, rfl, hw⟩ (Nat.le_of_ble_eq_true rfl) (Nat.le_of_ble_eq_true rfl) dX13_isAssertion_23
def W_X13_isProved (n1 : Int) (σ : S0) (Q : Int → Prop) : Prop :=
  ∃ (Q1 : Int → Prop), W_X13_isStatement n1 σ Q1 ∧ ∀ (x2 : Int), rg x2 → Q1 x2 → ((x2 = 0 → Q 0) ∧ (¬ x2 = 0 → (0 ≤ n1 ∧ n1 < 1501) ∧ (∀ (x6 : Int), rg x6 → x6 = σ.2.1 13 n1 → ((¬ x6 = 3 → Q 0) ∧ (x6 = 3 → Q 1)))))
set_option maxRecDepth 100000 in
set_option maxHeartbeats 4000000 in
theorem L_X13_isProved (l : Launch) (g : gG) (q : Nat → Nat) (lb : Nat) (hlb : lb < 2 ^ 31) {n1 : Int} {σ : S0} {Q : Int → Prop} (r_n1 : rg n1) (hN : n_m σ) (hw : W_X13_isProved n1 σ Q) (sz : Nat) : MetI l yX13_isProved cX13_isProved 2 (some .boolean) { frames := 2, cells := 0, slots := 0, locals := 46 } g [.ref (q 0), .int (I n1)] (MX g q lb σ) sz xT (p_i (MX g q lb) σ Q) 0 0 := by
  refine mkMet (Qc := fun A => QI g A (p_i (MX g q lb) σ Q)) (by decide) (Nat.le_of_ble_eq_true rfl) ?_
  intro p e s m below meth c A H ls hx hb hr hml hown hts hlk hnm hsz hP hK hNb hD hA hAe hS hX hl
  have hl : lv_has ls 2 [(0, .ref (q 0)), (1, .int (I n1))] := hl
  have hB := hN
  obtain ⟨locs, hlocs⟩ : ∃ z : List Loc, z = [] := ⟨_, rfl⟩
  rw [← hlocs] at hS ⊢
  refine lv_aload_n hx hb dX13_isProved_0 rfl (lv_at hl 0 rfl) ?_
  refine lv_iload_n hx hb dX13_isProved_1 rfl (lv_at hl 1 rfl) ?_
  obtain ⟨Q1, hc, hw⟩ := hw
  refine wc_i (X := MX g q lb) (va_runV (As := [.int (I n1)]) (rest := []) ⟨hx, hb, hml, hown, hts⟩ (L_X13_isStatement l g q lb hlb r_n1 hN hc H.size) (cwV 1 hts (TB_V tw_2803 tw_2805 ts_161 tw_15 co_X13_isStatement) rfl rfl rfl (by decide +kernel) ⟨Nat.le_of_ble_eq_true rfl, Nat.le_of_ble_eq_true rfl⟩) (preV (q0 := 0) (ci := 13) rfl xT_bl hP hK hNb hD rfl rfl xT_at) rfl rfl hl.1 rfl (lv_room (Nat.le_of_ble_eq_true rfl)) dX13_isProved_2 ⟨Nat.le_of_ble_eq_true rfl, Nat.le_of_ble_eq_true rfl⟩) hP hD hS hA (fun x2 H locs r_x2 hq hP hD hS => ?_)
  replace hw := hw x2 r_x2 hq
  refine bi_if_eq (tgt := 22) hx hb r_x2 dX13_isProved_5 (by decide) (fun c4 => ?_) (fun c4 => ?_)
  ·
    replace hw := hw.1 c4
    refine lv_iconst (v := I 0) hx hb dX13_isProved_22 rfl ?_
    exact xrz hx hb hr (by decide) hlk hP hK hD hS ⟨_, (by decide), rfl, rfl, hw⟩ (Nat.le_of_ble_eq_true rfl) (Nat.le_of_ble_eq_true rfl) dX13_isProved_23
  ·
    replace hw := hw.2 c4
    refine lv_aload_n hx hb dX13_isProved_8 rfl (lv_at hl 0 rfl) ?_
    refine gfX13_kindOf hx hb hts hK hP hown (hts _ tw_2025) dX13_isProved_9 ?_
    refine lv_iload_n hx hb dX13_isProved_12 rfl (lv_at hl 1 rfl) ?_
    obtain ⟨c5, hw⟩ := hw
    refine ldMX13_kindOf hx hb hK hP hN c5 dX13_isProved_13 (fun x6 r_x6 e_x6 => ?_)
    replace hw := hw x6 r_x6 e_x6
    refine lv_iconst (v := I 3) hx hb dX13_isProved_14 rfl ?_
    refine bi_icmp_ne (tgt := 22) hx hb r_x6 (by decide) dX13_isProved_15 (by decide) (fun c7 => ?_) (fun c7 => ?_)
    ·
      replace hw := hw.1 c7
      refine lv_iconst (v := I 0) hx hb dX13_isProved_22 rfl ?_
      exact xrz hx hb hr (by decide) hlk hP hK hD hS ⟨_, (by decide), rfl, rfl, hw⟩ (Nat.le_of_ble_eq_true rfl) (Nat.le_of_ble_eq_true rfl) dX13_isProved_23
    ·
      replace hw := hw.2 c7
      refine lv_iconst (v := I 1) hx hb dX13_isProved_18 rfl ?_
      refine lv_goto (tgt := 23) hx hb dX13_isProved_19 (by decide) ?_
      exact xrz hx hb hr (by decide) hlk hP hK hD hS ⟨_, (by decide), rfl, rfl, hw⟩ (Nat.le_of_ble_eq_true rfl) (Nat.le_of_ble_eq_true rfl) dX13_isProved_23
def W_X13_count (n1 : Int) (σ : S0) (Q : Int → Prop) : Prop :=
  ∀ (P4 : Int → Int → Int → Prop) (P40 : Int → Int → Int → Int → Prop) (P62 : Int → Int → Int → Int → Int → Prop),
  (∀ (u1 : Int) (u2 : Int) (u3 : Int), ((σ.1 3 ≤ u3 → P40 u1 u2 0 0) ∧ (u3 < σ.1 3 → (0 ≤ u3 ∧ u3 < 1001) ∧ (∀ (x3 : Int), rg x3 → x3 = σ.2.1 8 u3 → ((x3 = 0 → rg (u2 + 1) ∧ rg (u3 + 1) ∧ P4 u1 (u2 + 1) (u3 + 1)) ∧ (¬ x3 = 0 → rg (u2 + 0) ∧ rg (u3 + 1) ∧ P4 u1 (u2 + 0) (u3 + 1)))))) → P4 u1 u2 u3) →
  (∀ (u1 : Int) (u2 : Int) (u3 : Int) (u4 : Int), ((σ.1 5 ≤ u4 → (u1 < 0 ∨ 9 < u1 → Q (-1)) ∧ (u1 = 0 → Q (σ.1 5)) ∧ (u1 = 1 → Q (σ.1 3)) ∧ (u1 = 2 → Q u2) ∧ (u1 = 3 → Q u3) ∧ (u1 = 4 → Q u3) ∧ (u1 = 5 → Q u3) ∧ (u1 = 6 → Q u3) ∧ (u1 = 7 → Q u3) ∧ (u1 = 8 → Q (σ.1 9)) ∧ (u1 = 9 → Q (σ.1 8))) ∧ (u4 < σ.1 5 → (¬ u1 = 7 → ∀ (x12 : Int), rg x12 → x12 = h_s (u1 - 3) → (P62 u1 u2 u3 u4 x12)) ∧ (u1 = 7 → P62 u1 u2 u3 u4 4))) → P40 u1 u2 u3 u4) →
  (∀ (u1 : Int) (u2 : Int) (u3 : Int) (u4 : Int) (k0 : Int), ((0 ≤ u4 ∧ u4 < 1501) ∧ (∀ (x14 : Int), rg x14 → x14 = σ.2.1 13 u4 → ((x14 = k0 → rg (u3 + 1) ∧ rg (u4 + 1) ∧ P40 u1 u2 (u3 + 1) (u4 + 1)) ∧ (¬ x14 = k0 → (¬ u1 = 6 → rg (u3 + 0) ∧ rg (u4 + 1) ∧ P40 u1 u2 (u3 + 0) (u4 + 1)) ∧ (u1 = 6 → ∀ (x21 : Int), rg x21 → x21 = σ.2.1 13 u4 → ((¬ x21 = 4 → rg (u3 + 0) ∧ rg (u4 + 1) ∧ P40 u1 u2 (u3 + 0) (u4 + 1)) ∧ (x21 = 4 → rg (u3 + 1) ∧ rg (u4 + 1) ∧ P40 u1 u2 (u3 + 1) (u4 + 1)))))))) → P62 u1 u2 u3 u4 k0) →
  P4 n1 0 0
set_option maxRecDepth 100000 in
set_option maxHeartbeats 4000000 in
theorem L_X13_count (l : Launch) (g : gG) (q : Nat → Nat) (lb : Nat) (hlb : lb < 2 ^ 31) {n1 : Int} {σ : S0} {Q : Int → Prop} (r_n1 : rg n1) (hN : n_m σ) (hw : W_X13_count n1 σ Q) (sz : Nat) : MetI l yX13_count cX13_count 6 (some .int) { frames := 0, cells := 0, slots := 0, locals := 0 } g [.ref (q 0), .int (I n1)] (MX g q lb σ) sz xT (p_i (MX g q lb) σ Q) 0 0 := by
  refine mkMet (Qc := fun A => QI g A (p_i (MX g q lb) σ Q)) (by decide) (Nat.le_of_ble_eq_true rfl) ?_
  intro p e s m below meth c A H ls hx hb hr hml hown hts hlk hnm hsz hP hK hNb hD hA hAe hS hX hl
  have hl : lv_has ls 6 [(0, .ref (q 0)), (1, .int (I n1))] := hl
  have hB := hN
  obtain ⟨locs, hlocs⟩ : ∃ z : List Loc, z = [] := ⟨_, rfl⟩
  rw [← hlocs] at hS ⊢
  obtain ⟨P4, hP4⟩ : ∃ P : Int → Int → Int → Prop, ∀ (u1 : Int) (u2 : Int) (u3 : Int), (P u1 u2 u3 ↔ (rg u1 → rg u2 → rg u3 → ∀ (H : Heap) (locs : List Loc) (ls : Array Slot), KP g (MX g q lb σ) H → va_D A (MX g q lb σ) → va_S A s.heap H locs → lv_has ls 6 [(0, .ref (q 0)), (1, .int (I u1)), (2, .int (I u2)), (3, .int (I u3))] → W p l e ({ frames := 0, cells := 0, slots := 0, locals := 0 }) s m [.ref (q 0), .int (I n1)].toArray below meth c H locs 0 0 (MQ below (QI g A (p_i (MX g q lb) σ Q)) [.ref (q 0), .int (I n1)].toArray s 0 0 A) (F0 m 4 ls []))) := ⟨_, fun _ _ _ => Iff.rfl⟩
  obtain ⟨P40, hP40⟩ : ∃ P : Int → Int → Int → Int → Prop, ∀ (u1 : Int) (u2 : Int) (u3 : Int) (u4 : Int), (P u1 u2 u3 u4 ↔ (rg u1 → rg u2 → rg u3 → rg u4 → ∀ (H : Heap) (locs : List Loc) (ls : Array Slot), KP g (MX g q lb σ) H → va_D A (MX g q lb σ) → va_S A s.heap H locs → lv_has ls 6 [(0, .ref (q 0)), (1, .int (I u1)), (2, .int (I u2)), (3, .int (I u3)), (4, .int (I u4))] → W p l e ({ frames := 0, cells := 0, slots := 0, locals := 0 }) s m [.ref (q 0), .int (I n1)].toArray below meth c H locs 0 0 (MQ below (QI g A (p_i (MX g q lb) σ Q)) [.ref (q 0), .int (I n1)].toArray s 0 0 A) (F0 m 40 ls []))) := ⟨_, fun _ _ _ _ => Iff.rfl⟩
  obtain ⟨P62, hP62⟩ : ∃ P : Int → Int → Int → Int → Int → Prop, ∀ (u1 : Int) (u2 : Int) (u3 : Int) (u4 : Int) (k0 : Int), (P u1 u2 u3 u4 k0 ↔ (rg u1 → rg u2 → rg u3 → rg u4 → rg k0 → ∀ (H : Heap) (locs : List Loc) (ls : Array Slot), KP g (MX g q lb σ) H → va_D A (MX g q lb σ) → va_S A s.heap H locs → lv_has ls 6 [(0, .ref (q 0)), (1, .int (I u1)), (2, .int (I u2)), (3, .int (I u3)), (4, .int (I u4))] → W p l e ({ frames := 0, cells := 0, slots := 0, locals := 0 }) s m [.ref (q 0), .int (I n1)].toArray below meth c H locs 0 0 (MQ below (QI g A (p_i (MX g q lb) σ Q)) [.ref (q 0), .int (I n1)].toArray s 0 0 A) (F0 m 62 ls [.int (I k0)]))) := ⟨_, fun _ _ _ _ _ => Iff.rfl⟩
  refine (fun hw => ?_) (hw P4 P40 P62 ?_ ?_ ?_)
  ·
    refine lv_iconst (v := I 0) hx hb dX13_count_0 rfl ?_
    refine lv_istore_n (lv' := [(2, .int (I 0)), (0, .ref (q 0)), (1, .int (I n1))]) hx hb dX13_count_1 rfl hl (by decide) rfl (fun ls hl => ?_)
    refine lv_iconst (v := I 0) hx hb dX13_count_2 rfl ?_
    refine lv_istore_n (lv' := [(3, .int (I 0)), (2, .int (I 0)), (0, .ref (q 0)), (1, .int (I n1))]) hx hb dX13_count_3 rfl hl (by decide) rfl (fun ls hl => ?_)
    exact (hP4 _ _ _).mp hw r_n1 (by decide) (by decide)  H locs ls hP hD hS (lv_sub hl [2, 3, 1, 0] rfl)
  ·
    intro u1 u2 u3 hw
    refine (hP4 _ _ _).mpr ?_
    intro r_u1 r_u2 r_u3 H locs ls hP hD hS hl
    refine lv_iload_n hx hb dX13_count_4 rfl (lv_at hl 3 rfl) ?_
    refine lv_aload_n hx hb dX13_count_5 rfl (lv_at hl 0 rfl) ?_
    refine gfX13_symbols hx hb hts hK hP hown (hts _ tw_2013) (x := σ.1 3) rfl dX13_count_6 ?_
    refine bi_icmp_ge (tgt := 35) hx hb r_u3 (hB.1 3) dX13_count_9 (by decide) (fun c1 => ?_) (fun c1 => ?_)
    ·
      replace hw := hw.1 c1
      refine lv_iconst (v := I 0) hx hb dX13_count_35 rfl ?_
      refine lv_istore_n (lv' := [(3, .int (I 0)), (0, .ref (q 0)), (1, .int (I u1)), (2, .int (I u2))]) hx hb dX13_count_36 rfl hl (by decide) rfl (fun ls hl => ?_)
      refine lv_iconst (v := I 0) hx hb dX13_count_37 rfl ?_
      refine lv_istore (lv' := [(4, .int (I 0)), (3, .int (I 0)), (0, .ref (q 0)), (1, .int (I u1)), (2, .int (I u2))]) hx hb dX13_count_38 hl (by decide) rfl (fun ls hl => ?_)
      exact (hP40 _ _ _ _).mp hw r_u1 r_u2 (by decide) (by decide)  H locs ls hP hD hS (lv_sub hl [2, 3, 4, 1, 0] rfl)
    ·
      replace hw := hw.2 c1
      refine lv_iload_n hx hb dX13_count_12 rfl (lv_at hl 2 rfl) ?_
      refine lv_aload_n hx hb dX13_count_13 rfl (lv_at hl 0 rfl) ?_
      refine gfX13_isVariable hx hb hts hK hP hown (hts _ tw_2018) dX13_count_14 ?_
      refine lv_iload_n hx hb dX13_count_17 rfl (lv_at hl 3 rfl) ?_
      obtain ⟨c2, hw⟩ := hw
      refine ldMX13_isVariable hx hb hK hP hN c2 dX13_count_18 (fun x3 r_x3 e_x3 => ?_)
      replace hw := hw x3 r_x3 e_x3
      refine bi_if_eq (tgt := 26) hx hb r_x3 dX13_count_19 (by decide) (fun c4 => ?_) (fun c4 => ?_)
      ·
        replace hw := hw.1 c4
        refine lv_iconst (v := I 1) hx hb dX13_count_26 rfl ?_
        refine bi_iadd hx hb dX13_count_27 ?_
        refine lv_istore_n (lv' := [(2, .int (I (u2 + 1))), (0, .ref (q 0)), (1, .int (I u1)), (3, .int (I u3))]) hx hb dX13_count_28 rfl hl (by decide) rfl (fun ls hl => ?_)
        refine lv_iinc (v := I (u3 + 1)) (lv' := [(3, .int (I (u3 + 1))), (2, .int (I (u2 + 1))), (0, .ref (q 0)), (1, .int (I u1))]) hx hb dX13_count_29 hl (k := 3) rfl (I_add _ _) (by decide) rfl (fun ls hl => ?_)
        refine lv_goto (tgt := 4) hx hb dX13_count_32 (by decide) ?_
        obtain ⟨c5, hw⟩ := hw
        obtain ⟨c6, hw⟩ := hw
        exact (hP4 _ _ _).mp hw r_u1 c5 c6  H locs ls hP hD hS (lv_sub hl [2, 3, 1, 0] rfl)
      ·
        replace hw := hw.2 c4
        refine lv_iconst (v := I 0) hx hb dX13_count_22 rfl ?_
        refine lv_goto (tgt := 27) hx hb dX13_count_23 (by decide) ?_
        refine bi_iadd hx hb dX13_count_27 ?_
        refine lv_istore_n (lv' := [(2, .int (I (u2 + 0))), (0, .ref (q 0)), (1, .int (I u1)), (3, .int (I u3))]) hx hb dX13_count_28 rfl hl (by decide) rfl (fun ls hl => ?_)
        refine lv_iinc (v := I (u3 + 1)) (lv' := [(3, .int (I (u3 + 1))), (2, .int (I (u2 + 0))), (0, .ref (q 0)), (1, .int (I u1))]) hx hb dX13_count_29 hl (k := 3) rfl (I_add _ _) (by decide) rfl (fun ls hl => ?_)
        refine lv_goto (tgt := 4) hx hb dX13_count_32 (by decide) ?_
        obtain ⟨c7, hw⟩ := hw
        obtain ⟨c8, hw⟩ := hw
        exact (hP4 _ _ _).mp hw r_u1 c7 c8  H locs ls hP hD hS (lv_sub hl [2, 3, 1, 0] rfl)
  ·
    intro u1 u2 u3 u4 hw
    refine (hP40 _ _ _ _).mpr ?_
    intro r_u1 r_u2 r_u3 r_u4 H locs ls hP hD hS hl
    refine lv_iload hx hb dX13_count_40 (lv_at hl 4 rfl) ?_
    refine lv_aload_n hx hb dX13_count_42 rfl (lv_at hl 0 rfl) ?_
    refine gfX13_statements hx hb hts hK hP hown (hts _ tw_2024) (x := σ.1 5) rfl dX13_count_43 ?_
    refine bi_icmp_ge (tgt := 107) hx hb r_u4 (hB.1 5) dX13_count_46 (by decide) (fun c9 => ?_) (fun c9 => ?_)
    ·
      replace hw := hw.1 c9
      refine lv_iload_n hx hb dX13_count_107 rfl (lv_at hl 1 rfl) ?_
      have rr := (r_u1 : rg u1)
      rcases bi_sw (x := u1) 0 9 with c10 | c10
      ·
        replace hw := hw.1 c10
        refine lv_tableOut (tgt := 188) hx hb dX13_count_108 (by rw [I_toInt rr.1 rr.2]; exact c10) (by decide) ?_
        refine lv_iconst (v := I (-1)) hx hb dX13_count_188 rfl ?_
        exact xri hx hb hr hlk hP hK hD hS ⟨_, (by decide), rfl, rfl, hw⟩ (Nat.le_of_ble_eq_true rfl) (Nat.le_of_ble_eq_true rfl) dX13_count_189
      ·
        obtain ⟨k, hk, ec10⟩ := c10
        replace hw := hw.2
        rcases (show k = 0 ∨ k = 1 ∨ k = 2 ∨ k = 3 ∨ k = 4 ∨ k = 5 ∨ k = 6 ∨ k = 7 ∨ k = 8 ∨ k = 9 by omega) with rfl | rfl | rfl | rfl | rfl | rfl | rfl | rfl | rfl | rfl
        ·
          have e9 : u1 = 0 := ec10
          refine lv_tableIn (tgt := 164) hx hb dX13_count_108 (by rw [I_toInt rr.1 rr.2, e9]; decide) (by rw [I_toInt rr.1 rr.2, e9]; decide) (by rw [I_toInt rr.1 rr.2, e9]; rfl) (by decide) ?_
          replace hw := hw.1 e9
          refine lv_aload_n hx hb dX13_count_164 rfl (lv_at hl 0 rfl) ?_
          refine gfX13_statements hx hb hts hK hP hown (hts _ tw_2024) (x := σ.1 5) rfl dX13_count_165 ?_
          exact xri hx hb hr hlk hP hK hD hS ⟨_, (hB.1 5), rfl, rfl, hw⟩ (Nat.le_of_ble_eq_true rfl) (Nat.le_of_ble_eq_true rfl) dX13_count_168
        ·
          have e9 : u1 = 1 := ec10
          refine lv_tableIn (tgt := 169) hx hb dX13_count_108 (by rw [I_toInt rr.1 rr.2, e9]; decide) (by rw [I_toInt rr.1 rr.2, e9]; decide) (by rw [I_toInt rr.1 rr.2, e9]; rfl) (by decide) ?_
          replace hw := hw.2.1 e9
          refine lv_aload_n hx hb dX13_count_169 rfl (lv_at hl 0 rfl) ?_
          refine gfX13_symbols hx hb hts hK hP hown (hts _ tw_2013) (x := σ.1 3) rfl dX13_count_170 ?_
          exact xri hx hb hr hlk hP hK hD hS ⟨_, (hB.1 3), rfl, rfl, hw⟩ (Nat.le_of_ble_eq_true rfl) (Nat.le_of_ble_eq_true rfl) dX13_count_173
        ·
          have e9 : u1 = 2 := ec10
          refine lv_tableIn (tgt := 174) hx hb dX13_count_108 (by rw [I_toInt rr.1 rr.2, e9]; decide) (by rw [I_toInt rr.1 rr.2, e9]; decide) (by rw [I_toInt rr.1 rr.2, e9]; rfl) (by decide) ?_
          replace hw := hw.2.2.1 e9
          refine lv_iload_n hx hb dX13_count_174 rfl (lv_at hl 2 rfl) ?_
          exact xri hx hb hr hlk hP hK hD hS ⟨_, r_u2, rfl, rfl, hw⟩ (Nat.le_of_ble_eq_true rfl) (Nat.le_of_ble_eq_true rfl) dX13_count_175
        ·
          have e9 : u1 = 3 := ec10
          refine lv_tableIn (tgt := 176) hx hb dX13_count_108 (by rw [I_toInt rr.1 rr.2, e9]; decide) (by rw [I_toInt rr.1 rr.2, e9]; decide) (by rw [I_toInt rr.1 rr.2, e9]; rfl) (by decide) ?_
          replace hw := hw.2.2.2.1 e9
          refine lv_iload_n hx hb dX13_count_176 rfl (lv_at hl 3 rfl) ?_
          exact xri hx hb hr hlk hP hK hD hS ⟨_, r_u3, rfl, rfl, hw⟩ (Nat.le_of_ble_eq_true rfl) (Nat.le_of_ble_eq_true rfl) dX13_count_177
        ·
          have e9 : u1 = 4 := ec10
          refine lv_tableIn (tgt := 176) hx hb dX13_count_108 (by rw [I_toInt rr.1 rr.2, e9]; decide) (by rw [I_toInt rr.1 rr.2, e9]; decide) (by rw [I_toInt rr.1 rr.2, e9]; rfl) (by decide) ?_
          replace hw := hw.2.2.2.2.1 e9
          refine lv_iload_n hx hb dX13_count_176 rfl (lv_at hl 3 rfl) ?_
          exact xri hx hb hr hlk hP hK hD hS ⟨_, r_u3, rfl, rfl, hw⟩ (Nat.le_of_ble_eq_true rfl) (Nat.le_of_ble_eq_true rfl) dX13_count_177
        ·
          have e9 : u1 = 5 := ec10
          refine lv_tableIn (tgt := 176) hx hb dX13_count_108 (by rw [I_toInt rr.1 rr.2, e9]; decide) (by rw [I_toInt rr.1 rr.2, e9]; decide) (by rw [I_toInt rr.1 rr.2, e9]; rfl) (by decide) ?_
          replace hw := hw.2.2.2.2.2.1 e9
          refine lv_iload_n hx hb dX13_count_176 rfl (lv_at hl 3 rfl) ?_
          exact xri hx hb hr hlk hP hK hD hS ⟨_, r_u3, rfl, rfl, hw⟩ (Nat.le_of_ble_eq_true rfl) (Nat.le_of_ble_eq_true rfl) dX13_count_177
        ·
          have e9 : u1 = 6 := ec10
          refine lv_tableIn (tgt := 176) hx hb dX13_count_108 (by rw [I_toInt rr.1 rr.2, e9]; decide) (by rw [I_toInt rr.1 rr.2, e9]; decide) (by rw [I_toInt rr.1 rr.2, e9]; rfl) (by decide) ?_
          replace hw := hw.2.2.2.2.2.2.1 e9
          refine lv_iload_n hx hb dX13_count_176 rfl (lv_at hl 3 rfl) ?_
          exact xri hx hb hr hlk hP hK hD hS ⟨_, r_u3, rfl, rfl, hw⟩ (Nat.le_of_ble_eq_true rfl) (Nat.le_of_ble_eq_true rfl) dX13_count_177
        ·
          have e9 : u1 = 7 := ec10
          refine lv_tableIn (tgt := 176) hx hb dX13_count_108 (by rw [I_toInt rr.1 rr.2, e9]; decide) (by rw [I_toInt rr.1 rr.2, e9]; decide) (by rw [I_toInt rr.1 rr.2, e9]; rfl) (by decide) ?_
          replace hw := hw.2.2.2.2.2.2.2.1 e9
          refine lv_iload_n hx hb dX13_count_176 rfl (lv_at hl 3 rfl) ?_
          exact xri hx hb hr hlk hP hK hD hS ⟨_, r_u3, rfl, rfl, hw⟩ (Nat.le_of_ble_eq_true rfl) (Nat.le_of_ble_eq_true rfl) dX13_count_177
        ·
          have e9 : u1 = 8 := ec10
          refine lv_tableIn (tgt := 178) hx hb dX13_count_108 (by rw [I_toInt rr.1 rr.2, e9]; decide) (by rw [I_toInt rr.1 rr.2, e9]; decide) (by rw [I_toInt rr.1 rr.2, e9]; rfl) (by decide) ?_
          replace hw := hw.2.2.2.2.2.2.2.2.1 e9
          refine lv_aload_n hx hb dX13_count_178 rfl (lv_at hl 0 rfl) ?_
          refine gfX13_stepCount hx hb hts hK hP hown (hts _ tw_2045) (x := σ.1 9) rfl dX13_count_179 ?_
          exact xri hx hb hr hlk hP hK hD hS ⟨_, (hB.1 9), rfl, rfl, hw⟩ (Nat.le_of_ble_eq_true rfl) (Nat.le_of_ble_eq_true rfl) dX13_count_182
        ·
          have e9 : u1 = 9 := ec10
          refine lv_tableIn (tgt := 183) hx hb dX13_count_108 (by rw [I_toInt rr.1 rr.2, e9]; decide) (by rw [I_toInt rr.1 rr.2, e9]; decide) (by rw [I_toInt rr.1 rr.2, e9]; rfl) (by decide) ?_
          replace hw := hw.2.2.2.2.2.2.2.2.2 e9
          refine lv_aload_n hx hb dX13_count_183 rfl (lv_at hl 0 rfl) ?_
          refine gfX13_pairCount hx hb hts hK hP hown (hts _ tw_2039) (x := σ.1 8) rfl dX13_count_184 ?_
          exact xri hx hb hr hlk hP hK hD hS ⟨_, (hB.1 8), rfl, rfl, hw⟩ (Nat.le_of_ble_eq_true rfl) (Nat.le_of_ble_eq_true rfl) dX13_count_187
    ·
      replace hw := hw.2 c9
      refine lv_iload_n hx hb dX13_count_49 rfl (lv_at hl 1 rfl) ?_
      refine lv_bipush (v := I 7) hx hb dX13_count_50 (by decide) ?_
      refine bi_icmp_ne (tgt := 59) hx hb r_u1 (by decide) dX13_count_52 (by decide) (fun c11 => ?_) (fun c11 => ?_)
      ·
        replace hw := hw.1 c11
        refine lv_iload_n hx hb dX13_count_59 rfl (lv_at hl 1 rfl) ?_
        refine lv_iconst (v := I 3) hx hb dX13_count_60 rfl ?_
        refine bi_isub hx hb dX13_count_61 ?_
        refine bi_hve (fun x12 r_x12 e_x12 => ?_)
        replace hw := hw x12 r_x12 e_x12
        exact (hP62 _ _ _ _ _).mp hw r_u1 r_u2 r_u3 r_u4 r_x12  H locs ls hP hD hS (lv_sub hl [0, 1, 2, 3, 4] rfl)
      ·
        replace hw := hw.2 c11
        refine lv_iconst (v := I 4) hx hb dX13_count_55 rfl ?_
        refine lv_goto (tgt := 62) hx hb dX13_count_56 (by decide) ?_
        exact (hP62 _ _ _ _ _).mp hw r_u1 r_u2 r_u3 r_u4 (by decide)  H locs ls hP hD hS (lv_sub hl [0, 1, 2, 3, 4] rfl)
  ·
    intro u1 u2 u3 u4 k0 hw
    refine (hP62 _ _ _ _ _).mpr ?_
    intro r_u1 r_u2 r_u3 r_u4 r_k0 H locs ls hP hD hS hl
    refine lv_istore (lv' := [(5, .int (I k0)), (0, .ref (q 0)), (1, .int (I u1)), (2, .int (I u2)), (3, .int (I u3)), (4, .int (I u4))]) hx hb dX13_count_62 hl (by decide) rfl (fun ls hl => ?_)
    refine lv_iload_n hx hb dX13_count_64 rfl (lv_at hl 4 rfl) ?_
    refine lv_aload_n hx hb dX13_count_65 rfl (lv_at hl 1 rfl) ?_
    refine gfX13_kindOf hx hb hts hK hP hown (hts _ tw_2025) dX13_count_66 ?_
    refine lv_iload hx hb dX13_count_69 (lv_at hl 5 rfl) ?_
    obtain ⟨c13, hw⟩ := hw
    refine ldMX13_kindOf hx hb hK hP hN c13 dX13_count_71 (fun x14 r_x14 e_x14 => ?_)
    replace hw := hw x14 r_x14 e_x14
    refine lv_iload hx hb dX13_count_72 (lv_at hl 0 rfl) ?_
    refine bi_icmp_eq (tgt := 94) hx hb r_x14 r_k0 dX13_count_74 (by decide) (fun c15 => ?_) (fun c15 => ?_)
    ·
      replace hw := hw.1 c15
      refine lv_iconst (v := I 1) hx hb dX13_count_94 rfl ?_
      refine lv_goto (tgt := 99) hx hb dX13_count_95 (by decide) ?_
      refine bi_iadd hx hb dX13_count_99 ?_
      refine lv_istore_n (lv' := [(3, .int (I (u3 + 1))), (5, .int (I k0)), (0, .ref (q 0)), (1, .int (I u1)), (2, .int (I u2)), (4, .int (I u4))]) hx hb dX13_count_100 rfl hl (by decide) rfl (fun ls hl => ?_)
      refine lv_iinc (v := I (u4 + 1)) (lv' := [(4, .int (I (u4 + 1))), (3, .int (I (u3 + 1))), (5, .int (I k0)), (0, .ref (q 0)), (1, .int (I u1)), (2, .int (I u2))]) hx hb dX13_count_101 hl (k := 5) rfl (I_add _ _) (by decide) rfl (fun ls hl => ?_)
      refine lv_goto (tgt := 40) hx hb dX13_count_104 (by decide) ?_
      obtain ⟨c16, hw⟩ := hw
      obtain ⟨c17, hw⟩ := hw
      exact (hP40 _ _ _ _).mp hw r_u1 r_u2 c16 c17  H locs ls hP hD hS (lv_sub hl [3, 4, 5, 1, 0] rfl)
    ·
      replace hw := hw.2 c15
      refine lv_iload_n hx hb dX13_count_77 rfl (lv_at hl 2 rfl) ?_
      refine lv_bipush (v := I 6) hx hb dX13_count_78 (by decide) ?_
      refine bi_icmp_ne (tgt := 98) hx hb r_u1 (by decide) dX13_count_80 (by decide) (fun c18 => ?_) (fun c18 => ?_)
      ·
        replace hw := hw.1 c18
        refine lv_iconst (v := I 0) hx hb dX13_count_98 rfl ?_
        refine bi_iadd hx hb dX13_count_99 ?_
        refine lv_istore_n (lv' := [(3, .int (I (u3 + 0))), (5, .int (I k0)), (0, .ref (q 0)), (1, .int (I u1)), (2, .int (I u2)), (4, .int (I u4))]) hx hb dX13_count_100 rfl hl (by decide) rfl (fun ls hl => ?_)
        refine lv_iinc (v := I (u4 + 1)) (lv' := [(4, .int (I (u4 + 1))), (3, .int (I (u3 + 0))), (5, .int (I k0)), (0, .ref (q 0)), (1, .int (I u1)), (2, .int (I u2))]) hx hb dX13_count_101 hl (k := 5) rfl (I_add _ _) (by decide) rfl (fun ls hl => ?_)
        refine lv_goto (tgt := 40) hx hb dX13_count_104 (by decide) ?_
        obtain ⟨c19, hw⟩ := hw
        obtain ⟨c20, hw⟩ := hw
        exact (hP40 _ _ _ _).mp hw r_u1 r_u2 c19 c20  H locs ls hP hD hS (lv_sub hl [3, 4, 5, 1, 0] rfl)
      ·
        replace hw := hw.2 c18
        refine lv_aload_n hx hb dX13_count_83 rfl (lv_at hl 1 rfl) ?_
        refine gfX13_kindOf hx hb hts hK hP hown (hts _ tw_2025) dX13_count_84 ?_
        refine lv_iload hx hb dX13_count_87 (lv_at hl 5 rfl) ?_
        refine ldMX13_kindOf hx hb hK hP hN c13 dX13_count_89 (fun x21 r_x21 e_x21 => ?_)
        replace hw := hw x21 r_x21 e_x21
        refine lv_iconst (v := I 4) hx hb dX13_count_90 rfl ?_
        refine bi_icmp_ne (tgt := 98) hx hb r_x21 (by decide) dX13_count_91 (by decide) (fun c22 => ?_) (fun c22 => ?_)
        ·
          replace hw := hw.1 c22
          refine lv_iconst (v := I 0) hx hb dX13_count_98 rfl ?_
          refine bi_iadd hx hb dX13_count_99 ?_
          refine lv_istore_n (lv' := [(3, .int (I (u3 + 0))), (5, .int (I k0)), (0, .ref (q 0)), (1, .int (I u1)), (2, .int (I u2)), (4, .int (I u4))]) hx hb dX13_count_100 rfl hl (by decide) rfl (fun ls hl => ?_)
          refine lv_iinc (v := I (u4 + 1)) (lv' := [(4, .int (I (u4 + 1))), (3, .int (I (u3 + 0))), (5, .int (I k0)), (0, .ref (q 0)), (1, .int (I u1)), (2, .int (I u2))]) hx hb dX13_count_101 hl (k := 5) rfl (I_add _ _) (by decide) rfl (fun ls hl => ?_)
          refine lv_goto (tgt := 40) hx hb dX13_count_104 (by decide) ?_
          obtain ⟨c23, hw⟩ := hw
          obtain ⟨c24, hw⟩ := hw
          exact (hP40 _ _ _ _).mp hw r_u1 r_u2 c23 c24  H locs ls hP hD hS (lv_sub hl [3, 4, 5, 1, 0] rfl)
        ·
          replace hw := hw.2 c22
          refine lv_iconst (v := I 1) hx hb dX13_count_94 rfl ?_
          refine lv_goto (tgt := 99) hx hb dX13_count_95 (by decide) ?_
          refine bi_iadd hx hb dX13_count_99 ?_
          refine lv_istore_n (lv' := [(3, .int (I (u3 + 1))), (5, .int (I k0)), (0, .ref (q 0)), (1, .int (I u1)), (2, .int (I u2)), (4, .int (I u4))]) hx hb dX13_count_100 rfl hl (by decide) rfl (fun ls hl => ?_)
          refine lv_iinc (v := I (u4 + 1)) (lv' := [(4, .int (I (u4 + 1))), (3, .int (I (u3 + 1))), (5, .int (I k0)), (0, .ref (q 0)), (1, .int (I u1)), (2, .int (I u2))]) hx hb dX13_count_101 hl (k := 5) rfl (I_add _ _) (by decide) rfl (fun ls hl => ?_)
          refine lv_goto (tgt := 40) hx hb dX13_count_104 (by decide) ?_
          obtain ⟨c25, hw⟩ := hw
          obtain ⟨c26, hw⟩ := hw
          exact (hP40 _ _ _ _).mp hw r_u1 r_u2 c25 c26  H locs ls hP hD hS (lv_sub hl [3, 4, 5, 1, 0] rfl)
def W_X13_kind (n1 : Int) (σ : S0) (Q : Int → Prop) : Prop :=
  ∃ (Q1 : Int → Prop), W_X13_isStatement n1 σ Q1 ∧ ∀ (x2 : Int), rg x2 → Q1 x2 → ((x2 = 0 → Q (-1)) ∧ (¬ x2 = 0 → (0 ≤ n1 ∧ n1 < 1501) ∧ (∀ (x6 : Int), rg x6 → x6 = σ.2.1 13 n1 → (Q x6))))
set_option maxRecDepth 100000 in
set_option maxHeartbeats 4000000 in
theorem L_X13_kind (l : Launch) (g : gG) (q : Nat → Nat) (lb : Nat) (hlb : lb < 2 ^ 31) {n1 : Int} {σ : S0} {Q : Int → Prop} (r_n1 : rg n1) (hN : n_m σ) (hw : W_X13_kind n1 σ Q) (sz : Nat) : MetI l yX13_kind cX13_kind 2 (some .int) { frames := 2, cells := 0, slots := 0, locals := 46 } g [.ref (q 0), .int (I n1)] (MX g q lb σ) sz xT (p_i (MX g q lb) σ Q) 0 0 := by
  refine mkMet (Qc := fun A => QI g A (p_i (MX g q lb) σ Q)) (by decide) (Nat.le_of_ble_eq_true rfl) ?_
  intro p e s m below meth c A H ls hx hb hr hml hown hts hlk hnm hsz hP hK hNb hD hA hAe hS hX hl
  have hl : lv_has ls 2 [(0, .ref (q 0)), (1, .int (I n1))] := hl
  have hB := hN
  obtain ⟨locs, hlocs⟩ : ∃ z : List Loc, z = [] := ⟨_, rfl⟩
  rw [← hlocs] at hS ⊢
  refine lv_aload_n hx hb dX13_kind_0 rfl (lv_at hl 0 rfl) ?_
  refine lv_iload_n hx hb dX13_kind_1 rfl (lv_at hl 1 rfl) ?_
  obtain ⟨Q1, hc, hw⟩ := hw
  refine wc_i (X := MX g q lb) (va_runV (As := [.int (I n1)]) (rest := []) ⟨hx, hb, hml, hown, hts⟩ (L_X13_isStatement l g q lb hlb r_n1 hN hc H.size) (cwV 1 hts (TB_V tw_2803 tw_2805 ts_161 tw_15 co_X13_isStatement) rfl rfl rfl (by decide +kernel) ⟨Nat.le_of_ble_eq_true rfl, Nat.le_of_ble_eq_true rfl⟩) (preV (q0 := 0) (ci := 13) rfl xT_bl hP hK hNb hD rfl rfl xT_at) rfl rfl hl.1 rfl (lv_room (Nat.le_of_ble_eq_true rfl)) dX13_kind_2 ⟨Nat.le_of_ble_eq_true rfl, Nat.le_of_ble_eq_true rfl⟩) hP hD hS hA (fun x2 H locs r_x2 hq hP hD hS => ?_)
  replace hw := hw x2 r_x2 hq
  refine bi_if_eq (tgt := 17) hx hb r_x2 dX13_kind_5 (by decide) (fun c4 => ?_) (fun c4 => ?_)
  ·
    replace hw := hw.1 c4
    refine lv_iconst (v := I (-1)) hx hb dX13_kind_17 rfl ?_
    exact xri hx hb hr hlk hP hK hD hS ⟨_, (by decide), rfl, rfl, hw⟩ (Nat.le_of_ble_eq_true rfl) (Nat.le_of_ble_eq_true rfl) dX13_kind_18
  ·
    replace hw := hw.2 c4
    refine lv_aload_n hx hb dX13_kind_8 rfl (lv_at hl 0 rfl) ?_
    refine gfX13_kindOf hx hb hts hK hP hown (hts _ tw_2025) dX13_kind_9 ?_
    refine lv_iload_n hx hb dX13_kind_12 rfl (lv_at hl 1 rfl) ?_
    obtain ⟨c5, hw⟩ := hw
    refine ldMX13_kindOf hx hb hK hP hN c5 dX13_kind_13 (fun x6 r_x6 e_x6 => ?_)
    replace hw := hw x6 r_x6 e_x6
    refine lv_goto (tgt := 18) hx hb dX13_kind_14 (by decide) ?_
    exact xri hx hb hr hlk hP hK hD hS ⟨_, r_x6, rfl, rfl, hw⟩ (Nat.le_of_ble_eq_true rfl) (Nat.le_of_ble_eq_true rfl) dX13_kind_18
def W_X13_length (n1 : Int) (σ : S0) (Q : Int → Prop) : Prop :=
  ∃ (Q1 : Int → Prop), W_X13_isStatement n1 σ Q1 ∧ ∀ (x2 : Int), rg x2 → Q1 x2 → ((x2 = 0 → Q (-1)) ∧ (¬ x2 = 0 → (0 ≤ n1 ∧ n1 < 1501) ∧ (∀ (x6 : Int), rg x6 → x6 = σ.2.1 15 n1 → (Q x6))))
set_option maxRecDepth 100000 in
set_option maxHeartbeats 4000000 in
theorem L_X13_length (l : Launch) (g : gG) (q : Nat → Nat) (lb : Nat) (hlb : lb < 2 ^ 31) {n1 : Int} {σ : S0} {Q : Int → Prop} (r_n1 : rg n1) (hN : n_m σ) (hw : W_X13_length n1 σ Q) (sz : Nat) : MetI l yX13_length cX13_length 2 (some .int) { frames := 2, cells := 0, slots := 0, locals := 46 } g [.ref (q 0), .int (I n1)] (MX g q lb σ) sz xT (p_i (MX g q lb) σ Q) 0 0 := by
  refine mkMet (Qc := fun A => QI g A (p_i (MX g q lb) σ Q)) (by decide) (Nat.le_of_ble_eq_true rfl) ?_
  intro p e s m below meth c A H ls hx hb hr hml hown hts hlk hnm hsz hP hK hNb hD hA hAe hS hX hl
  have hl : lv_has ls 2 [(0, .ref (q 0)), (1, .int (I n1))] := hl
  have hB := hN
  obtain ⟨locs, hlocs⟩ : ∃ z : List Loc, z = [] := ⟨_, rfl⟩
  rw [← hlocs] at hS ⊢
  refine lv_aload_n hx hb dX13_length_0 rfl (lv_at hl 0 rfl) ?_
  refine lv_iload_n hx hb dX13_length_1 rfl (lv_at hl 1 rfl) ?_
  obtain ⟨Q1, hc, hw⟩ := hw
  refine wc_i (X := MX g q lb) (va_runV (As := [.int (I n1)]) (rest := []) ⟨hx, hb, hml, hown, hts⟩ (L_X13_isStatement l g q lb hlb r_n1 hN hc H.size) (cwV 1 hts (TB_V tw_2803 tw_2805 ts_161 tw_15 co_X13_isStatement) rfl rfl rfl (by decide +kernel) ⟨Nat.le_of_ble_eq_true rfl, Nat.le_of_ble_eq_true rfl⟩) (preV (q0 := 0) (ci := 13) rfl xT_bl hP hK hNb hD rfl rfl xT_at) rfl rfl hl.1 rfl (lv_room (Nat.le_of_ble_eq_true rfl)) dX13_length_2 ⟨Nat.le_of_ble_eq_true rfl, Nat.le_of_ble_eq_true rfl⟩) hP hD hS hA (fun x2 H locs r_x2 hq hP hD hS => ?_)
  replace hw := hw x2 r_x2 hq
  refine bi_if_eq (tgt := 17) hx hb r_x2 dX13_length_5 (by decide) (fun c4 => ?_) (fun c4 => ?_)
  ·
    replace hw := hw.1 c4
    refine lv_iconst (v := I (-1)) hx hb dX13_length_17 rfl ?_
    exact xri hx hb hr hlk hP hK hD hS ⟨_, (by decide), rfl, rfl, hw⟩ (Nat.le_of_ble_eq_true rfl) (Nat.le_of_ble_eq_true rfl) dX13_length_18
  ·
    replace hw := hw.2 c4
    refine lv_aload_n hx hb dX13_length_8 rfl (lv_at hl 0 rfl) ?_
    refine gfX13_textSize hx hb hts hK hP hown (hts _ tw_2027) dX13_length_9 ?_
    refine lv_iload_n hx hb dX13_length_12 rfl (lv_at hl 1 rfl) ?_
    obtain ⟨c5, hw⟩ := hw
    refine ldMX13_textSize hx hb hK hP hN c5 dX13_length_13 (fun x6 r_x6 e_x6 => ?_)
    replace hw := hw x6 r_x6 e_x6
    refine lv_goto (tgt := 18) hx hb dX13_length_14 (by decide) ?_
    exact xri hx hb hr hlk hP hK hD hS ⟨_, r_x6, rfl, rfl, hw⟩ (Nat.le_of_ble_eq_true rfl) (Nat.le_of_ble_eq_true rfl) dX13_length_18
def W_X13_symbol (n1 : Int) (n2 : Int) (σ : S0) (Q : Int → Prop) : Prop :=
  ∃ (Q1 : Int → Prop), W_X13_isStatement n1 σ Q1 ∧ ∀ (x2 : Int), rg x2 → Q1 x2 → ((x2 = 0 → Q (-1)) ∧ (¬ x2 = 0 → (0 ≤ n1 ∧ n1 < 1501) ∧ (∀ (x6 : Int), rg x6 → x6 = σ.2.1 15 n1 → (rg (x6 - 1) ∧ ∃ (Q8 : Int → Prop), W_X13_isIn (j_of n2) 0 (j_of (x6 - 1)) σ Q8 ∧ ∀ (x9 : Int), rg x9 → Q8 x9 → ((x9 = 0 → Q (-1)) ∧ (¬ x9 = 0 → ∀ (x12 : Int), rg x12 → x12 = σ.2.1 14 n1 → ((0 ≤ (x12 + n2) ∧ (x12 + n2) < 30400) ∧ (∀ (x14 : Int), rg x14 → x14 = σ.2.1 16 (x12 + n2) → (Q x14)))))))))
set_option maxRecDepth 100000 in
set_option maxHeartbeats 4000000 in
theorem L_X13_symbol (l : Launch) (g : gG) (q : Nat → Nat) (lb : Nat) (hlb : lb < 2 ^ 31) {n1 : Int} {n2 : Int} {σ : S0} {Q : Int → Prop} (r_n1 : rg n1) (r_n2 : rg n2) (hN : n_m σ) (hw : W_X13_symbol n1 n2 σ Q) (sz : Nat) : MetI l yX13_symbol cX13_symbol 3 (some .int) { frames := 2, cells := 0, slots := 0, locals := 46 } g [.ref (q 0), .int (I n1), .int (I n2)] (MX g q lb σ) sz xT (p_i (MX g q lb) σ Q) 0 0 := by
  refine mkMet (Qc := fun A => QI g A (p_i (MX g q lb) σ Q)) (by decide) (Nat.le_of_ble_eq_true rfl) ?_
  intro p e s m below meth c A H ls hx hb hr hml hown hts hlk hnm hsz hP hK hNb hD hA hAe hS hX hl
  have hl : lv_has ls 3 [(0, .ref (q 0)), (1, .int (I n1)), (2, .int (I n2))] := hl
  have hB := hN
  obtain ⟨locs, hlocs⟩ : ∃ z : List Loc, z = [] := ⟨_, rfl⟩
  rw [← hlocs] at hS ⊢
  refine lv_aload_n hx hb dX13_symbol_0 rfl (lv_at hl 0 rfl) ?_
  refine lv_iload_n hx hb dX13_symbol_1 rfl (lv_at hl 1 rfl) ?_
  obtain ⟨Q1, hc, hw⟩ := hw
  refine wc_i (X := MX g q lb) (va_runV (As := [.int (I n1)]) (rest := []) ⟨hx, hb, hml, hown, hts⟩ (L_X13_isStatement l g q lb hlb r_n1 hN hc H.size) (cwV 1 hts (TB_V tw_2803 tw_2805 ts_161 tw_15 co_X13_isStatement) rfl rfl rfl (by decide +kernel) ⟨Nat.le_of_ble_eq_true rfl, Nat.le_of_ble_eq_true rfl⟩) (preV (q0 := 0) (ci := 13) rfl xT_bl hP hK hNb hD rfl rfl xT_at) rfl rfl hl.1 rfl (lv_room (Nat.le_of_ble_eq_true rfl)) dX13_symbol_2 ⟨Nat.le_of_ble_eq_true rfl, Nat.le_of_ble_eq_true rfl⟩) hP hD hS hA (fun x2 H locs r_x2 hq hP hD hS => ?_)
  replace hw := hw x2 r_x2 hq
  refine bi_if_eq (tgt := 42) hx hb r_x2 dX13_symbol_5 (by decide) (fun c4 => ?_) (fun c4 => ?_)
  ·
    replace hw := hw.1 c4
    refine lv_iconst (v := I (-1)) hx hb dX13_symbol_42 rfl ?_
    exact xri hx hb hr hlk hP hK hD hS ⟨_, (by decide), rfl, rfl, hw⟩ (Nat.le_of_ble_eq_true rfl) (Nat.le_of_ble_eq_true rfl) dX13_symbol_43
  ·
    replace hw := hw.2 c4
    refine lv_iload_n hx hb dX13_symbol_8 rfl (lv_at hl 2 rfl) ?_
    refine bi_i2l hx hb r_n2 dX13_symbol_9 ?_
    refine lv_lconst (v := 0) hx hb dX13_symbol_10 (by decide) ?_
    refine lv_aload_n hx hb dX13_symbol_11 rfl (lv_at hl 0 rfl) ?_
    refine gfX13_textSize hx hb hts hK hP hown (hts _ tw_2027) dX13_symbol_12 ?_
    refine lv_iload_n hx hb dX13_symbol_15 rfl (lv_at hl 1 rfl) ?_
    obtain ⟨c5, hw⟩ := hw
    refine ldMX13_textSize hx hb hK hP hN c5 dX13_symbol_16 (fun x6 r_x6 e_x6 => ?_)
    replace hw := hw x6 r_x6 e_x6
    refine lv_iconst (v := I 1) hx hb dX13_symbol_17 rfl ?_
    refine bi_isub hx hb dX13_symbol_18 ?_
    obtain ⟨c7, hw⟩ := hw
    refine bi_i2l hx hb c7 dX13_symbol_19 ?_
    obtain ⟨Q8, hc, hw⟩ := hw
    refine wc_i (X := MX g q lb) (va_runS (As := [.long (j_of n2), .long 0, .long (j_of (x6 - 1))]) (rest := []) ⟨hx, hb, hml, hown, hts⟩ (L_X13_isIn l g q lb hlb  hN hc H.size) (cwS 3 hts (TB_S tw_2525 tw_2526 tw_15 co_X13_isIn) rfl rfl rfl (by decide +kernel) ⟨Nat.le_of_ble_eq_true rfl, Nat.le_of_ble_eq_true rfl⟩) (preS xT_bl hP hK hNb hD xT_at) rfl rfl hl.1 rfl (lv_room (Nat.le_of_ble_eq_true rfl)) dX13_symbol_20 ⟨Nat.le_of_ble_eq_true rfl, Nat.le_of_ble_eq_true rfl⟩) hP hD hS hA (fun x9 H locs r_x9 hq hP hD hS => ?_)
    replace hw := hw x9 r_x9 hq
    refine bi_if_eq (tgt := 42) hx hb r_x9 dX13_symbol_23 (by decide) (fun c11 => ?_) (fun c11 => ?_)
    ·
      replace hw := hw.1 c11
      refine lv_iconst (v := I (-1)) hx hb dX13_symbol_42 rfl ?_
      exact xri hx hb hr hlk hP hK hD hS ⟨_, (by decide), rfl, rfl, hw⟩ (Nat.le_of_ble_eq_true rfl) (Nat.le_of_ble_eq_true rfl) dX13_symbol_43
    ·
      replace hw := hw.2 c11
      refine lv_aload_n hx hb dX13_symbol_26 rfl (lv_at hl 0 rfl) ?_
      refine gfX13_texts hx hb hts hK hP hown (hts _ tw_2028) dX13_symbol_27 ?_
      refine lv_aload_n hx hb dX13_symbol_30 rfl (lv_at hl 0 rfl) ?_
      refine gfX13_textAt hx hb hts hK hP hown (hts _ tw_2026) dX13_symbol_31 ?_
      refine lv_iload_n hx hb dX13_symbol_34 rfl (lv_at hl 1 rfl) ?_
      refine ldMX13_textAt hx hb hK hP hN c5 dX13_symbol_35 (fun x12 r_x12 e_x12 => ?_)
      replace hw := hw x12 r_x12 e_x12
      refine lv_iload_n hx hb dX13_symbol_36 rfl (lv_at hl 2 rfl) ?_
      refine bi_iadd hx hb dX13_symbol_37 ?_
      obtain ⟨c13, hw⟩ := hw
      refine ldMX13_texts hx hb hK hP hN c13 dX13_symbol_38 (fun x14 r_x14 e_x14 => ?_)
      replace hw := hw x14 r_x14 e_x14
      refine lv_goto (tgt := 43) hx hb dX13_symbol_39 (by decide) ?_
      exact xri hx hb hr hlk hP hK hD hS ⟨_, r_x14, rfl, rfl, hw⟩ (Nat.le_of_ble_eq_true rfl) (Nat.le_of_ble_eq_true rfl) dX13_symbol_43
def W_X13_variable (n1 : Int) (σ : S0) (Q : Int → Prop) : Prop :=
  rg (σ.1 3 - 1) ∧ ∃ (Q2 : Int → Prop), W_X13_isIn (j_of n1) 0 (j_of (σ.1 3 - 1)) σ Q2 ∧ ∀ (x3 : Int), rg x3 → Q2 x3 → ((¬ x3 = 0 → (0 ≤ n1 ∧ n1 < 1001) ∧ (∀ (x7 : Int), rg x7 → x7 = σ.2.1 8 n1 → ((x7 = 0 → Q 0) ∧ (¬ x7 = 0 → Q 1)))) ∧ (x3 = 0 → Q (-1)))
set_option maxRecDepth 100000 in
set_option maxHeartbeats 4000000 in
theorem L_X13_variable (l : Launch) (g : gG) (q : Nat → Nat) (lb : Nat) (hlb : lb < 2 ^ 31) {n1 : Int} {σ : S0} {Q : Int → Prop} (r_n1 : rg n1) (hN : n_m σ) (hw : W_X13_variable n1 σ Q) (sz : Nat) : MetI l yX13_variable cX13_variable 2 (some .int) { frames := 1, cells := 0, slots := 0, locals := 25 } g [.ref (q 0), .int (I n1)] (MX g q lb σ) sz xT (p_i (MX g q lb) σ Q) 0 0 := by
  refine mkMet (Qc := fun A => QI g A (p_i (MX g q lb) σ Q)) (by decide) (Nat.le_of_ble_eq_true rfl) ?_
  intro p e s m below meth c A H ls hx hb hr hml hown hts hlk hnm hsz hP hK hNb hD hA hAe hS hX hl
  have hl : lv_has ls 2 [(0, .ref (q 0)), (1, .int (I n1))] := hl
  have hB := hN
  obtain ⟨locs, hlocs⟩ : ∃ z : List Loc, z = [] := ⟨_, rfl⟩
  rw [← hlocs] at hS ⊢
  refine lv_iload_n hx hb dX13_variable_0 rfl (lv_at hl 1 rfl) ?_
  refine bi_i2l hx hb r_n1 dX13_variable_1 ?_
  refine lv_lconst (v := 0) hx hb dX13_variable_2 (by decide) ?_
  refine lv_aload_n hx hb dX13_variable_3 rfl (lv_at hl 0 rfl) ?_
  refine gfX13_symbols hx hb hts hK hP hown (hts _ tw_2013) (x := σ.1 3) rfl dX13_variable_4 ?_
  refine lv_iconst (v := I 1) hx hb dX13_variable_7 rfl ?_
  refine bi_isub hx hb dX13_variable_8 ?_
  obtain ⟨c1, hw⟩ := hw
  refine bi_i2l hx hb c1 dX13_variable_9 ?_
  obtain ⟨Q2, hc, hw⟩ := hw
  refine wc_i (X := MX g q lb) (va_runS (As := [.long (j_of n1), .long 0, .long (j_of (σ.1 3 - 1))]) (rest := []) ⟨hx, hb, hml, hown, hts⟩ (L_X13_isIn l g q lb hlb  hN hc H.size) (cwS 3 hts (TB_S tw_2525 tw_2526 tw_15 co_X13_isIn) rfl rfl rfl (by decide +kernel) ⟨Nat.le_of_ble_eq_true rfl, Nat.le_of_ble_eq_true rfl⟩) (preS xT_bl hP hK hNb hD xT_at) rfl rfl hl.1 rfl (lv_room (Nat.le_of_ble_eq_true rfl)) dX13_variable_10 ⟨Nat.le_of_ble_eq_true rfl, Nat.le_of_ble_eq_true rfl⟩) hP hD hS hA (fun x3 H locs r_x3 hq hP hD hS => ?_)
  replace hw := hw x3 r_x3 hq
  refine bi_if_ne (tgt := 20) hx hb r_x3 dX13_variable_13 (by decide) (fun c5 => ?_) (fun c5 => ?_)
  ·
    replace hw := hw.1 c5
    refine lv_aload_n hx hb dX13_variable_20 rfl (lv_at hl 0 rfl) ?_
    refine gfX13_isVariable hx hb hts hK hP hown (hts _ tw_2018) dX13_variable_21 ?_
    refine lv_iload_n hx hb dX13_variable_24 rfl (lv_at hl 1 rfl) ?_
    obtain ⟨c6, hw⟩ := hw
    refine ldMX13_isVariable hx hb hK hP hN c6 dX13_variable_25 (fun x7 r_x7 e_x7 => ?_)
    replace hw := hw x7 r_x7 e_x7
    refine bi_if_eq (tgt := 33) hx hb r_x7 dX13_variable_26 (by decide) (fun c8 => ?_) (fun c8 => ?_)
    ·
      replace hw := hw.1 c8
      refine lv_iconst (v := I 0) hx hb dX13_variable_33 rfl ?_
      exact xri hx hb hr hlk hP hK hD hS ⟨_, (by decide), rfl, rfl, hw⟩ (Nat.le_of_ble_eq_true rfl) (Nat.le_of_ble_eq_true rfl) dX13_variable_34
    ·
      replace hw := hw.2 c8
      refine lv_iconst (v := I 1) hx hb dX13_variable_29 rfl ?_
      refine lv_goto (tgt := 34) hx hb dX13_variable_30 (by decide) ?_
      exact xri hx hb hr hlk hP hK hD hS ⟨_, (by decide), rfl, rfl, hw⟩ (Nat.le_of_ble_eq_true rfl) (Nat.le_of_ble_eq_true rfl) dX13_variable_34
  ·
    replace hw := hw.2 c5
    refine lv_iconst (v := I (-1)) hx hb dX13_variable_16 rfl ?_
    refine lv_goto (tgt := 34) hx hb dX13_variable_17 (by decide) ?_
    exact xri hx hb hr hlk hP hK hD hS ⟨_, (by decide), rfl, rfl, hw⟩ (Nat.le_of_ble_eq_true rfl) (Nat.le_of_ble_eq_true rfl) dX13_variable_34
def W_X13_rowFrom (n1 : Int) (σ : S0) (Q : Int → S0 → Prop) : Prop :=
  ∀ (P5 : S0 → Prop) (P44 : S0 → Prop) (P52 : S0 → Prop) (P91 : S0 → Prop),
  (∀ (τ : S0), ((τ.1 0 ≤ τ.1 16 → P44 τ) ∧ (τ.1 16 < τ.1 0 → (0 ≤ τ.1 16 ∧ τ.1 16 < 60000) ∧ (∀ (x3 : Int), rg x3 → x3 = τ.2.1 0 (τ.1 16) → (∃ (Q4 : Int → Prop), W_X13_isBlank x3 τ Q4 ∧ ∀ (x5 : Int), rg x5 → Q4 x5 → ((x5 = 0 → P44 τ) ∧ (¬ x5 = 0 → rg (τ.1 16 + 1) ∧ P5 (s_v τ 16 (τ.1 16 + 1)))))))) → P5 τ) →
  (∀ (τ : S0), (P52 (s_v τ 17 (τ.1 16))) → P44 τ) →
  (∀ (τ : S0), ((τ.1 0 ≤ τ.1 16 → P91 τ) ∧ (τ.1 16 < τ.1 0 → (0 ≤ τ.1 16 ∧ τ.1 16 < 60000) ∧ (∀ (x11 : Int), rg x11 → x11 = τ.2.1 0 (τ.1 16) → (∃ (Q12 : Int → Prop), W_X13_isSign x11 τ Q12 ∧ ∀ (x13 : Int), rg x13 → Q12 x13 → ((x13 = 0 → P91 τ) ∧ (¬ x13 = 0 → rg (τ.1 16 + 1) ∧ P52 (s_v τ 16 (τ.1 16 + 1)))))))) → P52 τ) →
  (∀ (τ : S0), (rg (τ.1 16 - τ.1 17) ∧ ((τ.1 16 - τ.1 17) ≤ 0 → (τ.1 0 ≤ τ.1 16 → Q 0 (s_v τ 18 (τ.1 16 - τ.1 17))) ∧ (τ.1 16 < τ.1 0 → Q (-1) (s_v τ 18 (τ.1 16 - τ.1 17)))) ∧ (0 < (τ.1 16 - τ.1 17) → Q 1 (s_v τ 18 (τ.1 16 - τ.1 17)))) → P91 τ) →
  P5 (s_v σ 16 n1)
set_option maxRecDepth 100000 in
set_option maxHeartbeats 4000000 in
theorem L_X13_rowFrom (l : Launch) (g : gG) (q : Nat → Nat) (lb : Nat) (hlb : lb < 2 ^ 31) {n1 : Int} {σ : S0} {Q : Int → S0 → Prop} (r_n1 : rg n1) (hN : n_m σ) (hw : W_X13_rowFrom n1 σ Q) (sz : Nat) : MetI l yX13_rowFrom cX13_rowFrom 2 (some .int) { frames := 1, cells := 0, slots := 0, locals := 20 } g [.ref (q 0), .int (I n1)] (MX g q lb σ) sz xT (p_I (MX g q lb) [16, 17, 18] [] [] σ Q) 0 0 := by
  refine mkMet (Qc := fun A => QI g A (p_I (MX g q lb) [16, 17, 18] [] [] σ Q)) (by decide) (Nat.le_of_ble_eq_true rfl) ?_
  intro p e s m below meth c A H ls hx hb hr hml hown hts hlk hnm hsz hP hK hNb hD hA hAe hS hX hl
  have hl : lv_has ls 2 [(0, .ref (q 0)), (1, .int (I n1))] := hl
  have hB := hN
  have hF : f_r [16, 17, 18] [] [] σ σ := f_0
  obtain ⟨locs, hlocs⟩ : ∃ z : List Loc, z = [] := ⟨_, rfl⟩
  rw [← hlocs] at hS ⊢
  obtain ⟨P5, hP5⟩ : ∃ P : S0 → Prop, ∀ (τ : S0), (P τ ↔ (n_m τ → f_r [16, 17, 18] [] [] σ τ → ∀ (H : Heap) (locs : List Loc) (ls : Array Slot), KP g (MX g q lb τ) H → va_D A (MX g q lb τ) → va_S A s.heap H locs → lv_has ls 2 [(0, .ref (q 0))] → W p l e ({ frames := 1, cells := 0, slots := 0, locals := 20 }) s m [.ref (q 0), .int (I n1)].toArray below meth c H locs 0 0 (MQ below (QI g A (p_I (MX g q lb) [16, 17, 18] [] [] σ Q)) [.ref (q 0), .int (I n1)].toArray s 0 0 A) (F0 m 5 ls []))) := ⟨_, fun _ => Iff.rfl⟩
  obtain ⟨P44, hP44⟩ : ∃ P : S0 → Prop, ∀ (τ : S0), (P τ ↔ (n_m τ → f_r [16, 17, 18] [] [] σ τ → ∀ (H : Heap) (locs : List Loc) (ls : Array Slot), KP g (MX g q lb τ) H → va_D A (MX g q lb τ) → va_S A s.heap H locs → lv_has ls 2 [(0, .ref (q 0))] → W p l e ({ frames := 1, cells := 0, slots := 0, locals := 20 }) s m [.ref (q 0), .int (I n1)].toArray below meth c H locs 0 0 (MQ below (QI g A (p_I (MX g q lb) [16, 17, 18] [] [] σ Q)) [.ref (q 0), .int (I n1)].toArray s 0 0 A) (F0 m 44 ls []))) := ⟨_, fun _ => Iff.rfl⟩
  obtain ⟨P52, hP52⟩ : ∃ P : S0 → Prop, ∀ (τ : S0), (P τ ↔ (n_m τ → f_r [16, 17, 18] [] [] σ τ → ∀ (H : Heap) (locs : List Loc) (ls : Array Slot), KP g (MX g q lb τ) H → va_D A (MX g q lb τ) → va_S A s.heap H locs → lv_has ls 2 [(0, .ref (q 0))] → W p l e ({ frames := 1, cells := 0, slots := 0, locals := 20 }) s m [.ref (q 0), .int (I n1)].toArray below meth c H locs 0 0 (MQ below (QI g A (p_I (MX g q lb) [16, 17, 18] [] [] σ Q)) [.ref (q 0), .int (I n1)].toArray s 0 0 A) (F0 m 52 ls []))) := ⟨_, fun _ => Iff.rfl⟩
  obtain ⟨P91, hP91⟩ : ∃ P : S0 → Prop, ∀ (τ : S0), (P τ ↔ (n_m τ → f_r [16, 17, 18] [] [] σ τ → ∀ (H : Heap) (locs : List Loc) (ls : Array Slot), KP g (MX g q lb τ) H → va_D A (MX g q lb τ) → va_S A s.heap H locs → lv_has ls 2 [(0, .ref (q 0))] → W p l e ({ frames := 1, cells := 0, slots := 0, locals := 20 }) s m [.ref (q 0), .int (I n1)].toArray below meth c H locs 0 0 (MQ below (QI g A (p_I (MX g q lb) [16, 17, 18] [] [] σ Q)) [.ref (q 0), .int (I n1)].toArray s 0 0 A) (F0 m 91 ls []))) := ⟨_, fun _ => Iff.rfl⟩
  refine (fun hw => ?_) (hw P5 P44 P52 P91 ?_ ?_ ?_ ?_)
  ·
    refine lv_aload_n hx hb dX13_rowFrom_0 rfl (lv_at hl 0 rfl) ?_
    refine lv_iload_n hx hb dX13_rowFrom_1 rfl (lv_at hl 1 rfl) ?_
    refine pfX13_at hx hb hts hK hP hD hS hown (hts _ tw_2061) dX13_rowFrom_2 (fun H locs hP hD hS => ?_)
    have hN : n_m (s_v σ 16 n1) := n_v (i := 16) hN (r_n1 : rg n1)
    have hF : f_r [16, 17, 18] [] [] σ (s_v σ 16 n1) := f_v hF (by decide)
    exact (hP5 _).mp hw hN hF H locs ls hP hD hS (lv_sub hl [0] rfl)
  ·
    intro τ hw
    refine (hP5 _).mpr ?_
    intro hN hF H locs ls hP hD hS hl
    have hB := hN
    refine lv_aload_n hx hb dX13_rowFrom_5 rfl (lv_at hl 0 rfl) ?_
    refine gfX13_at hx hb hts hK hP hown (hts _ tw_2061) (x := τ.1 16) rfl dX13_rowFrom_6 ?_
    refine lv_aload_n hx hb dX13_rowFrom_9 rfl (lv_at hl 0 rfl) ?_
    refine gfX13_tapeSize hx hb hts hK hP hown (hts _ tw_2007) (x := τ.1 0) rfl dX13_rowFrom_10 ?_
    refine bi_icmp_ge (tgt := 44) hx hb (hB.1 16) (hB.1 0) dX13_rowFrom_13 (by decide) (fun c1 => ?_) (fun c1 => ?_)
    ·
      replace hw := hw.1 c1
      exact (hP44 _).mp hw hN hF H locs ls hP hD hS (lv_sub hl [0] rfl)
    ·
      replace hw := hw.2 c1
      refine lv_aload_n hx hb dX13_rowFrom_16 rfl (lv_at hl 0 rfl) ?_
      refine gfX13_tape hx hb hts hK hP hown (hts _ tw_2006) dX13_rowFrom_17 ?_
      refine lv_aload_n hx hb dX13_rowFrom_20 rfl (lv_at hl 0 rfl) ?_
      refine gfX13_at hx hb hts hK hP hown (hts _ tw_2061) (x := τ.1 16) rfl dX13_rowFrom_21 ?_
      obtain ⟨c2, hw⟩ := hw
      refine ldMX13_tape hx hb hK hP hN c2 dX13_rowFrom_24 (fun x3 r_x3 e_x3 => ?_)
      replace hw := hw x3 r_x3 e_x3
      obtain ⟨Q4, hc, hw⟩ := hw
      refine wc_i (X := MX g q lb) (va_runS (As := [.int (I x3)]) (rest := []) ⟨hx, hb, hml, hown, hts⟩ (L_X13_isBlank l g q lb hlb r_x3 hN hc H.size) (cwS 1 hts (TB_S tw_2544 tw_2545 tw_15 co_X13_isBlank) rfl rfl rfl (by decide +kernel) ⟨Nat.le_of_ble_eq_true rfl, Nat.le_of_ble_eq_true rfl⟩) (preS xT_bl hP hK hNb hD xT_at) rfl rfl hl.1 rfl (lv_room (Nat.le_of_ble_eq_true rfl)) dX13_rowFrom_25 ⟨Nat.le_of_ble_eq_true rfl, Nat.le_of_ble_eq_true rfl⟩) hP hD hS hA (fun x5 H locs r_x5 hq hP hD hS => ?_)
      replace hw := hw x5 r_x5 hq
      refine bi_if_eq (tgt := 44) hx hb r_x5 dX13_rowFrom_28 (by decide) (fun c7 => ?_) (fun c7 => ?_)
      ·
        replace hw := hw.1 c7
        exact (hP44 _).mp hw hN hF H locs ls hP hD hS (lv_sub hl [0] rfl)
      ·
        replace hw := hw.2 c7
        refine lv_aload_n hx hb dX13_rowFrom_31 rfl (lv_at hl 0 rfl) ?_
        refine lv_dup hx hb dX13_rowFrom_32 rfl ?_
        refine gfX13_at hx hb hts hK hP hown (hts _ tw_2061) (x := τ.1 16) rfl dX13_rowFrom_33 ?_
        refine lv_iconst (v := I 1) hx hb dX13_rowFrom_36 rfl ?_
        refine bi_iadd hx hb dX13_rowFrom_37 ?_
        obtain ⟨c8, hw⟩ := hw
        refine pfX13_at hx hb hts hK hP hD hS hown (hts _ tw_2061) dX13_rowFrom_38 (fun H locs hP hD hS => ?_)
        have hN : n_m (s_v τ 16 (τ.1 16 + 1)) := n_v (i := 16) hN (c8 : rg (τ.1 16 + 1))
        have hF : f_r [16, 17, 18] [] [] σ (s_v τ 16 (τ.1 16 + 1)) := f_v hF (by decide)
        refine lv_goto (tgt := 5) hx hb dX13_rowFrom_41 (by decide) ?_
        exact (hP5 _).mp hw hN hF H locs ls hP hD hS (lv_sub hl [0] rfl)
  ·
    intro τ hw
    refine (hP44 _).mpr ?_
    intro hN hF H locs ls hP hD hS hl
    have hB := hN
    refine lv_aload_n hx hb dX13_rowFrom_44 rfl (lv_at hl 0 rfl) ?_
    refine lv_aload_n hx hb dX13_rowFrom_45 rfl (lv_at hl 0 rfl) ?_
    refine gfX13_at hx hb hts hK hP hown (hts _ tw_2061) (x := τ.1 16) rfl dX13_rowFrom_46 ?_
    refine pfX13_tokenAt hx hb hts hK hP hD hS hown (hts _ tw_2062) dX13_rowFrom_49 (fun H locs hP hD hS => ?_)
    have hN : n_m (s_v τ 17 (τ.1 16)) := n_v (i := 17) hN ((hB.1 16) : rg (τ.1 16))
    have hF : f_r [16, 17, 18] [] [] σ (s_v τ 17 (τ.1 16)) := f_v hF (by decide)
    exact (hP52 _).mp hw hN hF H locs ls hP hD hS (lv_sub hl [0] rfl)
  ·
    intro τ hw
    refine (hP52 _).mpr ?_
    intro hN hF H locs ls hP hD hS hl
    have hB := hN
    refine lv_aload_n hx hb dX13_rowFrom_52 rfl (lv_at hl 0 rfl) ?_
    refine gfX13_at hx hb hts hK hP hown (hts _ tw_2061) (x := τ.1 16) rfl dX13_rowFrom_53 ?_
    refine lv_aload_n hx hb dX13_rowFrom_56 rfl (lv_at hl 0 rfl) ?_
    refine gfX13_tapeSize hx hb hts hK hP hown (hts _ tw_2007) (x := τ.1 0) rfl dX13_rowFrom_57 ?_
    refine bi_icmp_ge (tgt := 91) hx hb (hB.1 16) (hB.1 0) dX13_rowFrom_60 (by decide) (fun c9 => ?_) (fun c9 => ?_)
    ·
      replace hw := hw.1 c9
      exact (hP91 _).mp hw hN hF H locs ls hP hD hS (lv_sub hl [0] rfl)
    ·
      replace hw := hw.2 c9
      refine lv_aload_n hx hb dX13_rowFrom_63 rfl (lv_at hl 0 rfl) ?_
      refine gfX13_tape hx hb hts hK hP hown (hts _ tw_2006) dX13_rowFrom_64 ?_
      refine lv_aload_n hx hb dX13_rowFrom_67 rfl (lv_at hl 0 rfl) ?_
      refine gfX13_at hx hb hts hK hP hown (hts _ tw_2061) (x := τ.1 16) rfl dX13_rowFrom_68 ?_
      obtain ⟨c10, hw⟩ := hw
      refine ldMX13_tape hx hb hK hP hN c10 dX13_rowFrom_71 (fun x11 r_x11 e_x11 => ?_)
      replace hw := hw x11 r_x11 e_x11
      obtain ⟨Q12, hc, hw⟩ := hw
      refine wc_i (X := MX g q lb) (va_runS (As := [.int (I x11)]) (rest := []) ⟨hx, hb, hml, hown, hts⟩ (L_X13_isSign l g q lb hlb r_x11 hN hc H.size) (cwS 1 hts (TB_S tw_2547 tw_2548 tw_15 co_X13_isSign) rfl rfl rfl (by decide +kernel) ⟨Nat.le_of_ble_eq_true rfl, Nat.le_of_ble_eq_true rfl⟩) (preS xT_bl hP hK hNb hD xT_at) rfl rfl hl.1 rfl (lv_room (Nat.le_of_ble_eq_true rfl)) dX13_rowFrom_72 ⟨Nat.le_of_ble_eq_true rfl, Nat.le_of_ble_eq_true rfl⟩) hP hD hS hA (fun x13 H locs r_x13 hq hP hD hS => ?_)
      replace hw := hw x13 r_x13 hq
      refine bi_if_eq (tgt := 91) hx hb r_x13 dX13_rowFrom_75 (by decide) (fun c15 => ?_) (fun c15 => ?_)
      ·
        replace hw := hw.1 c15
        exact (hP91 _).mp hw hN hF H locs ls hP hD hS (lv_sub hl [0] rfl)
      ·
        replace hw := hw.2 c15
        refine lv_aload_n hx hb dX13_rowFrom_78 rfl (lv_at hl 0 rfl) ?_
        refine lv_dup hx hb dX13_rowFrom_79 rfl ?_
        refine gfX13_at hx hb hts hK hP hown (hts _ tw_2061) (x := τ.1 16) rfl dX13_rowFrom_80 ?_
        refine lv_iconst (v := I 1) hx hb dX13_rowFrom_83 rfl ?_
        refine bi_iadd hx hb dX13_rowFrom_84 ?_
        obtain ⟨c16, hw⟩ := hw
        refine pfX13_at hx hb hts hK hP hD hS hown (hts _ tw_2061) dX13_rowFrom_85 (fun H locs hP hD hS => ?_)
        have hN : n_m (s_v τ 16 (τ.1 16 + 1)) := n_v (i := 16) hN (c16 : rg (τ.1 16 + 1))
        have hF : f_r [16, 17, 18] [] [] σ (s_v τ 16 (τ.1 16 + 1)) := f_v hF (by decide)
        refine lv_goto (tgt := 52) hx hb dX13_rowFrom_88 (by decide) ?_
        exact (hP52 _).mp hw hN hF H locs ls hP hD hS (lv_sub hl [0] rfl)
  ·
    intro τ hw
    refine (hP91 _).mpr ?_
    intro hN hF H locs ls hP hD hS hl
    have hB := hN
    refine lv_aload_n hx hb dX13_rowFrom_91 rfl (lv_at hl 0 rfl) ?_
    refine lv_aload_n hx hb dX13_rowFrom_92 rfl (lv_at hl 0 rfl) ?_
    refine gfX13_at hx hb hts hK hP hown (hts _ tw_2061) (x := τ.1 16) rfl dX13_rowFrom_93 ?_
    refine lv_aload_n hx hb dX13_rowFrom_96 rfl (lv_at hl 0 rfl) ?_
    refine gfX13_tokenAt hx hb hts hK hP hown (hts _ tw_2062) (x := τ.1 17) rfl dX13_rowFrom_97 ?_
    refine bi_isub hx hb dX13_rowFrom_100 ?_
    obtain ⟨c17, hw⟩ := hw
    refine pfX13_tokenSize hx hb hts hK hP hD hS hown (hts _ tw_2063) dX13_rowFrom_101 (fun H locs hP hD hS => ?_)
    have hN : n_m (s_v τ 18 (τ.1 16 - τ.1 17)) := n_v (i := 18) hN (c17 : rg (τ.1 16 - τ.1 17))
    have hF : f_r [16, 17, 18] [] [] σ (s_v τ 18 (τ.1 16 - τ.1 17)) := f_v hF (by decide)
    refine lv_aload_n hx hb dX13_rowFrom_104 rfl (lv_at hl 0 rfl) ?_
    refine gfX13_tokenSize hx hb hts hK hP hown (hts _ tw_2063) (x := (τ.1 16 - τ.1 17)) rfl dX13_rowFrom_105 ?_
    refine bi_if_le (tgt := 115) hx hb c17 dX13_rowFrom_108 (by decide) (fun c18 => ?_) (fun c18 => ?_)
    ·
      replace hw := hw.1 c18
      refine lv_aload_n hx hb dX13_rowFrom_115 rfl (lv_at hl 0 rfl) ?_
      refine gfX13_at hx hb hts hK hP hown (hts _ tw_2061) (x := τ.1 16) rfl dX13_rowFrom_116 ?_
      refine lv_aload_n hx hb dX13_rowFrom_119 rfl (lv_at hl 0 rfl) ?_
      refine gfX13_tapeSize hx hb hts hK hP hown (hts _ tw_2007) (x := τ.1 0) rfl dX13_rowFrom_120 ?_
      refine bi_icmp_ge (tgt := 130) hx hb (hB.1 16) (hB.1 0) dX13_rowFrom_123 (by decide) (fun c19 => ?_) (fun c19 => ?_)
      ·
        replace hw := hw.1 c19
        refine lv_iconst (v := I 0) hx hb dX13_rowFrom_130 rfl ?_
        exact xri hx hb hr hlk hP hK hD hS ⟨_, _, (by decide), rfl, hN, hF, rfl, hw⟩ (Nat.le_of_ble_eq_true rfl) (Nat.le_of_ble_eq_true rfl) dX13_rowFrom_131
      ·
        replace hw := hw.2 c19
        refine lv_iconst (v := I (-1)) hx hb dX13_rowFrom_126 rfl ?_
        refine lv_goto (tgt := 131) hx hb dX13_rowFrom_127 (by decide) ?_
        exact xri hx hb hr hlk hP hK hD hS ⟨_, _, (by decide), rfl, hN, hF, rfl, hw⟩ (Nat.le_of_ble_eq_true rfl) (Nat.le_of_ble_eq_true rfl) dX13_rowFrom_131
    ·
      replace hw := hw.2 c18
      refine lv_iconst (v := I 1) hx hb dX13_rowFrom_111 rfl ?_
      refine lv_goto (tgt := 131) hx hb dX13_rowFrom_112 (by decide) ?_
      exact xri hx hb hr hlk hP hK hD hS ⟨_, _, (by decide), rfl, hN, hF, rfl, hw⟩ (Nat.le_of_ble_eq_true rfl) (Nat.le_of_ble_eq_true rfl) dX13_rowFrom_131
def W_X13_useTape (σ : S0) (Q : S0 → Prop) : Prop :=
  Q (s_v (s_v σ 0 0) 1 0)
set_option maxRecDepth 100000 in
set_option maxHeartbeats 4000000 in
theorem L_X13_useTape (l : Launch) (g : gG) (q : Nat → Nat) (lb : Nat) (hlb : lb < 2 ^ 31) {σ : S0} {Q : S0 → Prop} (hN : n_m σ) (hw : W_X13_useTape σ Q) (sz : Nat) : MetV l yX13_useTape cX13_useTape 1 { frames := 0, cells := 0, slots := 0, locals := 0 } g [.ref (q 0)] (MX g q lb σ) sz xT (p_V (MX g q lb) [0, 1] [] [] σ Q) 0 0 := by
  refine mkMet (Qc := fun A => QV g A (p_V (MX g q lb) [0, 1] [] [] σ Q)) (by decide) (Nat.le_of_ble_eq_true rfl) ?_
  intro p e s m below meth c A H ls hx hb hr hml hown hts hlk hnm hsz hP hK hNb hD hA hAe hS hX hl
  have hl : lv_has ls 1 [(0, .ref (q 0))] := hl
  have hB := hN
  have hF : f_r [0, 1] [] [] σ σ := f_0
  obtain ⟨locs, hlocs⟩ : ∃ z : List Loc, z = [] := ⟨_, rfl⟩
  rw [← hlocs] at hS ⊢
  refine lv_aload_n hx hb dX13_useTape_0 rfl (lv_at hl 0 rfl) ?_
  refine lv_iconst (v := I 0) hx hb dX13_useTape_1 rfl ?_
  refine pfX13_tapeSize hx hb hts hK hP hD hS hown (hts _ tw_2007) dX13_useTape_2 (fun H locs hP hD hS => ?_)
  have hN : n_m (s_v σ 0 0) := n_v (i := 0) hN ((by decide) : rg 0)
  have hF : f_r [0, 1] [] [] σ (s_v σ 0 0) := f_v hF (by decide)
  refine lv_aload_n hx hb dX13_useTape_5 rfl (lv_at hl 0 rfl) ?_
  refine lv_iconst (v := I 0) hx hb dX13_useTape_6 rfl ?_
  refine pfX13_isFed hx hb hts hK hP hD hS hown (hts _ tw_2008) (by decide)  dX13_useTape_7 (fun H locs hP hD hS => ?_)
  have hN : n_m (s_v (s_v σ 0 0) 1 0) := n_v (i := 1) hN ((by decide) : rg 0)
  have hF : f_r [0, 1] [] [] σ (s_v (s_v σ 0 0) 1 0) := f_v hF (by decide)
  exact xrv hx hb hr hlk hP hK hD hS ⟨_, hN, hF, rfl, hw⟩ (Nat.le_of_ble_eq_true rfl) (Nat.le_of_ble_eq_true rfl) dX13_useTape_10
def W_X13_find (n1 : Int) (σ : S0) (Q : Int → S0 → Prop) : Prop :=
  ∀ (P38 : Int → Int → Int → Int → S0 → Prop) (P88 : Int → S0 → Prop),
  (∀ (u1 : Int) (u3 : Int) (u4 : Int) (k0 : Int) (τ : S0), ((k0 = 0 → P88 (-1) τ) ∧ (¬ k0 = 0 → ∃ (Q14 : Int → Prop), W_X13_isIn (j_of u1) 0 1 τ Q14 ∧ ∀ (x15 : Int), rg x15 → Q14 x15 → ((¬ x15 = 0 → (¬ u1 = 0 → ∃ (Q19 : Int → Prop), W_X13_findSymbol_q1 u3 u4 τ Q19 ∧ ∀ (x20 : Int), rg x20 → Q19 x20 → (P88 x20 τ)) ∧ (u1 = 0 → ∃ (Q22 : Int → Prop), W_X13_findLabel_q1 u3 u4 τ Q22 ∧ ∀ (x23 : Int), rg x23 → Q22 x23 → (P88 x23 τ))) ∧ (x15 = 0 → P88 (-1) τ)))) → P38 u1 u3 u4 k0 τ) →
  (∀ (k0 : Int) (τ : S0), (∃ (Q25 : S0 → Prop), W_X13_useTape τ Q25 ∧ ∀ (τ27 : S0), n_m τ27 → f_r [0, 1] [] [] τ τ27 → Q25 τ27 → (Q k0 τ27)) → P88 k0 τ) →
  ∃ (Q1 : Int → S0 → Prop), W_X13_rowFrom 0 σ Q1 ∧ ∀ (x2 : Int) (τ3 : S0), rg x2 → n_m τ3 → f_r [16, 17, 18] [] [] σ τ3 → Q1 x2 τ3 → ((¬ x2 = 1 → P38 n1 (τ3.1 17) (τ3.1 18) 0 τ3) ∧ (x2 = 1 → ∃ (Q5 : Int → S0 → Prop), W_X13_rowFrom (τ3.1 16) τ3 Q5 ∧ ∀ (x6 : Int) (τ7 : S0), rg x6 → n_m τ7 → f_r [16, 17, 18] [] [] τ3 τ7 → Q5 x6 τ7 → ((¬ x6 = 0 → rg (τ3.1 17) ∧ rg (τ3.1 18) ∧ P38 n1 (τ3.1 17) (τ3.1 18) 0 τ7) ∧ (x6 = 0 → rg (τ3.1 17) ∧ rg (τ3.1 18) ∧ P38 n1 (τ3.1 17) (τ3.1 18) 1 τ7))))
set_option maxRecDepth 100000 in
set_option maxHeartbeats 4000000 in
theorem L_X13_find (l : Launch) (g : gG) (q : Nat → Nat) (lb : Nat) (hlb : lb < 2 ^ 31) {n1 : Int} {σ : S0} {Q : Int → S0 → Prop} (r_n1 : rg n1) (hN : n_m σ) (hw : W_X13_find n1 σ Q) (sz : Nat) : MetI l yX13_find cX13_find 7 (some .int) { frames := 2, cells := 0, slots := 0, locals := 51 } g [.ref (q 0), .int (I n1)] (MX g q lb σ) sz xT (p_I (MX g q lb) [0, 1, 16, 17, 18] [] [] σ Q) 0 0 := by
  refine mkMet (Qc := fun A => QI g A (p_I (MX g q lb) [0, 1, 16, 17, 18] [] [] σ Q)) (by decide) (Nat.le_of_ble_eq_true rfl) ?_
  intro p e s m below meth c A H ls hx hb hr hml hown hts hlk hnm hsz hP hK hNb hD hA hAe hS hX hl
  have hl : lv_has ls 7 [(0, .ref (q 0)), (1, .int (I n1))] := hl
  have hB := hN
  have hF : f_r [0, 1, 16, 17, 18] [] [] σ σ := f_0
  obtain ⟨locs, hlocs⟩ : ∃ z : List Loc, z = [] := ⟨_, rfl⟩
  rw [← hlocs] at hS ⊢
  obtain ⟨P38, hP38⟩ : ∃ P : Int → Int → Int → Int → S0 → Prop, ∀ (u1 : Int) (u3 : Int) (u4 : Int) (k0 : Int) (τ : S0), (P u1 u3 u4 k0 τ ↔ (rg u1 → rg u3 → rg u4 → rg k0 → n_m τ → f_r [0, 1, 16, 17, 18] [] [] σ τ → ∀ (H : Heap) (locs : List Loc) (ls : Array Slot), KP g (MX g q lb τ) H → va_D A (MX g q lb τ) → va_S A s.heap H locs → lv_has ls 7 [(0, .ref (q 0)), (1, .int (I u1)), (3, .int (I u3)), (4, .int (I u4))] → W p l e ({ frames := 2, cells := 0, slots := 0, locals := 51 }) s m [.ref (q 0), .int (I n1)].toArray below meth c H locs 0 0 (MQ below (QI g A (p_I (MX g q lb) [0, 1, 16, 17, 18] [] [] σ Q)) [.ref (q 0), .int (I n1)].toArray s 0 0 A) (F0 m 38 ls [.int (I k0)]))) := ⟨_, fun _ _ _ _ _ => Iff.rfl⟩
  obtain ⟨P88, hP88⟩ : ∃ P : Int → S0 → Prop, ∀ (k0 : Int) (τ : S0), (P k0 τ ↔ (rg k0 → n_m τ → f_r [0, 1, 16, 17, 18] [] [] σ τ → ∀ (H : Heap) (locs : List Loc) (ls : Array Slot), KP g (MX g q lb τ) H → va_D A (MX g q lb τ) → va_S A s.heap H locs → lv_has ls 7 [(0, .ref (q 0))] → W p l e ({ frames := 2, cells := 0, slots := 0, locals := 51 }) s m [.ref (q 0), .int (I n1)].toArray below meth c H locs 0 0 (MQ below (QI g A (p_I (MX g q lb) [0, 1, 16, 17, 18] [] [] σ Q)) [.ref (q 0), .int (I n1)].toArray s 0 0 A) (F0 m 88 ls [.int (I k0)]))) := ⟨_, fun _ _ => Iff.rfl⟩
  refine (fun hw => ?_) (hw P38 P88 ?_ ?_)
  ·
    refine lv_aload_n hx hb dX13_find_0 rfl (lv_at hl 0 rfl) ?_
    refine lv_iconst (v := I 0) hx hb dX13_find_1 rfl ?_
    obtain ⟨Q1, hc, hw⟩ := hw
    refine wc_I (X := MX g q lb) (va_runV (As := [.int (I 0)]) (rest := []) ⟨hx, hb, hml, hown, hts⟩ (L_X13_rowFrom l g q lb hlb (by decide) hN hc H.size) (cwV 1 hts (TB_V tw_2823 tw_2825 ts_162 tw_15 co_X13_rowFrom) rfl rfl rfl (by decide +kernel) ⟨Nat.le_of_ble_eq_true rfl, Nat.le_of_ble_eq_true rfl⟩) (preV (q0 := 0) (ci := 13) rfl xT_bl hP hK hNb hD rfl rfl xT_at) rfl rfl hl.1 rfl (lv_room (Nat.le_of_ble_eq_true rfl)) dX13_find_2 ⟨Nat.le_of_ble_eq_true rfl, Nat.le_of_ble_eq_true rfl⟩) hP hD hS hA (fun x2 τ3 H locs r_x2 hN hf hq hP hD hS => ?_)
    replace hw := hw x2 τ3 r_x2 hN hf hq
    have hF : f_r [0, 1, 16, 17, 18] [] [] σ τ3 := f_t hF hf (by decide) (by decide) (by decide)
    have hB := hN
    refine lv_istore_n (lv' := [(2, .int (I x2)), (0, .ref (q 0)), (1, .int (I n1))]) hx hb dX13_find_5 rfl hl (by decide) rfl (fun ls hl => ?_)
    refine lv_aload_n hx hb dX13_find_6 rfl (lv_at hl 1 rfl) ?_
    refine gfX13_tokenAt hx hb hts hK hP hown (hts _ tw_2062) (x := τ3.1 17) rfl dX13_find_7 ?_
    refine lv_istore_n (lv' := [(3, .int (I (τ3.1 17))), (2, .int (I x2)), (0, .ref (q 0)), (1, .int (I n1))]) hx hb dX13_find_10 rfl hl (by decide) rfl (fun ls hl => ?_)
    refine lv_aload_n hx hb dX13_find_11 rfl (lv_at hl 2 rfl) ?_
    refine gfX13_tokenSize hx hb hts hK hP hown (hts _ tw_2063) (x := τ3.1 18) rfl dX13_find_12 ?_
    refine lv_istore (lv' := [(4, .int (I (τ3.1 18))), (3, .int (I (τ3.1 17))), (2, .int (I x2)), (0, .ref (q 0)), (1, .int (I n1))]) hx hb dX13_find_15 hl (by decide) rfl (fun ls hl => ?_)
    refine lv_iload_n hx hb dX13_find_17 rfl (lv_at hl 2 rfl) ?_
    refine lv_iconst (v := I 1) hx hb dX13_find_18 rfl ?_
    refine bi_icmp_ne (tgt := 37) hx hb r_x2 (by decide) dX13_find_19 (by decide) (fun c4 => ?_) (fun c4 => ?_)
    ·
      replace hw := hw.1 c4
      refine lv_iconst (v := I 0) hx hb dX13_find_37 rfl ?_
      exact (hP38 _ _ _ _ _).mp hw r_n1 (hB.1 17) (hB.1 18) (by decide) hN hF H locs ls hP hD hS (lv_sub hl [3, 4, 1, 0] rfl)
    ·
      replace hw := hw.2 c4
      refine lv_aload_n hx hb dX13_find_22 rfl (lv_at hl 3 rfl) ?_
      refine lv_aload_n hx hb dX13_find_23 rfl (lv_at hl 3 rfl) ?_
      refine gfX13_at hx hb hts hK hP hown (hts _ tw_2061) (x := τ3.1 16) rfl dX13_find_24 ?_
      obtain ⟨Q5, hc, hw⟩ := hw
      refine wc_I (X := MX g q lb) (va_runV (As := [.int (I (τ3.1 16))]) (rest := []) ⟨hx, hb, hml, hown, hts⟩ (L_X13_rowFrom l g q lb hlb (hB.1 16) hN hc H.size) (cwV 1 hts (TB_V tw_2823 tw_2825 ts_162 tw_15 co_X13_rowFrom) rfl rfl rfl (by decide +kernel) ⟨Nat.le_of_ble_eq_true rfl, Nat.le_of_ble_eq_true rfl⟩) (preV (q0 := 0) (ci := 13) rfl xT_bl hP hK hNb hD rfl rfl xT_at) rfl rfl hl.1 rfl (lv_room (Nat.le_of_ble_eq_true rfl)) dX13_find_27 ⟨Nat.le_of_ble_eq_true rfl, Nat.le_of_ble_eq_true rfl⟩) hP hD hS hA (fun x6 τ7 H locs r_x6 hN hf hq hP hD hS => ?_)
      replace hw := hw x6 τ7 r_x6 hN hf hq
      have hF : f_r [0, 1, 16, 17, 18] [] [] σ τ7 := f_t hF hf (by decide) (by decide) (by decide)
      have hB := hN
      refine bi_if_ne (tgt := 37) hx hb r_x6 dX13_find_30 (by decide) (fun c8 => ?_) (fun c8 => ?_)
      ·
        replace hw := hw.1 c8
        refine lv_iconst (v := I 0) hx hb dX13_find_37 rfl ?_
        obtain ⟨c9, hw⟩ := hw
        obtain ⟨c10, hw⟩ := hw
        exact (hP38 _ _ _ _ _).mp hw r_n1 c9 c10 (by decide) hN hF H locs ls hP hD hS (lv_sub hl [3, 4, 1, 0] rfl)
      ·
        replace hw := hw.2 c8
        refine lv_iconst (v := I 1) hx hb dX13_find_33 rfl ?_
        refine lv_goto (tgt := 38) hx hb dX13_find_34 (by decide) ?_
        obtain ⟨c11, hw⟩ := hw
        obtain ⟨c12, hw⟩ := hw
        exact (hP38 _ _ _ _ _).mp hw r_n1 c11 c12 (by decide) hN hF H locs ls hP hD hS (lv_sub hl [3, 4, 1, 0] rfl)
  ·
    intro u1 u3 u4 k0 τ hw
    refine (hP38 _ _ _ _ _).mpr ?_
    intro r_u1 r_u3 r_u4 r_k0 hN hF H locs ls hP hD hS hl
    have hB := hN
    refine lv_istore (lv' := [(5, .int (I k0)), (0, .ref (q 0)), (1, .int (I u1)), (3, .int (I u3)), (4, .int (I u4))]) hx hb dX13_find_38 hl (by decide) rfl (fun ls hl => ?_)
    refine lv_iload hx hb dX13_find_40 (lv_at hl 0 rfl) ?_
    refine bi_if_eq (tgt := 55) hx hb r_k0 dX13_find_42 (by decide) (fun c13 => ?_) (fun c13 => ?_)
    ·
      replace hw := hw.1 c13
      refine lv_iconst (v := I (-1)) hx hb dX13_find_55 rfl ?_
      refine lv_goto (tgt := 88) hx hb dX13_find_56 (by decide) ?_
      exact (hP88 _ _).mp hw (by decide) hN hF H locs ls hP hD hS (lv_sub hl [1] rfl)
    ·
      replace hw := hw.2 c13
      refine lv_iload_n hx hb dX13_find_45 rfl (lv_at hl 2 rfl) ?_
      refine bi_i2l hx hb r_u1 dX13_find_46 ?_
      refine lv_lconst (v := 0) hx hb dX13_find_47 (by decide) ?_
      refine lv_lconst (v := 1) hx hb dX13_find_48 (by decide) ?_
      obtain ⟨Q14, hc, hw⟩ := hw
      refine wc_i (X := MX g q lb) (va_runS (As := [.long (j_of u1), .long 0, .long 1]) (rest := []) ⟨hx, hb, hml, hown, hts⟩ (L_X13_isIn l g q lb hlb  hN hc H.size) (cwS 3 hts (TB_S tw_2525 tw_2526 tw_15 co_X13_isIn) rfl rfl rfl (by decide +kernel) ⟨Nat.le_of_ble_eq_true rfl, Nat.le_of_ble_eq_true rfl⟩) (preS xT_bl hP hK hNb hD xT_at) rfl rfl hl.1 rfl (lv_room (Nat.le_of_ble_eq_true rfl)) dX13_find_49 ⟨Nat.le_of_ble_eq_true rfl, Nat.le_of_ble_eq_true rfl⟩) hP hD hS hA (fun x15 H locs r_x15 hq hP hD hS => ?_)
      replace hw := hw x15 r_x15 hq
      refine bi_if_ne (tgt := 59) hx hb r_x15 dX13_find_52 (by decide) (fun c17 => ?_) (fun c17 => ?_)
      ·
        replace hw := hw.1 c17
        refine lv_iload_n hx hb dX13_find_59 rfl (lv_at hl 2 rfl) ?_
        refine bi_if_ne (tgt := 77) hx hb r_u1 dX13_find_60 (by decide) (fun c18 => ?_) (fun c18 => ?_)
        ·
          replace hw := hw.1 c18
          refine lv_aload_n hx hb dX13_find_77 rfl (lv_at hl 1 rfl) ?_
          refine lv_aload_n hx hb dX13_find_78 rfl (lv_at hl 1 rfl) ?_
          refine gfX13_tape hx hb hts hK hP hown (hts _ tw_2006) dX13_find_79 ?_
          refine lv_iload_n hx hb dX13_find_82 rfl (lv_at hl 3 rfl) ?_
          refine lv_iload hx hb dX13_find_83 (lv_at hl 4 rfl) ?_
          obtain ⟨Q19, hc, hw⟩ := hw
          refine wc_i (X := MX g q lb) (va_runV (As := [.ref (q 1), .int (I u3), .int (I u4)]) (rest := []) ⟨hx, hb, hml, hown, hts⟩ (L_X13_findSymbol_q1 l g q lb hlb r_u3 r_u4 hN hc H.size) (cwV 3 hts (TB_V tw_2613 tw_2615 ts_118 tw_15 co_X13_findSymbol) rfl rfl rfl (by decide +kernel) ⟨Nat.le_of_ble_eq_true rfl, Nat.le_of_ble_eq_true rfl⟩) (preV (q0 := 0) (ci := 13) rfl xT_bl hP hK hNb hD rfl rfl xT_at) rfl rfl hl.1 rfl (lv_room (Nat.le_of_ble_eq_true rfl)) dX13_find_85 ⟨Nat.le_of_ble_eq_true rfl, Nat.le_of_ble_eq_true rfl⟩) hP hD hS hA (fun x20 H locs r_x20 hq hP hD hS => ?_)
          replace hw := hw x20 r_x20 hq
          exact (hP88 _ _).mp hw r_x20 hN hF H locs ls hP hD hS (lv_sub hl [1] rfl)
        ·
          replace hw := hw.2 c18
          refine lv_aload_n hx hb dX13_find_63 rfl (lv_at hl 1 rfl) ?_
          refine lv_aload_n hx hb dX13_find_64 rfl (lv_at hl 1 rfl) ?_
          refine gfX13_tape hx hb hts hK hP hown (hts _ tw_2006) dX13_find_65 ?_
          refine lv_iload_n hx hb dX13_find_68 rfl (lv_at hl 3 rfl) ?_
          refine lv_iload hx hb dX13_find_69 (lv_at hl 4 rfl) ?_
          obtain ⟨Q22, hc, hw⟩ := hw
          refine wc_i (X := MX g q lb) (va_runV (As := [.ref (q 1), .int (I u3), .int (I u4)]) (rest := []) ⟨hx, hb, hml, hown, hts⟩ (L_X13_findLabel_q1 l g q lb hlb r_u3 r_u4 hN hc H.size) (cwV 3 hts (TB_V tw_2598 tw_2600 ts_115 tw_15 co_X13_findLabel) rfl rfl rfl (by decide +kernel) ⟨Nat.le_of_ble_eq_true rfl, Nat.le_of_ble_eq_true rfl⟩) (preV (q0 := 0) (ci := 13) rfl xT_bl hP hK hNb hD rfl rfl xT_at) rfl rfl hl.1 rfl (lv_room (Nat.le_of_ble_eq_true rfl)) dX13_find_71 ⟨Nat.le_of_ble_eq_true rfl, Nat.le_of_ble_eq_true rfl⟩) hP hD hS hA (fun x23 H locs r_x23 hq hP hD hS => ?_)
          replace hw := hw x23 r_x23 hq
          refine lv_goto (tgt := 88) hx hb dX13_find_74 (by decide) ?_
          exact (hP88 _ _).mp hw r_x23 hN hF H locs ls hP hD hS (lv_sub hl [1] rfl)
      ·
        replace hw := hw.2 c17
        refine lv_iconst (v := I (-1)) hx hb dX13_find_55 rfl ?_
        refine lv_goto (tgt := 88) hx hb dX13_find_56 (by decide) ?_
        exact (hP88 _ _).mp hw (by decide) hN hF H locs ls hP hD hS (lv_sub hl [1] rfl)
  ·
    intro k0 τ hw
    refine (hP88 _ _).mpr ?_
    intro r_k0 hN hF H locs ls hP hD hS hl
    have hB := hN
    refine lv_istore (lv' := [(6, .int (I k0)), (0, .ref (q 0))]) hx hb dX13_find_88 hl (by decide) rfl (fun ls hl => ?_)
    refine lv_aload_n hx hb dX13_find_90 rfl (lv_at hl 1 rfl) ?_
    obtain ⟨Q25, hc, hw⟩ := hw
    refine wc_V (X := MX g q lb) (va_runV (As := []) (rest := []) ⟨hx, hb, hml, hown, hts⟩ (L_X13_useTape l g q lb hlb  hN hc H.size) (cwV 0 hts (TB_V tw_2827 tw_2829 ts_163 tw_15 co_X13_useTape) rfl rfl rfl (by decide +kernel) ⟨Nat.le_of_ble_eq_true rfl, Nat.le_of_ble_eq_true rfl⟩) (preV (q0 := 0) (ci := 13) rfl xT_bl hP hK hNb hD rfl rfl xT_at) rfl rfl hl.1 rfl (lv_room (Nat.le_of_ble_eq_true rfl)) dX13_find_91 ⟨Nat.le_of_ble_eq_true rfl, Nat.le_of_ble_eq_true rfl⟩) hP hD hS hA (fun τ27 H locs hN hf hq hP hD hS => ?_)
    replace hw := hw τ27 hN hf hq
    have hF : f_r [0, 1, 16, 17, 18] [] [] σ τ27 := f_t hF hf (by decide) (by decide) (by decide)
    have hB := hN
    refine lv_iload hx hb dX13_find_94 (lv_at hl 0 rfl) ?_
    exact xri hx hb hr hlk hP hK hD hS ⟨_, _, r_k0, rfl, hN, hF, rfl, hw⟩ (Nat.le_of_ble_eq_true rfl) (Nat.le_of_ble_eq_true rfl) dX13_find_96
