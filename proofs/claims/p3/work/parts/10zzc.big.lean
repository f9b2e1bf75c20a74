-- the four methods that may make the bodies longer, told as propositions and tied to the machine
def b_c (σ : S0) : Nat := ((1048576 - σ.1 200) / 16384).toNat
def b_s (σ : S0) : Nat := (2 * (1048576 - σ.1 200)).toNat
def bq (q0 q : Nat → Nat) : Prop := ∃ ra, q = qn q0 ra
theorem bq_0 {q : Nat → Nat} : bq q q := ⟨q 119, qn_id.symm⟩
theorem bq_t {q0 q q1 : Nat → Nat} {ra : Nat} (h : bq q0 q) (e : q1 = qn q ra) : bq q0 q1 := by
  obtain ⟨rb, h⟩ := h
  exact ⟨ra, by rw [e, h, qn_qn]⟩
def b_k (σ τ : S0) (lb cells slots : Nat) : Prop := lb = L2 τ ∧ (lb : Int) = τ.1 200 ∧ (lb : Int) ≤ 1048576 ∧ 16384 * (cells : Int) ≤ (lb : Int) - σ.1 200 ∧ (slots : Int) ≤ 2 * ((lb : Int) - σ.1 200)
section BK
variable {σ τ υ : S0} {lb cells slots : Nat}
theorem b_k0 (h : 16384 ≤ σ.1 200 ∧ σ.1 200 ≤ 1048576) (e : lb = L2 σ) : b_k σ σ lb 0 0 := by
  have e1 : (lb : Int) = σ.1 200 := by rw [e]; unfold L2; omega
  exact ⟨e, e1, by omega, by omega, by omega⟩
theorem b_kl (h : b_k σ τ lb cells slots) : lb = L2 τ := h.1
theorem b_klt (h : b_k σ τ lb cells slots) : lb < 2 ^ 31 := by
  have := h.2.2.1; omega
theorem b_kt (h : b_k σ τ lb cells slots) (e : υ.1 200 = τ.1 200) : b_k σ υ lb cells slots := by
  refine ⟨?_, ?_, h.2.2⟩
  · rw [h.1]; unfold L2; rw [e]
  · rw [e]; exact h.2.1
theorem b_len (h : b_k σ τ lb cells slots) : Int32.ofNat lb = I (τ.1 200) := by rw [← h.2.1]; exact I_len
theorem b_cpy {x : Int} (h : b_k σ τ lb cells slots) (e : x ≤ τ.1 200) : x ≤ (lb : Int) := by
  have := h.2.1; omega
theorem b_r0 (h : b_k σ τ lb cells slots) (h2 : 16384 ≤ σ.1 200 ∧ σ.1 200 ≤ 1048576) : cells + 0 ≤ b_c σ ∧ slots + 0 ≤ b_s σ := by
  obtain ⟨h3, h4, h5, h6, h7⟩ := h
  unfold b_c b_s
  constructor <;> omega
theorem b_rB (h : b_k σ τ lb cells slots) (h2 : 16384 ≤ σ.1 200 ∧ σ.1 200 ≤ 1048576) : cells + b_c τ ≤ b_c σ ∧ slots + b_s τ ≤ b_s σ := by
  obtain ⟨h3, h4, h5, h6, h7⟩ := h
  unfold b_c b_s
  constructor <;> omega
theorem b_kB {lb2 k n : Nat} (h : b_k σ τ lb cells slots) (h2 : 16384 ≤ σ.1 200 ∧ σ.1 200 ≤ 1048576) (e : lb2 = L2 υ) (hk : (k : Int) * 16384 ≤ υ.1 200 - τ.1 200 ∧ (n : Int) ≤ 2 * (υ.1 200 - τ.1 200)) (h3 : υ.1 200 ≤ 1048576) : b_k σ υ lb2 (cells + k) (slots + n) := by
  obtain ⟨h3, h4, h5, h6, h7⟩ := h
  have e1 : (lb2 : Int) = υ.1 200 := by rw [e]; unfold L2; omega
  exact ⟨e, e1, by omega, by omega, by omega⟩
theorem b_2 (h : b_k σ τ lb cells slots) : (2 * τ.1 200 : Int) = ((2 * lb : Nat) : Int) := by
  have := h.2.1; omega
theorem b_g1 (h : b_k σ τ lb cells slots) (h2 : 16384 ≤ σ.1 200 ∧ σ.1 200 ≤ 1048576) : lb < 2 * lb := by
  obtain ⟨h3, h4, h5, h6, h7⟩ := h
  omega
theorem b_g2 (h : b_k σ τ lb cells slots) (h3 : 2 * τ.1 200 ≤ 1048576) : 2 * lb ≤ 1048576 := by
  have := h.2.1; omega
theorem b_g3 (h : b_k σ τ lb cells slots) (h2 : 16384 ≤ σ.1 200 ∧ σ.1 200 ≤ 1048576) (h3 : 2 * τ.1 200 ≤ 1048576) : cells + 1 ≤ b_c σ := by
  obtain ⟨h3, h4, h5, h6, h7⟩ := h
  unfold b_c
  omega
theorem b_g4 (h : b_k σ τ lb cells slots) (h2 : 16384 ≤ σ.1 200 ∧ σ.1 200 ≤ 1048576) (h3 : 2 * τ.1 200 ≤ 1048576) : slots + 2 * lb ≤ b_s σ := by
  obtain ⟨h3, h4, h5, h6, h7⟩ := h
  unfold b_s
  omega
theorem b_g5 (h : b_k σ τ lb cells slots) (h2 : 16384 ≤ σ.1 200 ∧ σ.1 200 ≤ 1048576) (h3 : 2 * τ.1 200 ≤ 1048576) : ∀ z : Nat, z = 2 * lb → b_k σ (s_v τ 200 (2 * τ.1 200)) z (cells + 1) (slots + 2 * lb) := by
  intro z hz; rw [hz]
  obtain ⟨h3, h4, h5, h6, h7⟩ := h
  have e : (s_v τ 200 (2 * τ.1 200)).1 200 = 2 * τ.1 200 := by show up τ.1 200 _ 200 = _; unfold up; exact if_pos rfl
  refine ⟨?_, ?_, by omega, by omega, by omega⟩
  · unfold L2; rw [e]; omega
  · rw [e]; omega
theorem b_g6 {y : Int} {c s : Nat} (h : b_k σ (s_v τ 200 y) lb c s) : rg y := by
  have e : (s_v τ 200 y).1 200 = y := by show up τ.1 200 _ 200 = _; unfold up; exact if_pos rfl
  obtain ⟨h3, h4, h5, h6, h7⟩ := h
  rw [e] at h4
  exact ⟨by omega, by omega⟩
theorem b_ks (h : b_k σ τ lb cells slots) : (cells : Int) * 16384 ≤ τ.1 200 - σ.1 200 ∧ (slots : Int) ≤ 2 * (τ.1 200 - σ.1 200) := by
  obtain ⟨h3, h4, h5, h6, h7⟩ := h
  constructor <;> omega
end BK
def W_X2_makeBody (n1 : Int) (n2 : Int) (σ : S0) (Q : S0 → Prop) : Prop :=
  (16384 ≤ σ.1 200 ∧ σ.1 200 ≤ 1048576) ∧ (∀ (P0 : Int → Int → S0 → Prop) (P115 : Int → Int → S0 → Prop),
  (∀ (u1 : Int) (u2 : Int) (τ : S0), (∃ (Q1 : S0 → Prop), W_X11_grow τ Q1 ∧ ∀ (τ3 : S0), n_m τ3 → f_r [54] [84, 85, 86, 88, 89, 90] [8] τ τ3 → Q1 τ3 → (∃ (Q4 : Int → S0 → Prop), W_X2_partSides τ3 Q4 ∧ ∀ (x5 : Int) (τ6 : S0), rg x5 → n_m τ6 → f_r [61, 62] [] [] τ3 τ6 → Q4 x5 τ6 → ((x5 = 0 → Q τ6) ∧ (¬ x5 = 0 → ∃ (Q8 : Int → S0 → Prop), W_X2_fillSlots u2 τ6 Q8 ∧ ∀ (x9 : Int) (τ10 : S0), rg x9 → n_m τ10 → f_r [] [100] [] τ6 τ10 → Q8 x9 τ10 → ((¬ x9 = 0 → ∃ (Q12 : Int → Prop), W_X11_behind (τ10.1 62) τ10 Q12 ∧ ∀ (x13 : Int), rg x13 → Q12 x13 → (∃ (Q15 : Int → S0 → Prop), W_X2_evaluate (L2 τ10) (τ10.1 62) x13 u1 τ10 Q15 ∧ ∀ (x16 : Int) (τ17 : S0), rg x16 → n_m τ17 → f_r [17, 18, 19] [39, 40, 41, 42, 43] [] τ10 τ17 → Q15 x16 τ17 → (∃ (Q18 : S0 → Prop), W_X2_clearSlots u2 τ17 Q18 ∧ ∀ (τ20 : S0), n_m τ20 → f_r [] [100] [] τ17 τ20 → Q18 τ20 → ((0 ≤ u2 ∧ u2 < 1500) ∧ (rg (u1 + 1) ∧ (¬ x16 = 0 → ∀ (x24 : Int), rg x24 → x24 = τ20.2.1 41 0 → (rg (τ20.1 60 + x24) ∧ ((τ20.1 60 + x24) ≤ τ20.1 200 → P115 u2 x24 (s_a (s_a τ20 95 u2 (u1 + 1)) 99 u2 (-2))) ∧ (τ20.1 200 < (τ20.1 60 + x24) → (2 * τ20.1 200 ≤ 1048576) ∧ (P115 u2 x24 (s_v (s_f (s_a (s_a τ20 95 u2 (u1 + 1)) 99 u2 (-2)) 97 (c_gr (L2 τ20) (τ20.2.1 97))) 200 (2 * τ20.1 200)))))) ∧ (x16 = 0 → Q (s_a (s_a τ20 95 u2 (u1 + 1)) 99 u2 (-2)))))))) ∧ (x9 = 0 → Q τ10)))))) → P0 u1 u2 τ) →
  (∀ (u2 : Int) (u4 : Int) (τ : S0), ((0 ≤ u2 ∧ u2 < 1500) ∧ (∀ (x29 : Int), rg x29 → x29 = τ.2.1 40 0 → (((0 : Int) ≤ x29 ∧ (0 : Int) ≤ τ.1 60 ∧ (0 : Int) ≤ u4 ∧ x29 + u4 ≤ 42000 ∧ τ.1 60 + u4 ≤ τ.1 200) ∧ (rg (τ.1 60 + u4) ∧ Q (s_v (s_f (s_a (s_a τ 98 u2 (τ.1 60)) 99 u2 u4) 97 (c_py (τ.2.1 39) (τ.2.1 97) x29 (τ.1 60) u4)) 60 (τ.1 60 + u4)))))) → P115 u2 u4 τ) →
  P0 n1 n2 σ)
set_option maxRecDepth 100000 in
set_option maxHeartbeats 4000000 in
theorem L_X2_makeBody (l : Launch) (g : gG) (q0 : Nat → Nat) {n1 : Int} {n2 : Int} {σ : S0} {Q : S0 → Prop} (r_n1 : rg n1) (r_n2 : rg n2) (hN : n_m σ) (hw : W_X2_makeBody n1 n2 σ Q) (sz : Nat) : Met l yX2_makeBody (wd yX2_makeBody cX2_makeBody 5 none) { frames := 4, cells := b_c σ, slots := b_s σ, locals := 151 } (va_Pc [.ref (q0 11), .int (I n1), .int (I n2)] (cP g (CX g q0 (L2 σ) σ) sz xT)) (Qc2 ((fun A k n => QV g A (p_B g q0 [17, 18, 19, 54, 60, 61, 62, 200] [39, 40, 41, 42, 43, 84, 85, 86, 88, 89, 90, 95, 97, 98, 99, 100] [8] σ Q k n)) (va_A (CX g q0 (L2 σ) σ) sz)) (b_c σ) (b_s σ) (va_A (CX g q0 (L2 σ) σ) sz)) (b_c σ) (b_s σ) (va_A (CX g q0 (L2 σ) σ) sz) := by
  refine mkMet2 (Qc := fun A k n => QV g A (p_B g q0 [17, 18, 19, 54, 60, 61, 62, 200] [39, 40, 41, 42, 43, 84, 85, 86, 88, 89, 90, 95, 97, 98, 99, 100] [8] σ Q k n)) (by decide) (Nat.le_of_ble_eq_true rfl) ?_
  intro p e s m below meth c A H ls hx hb hr hml hown hts hlk hnm hsz hP hK hNb hD hA hAe hS hX hl
  have hl : lv_has ls 5 [(0, .ref (q0 11)), (1, .int (I n1)), (2, .int (I n2))] := hl
  obtain ⟨h200, hw⟩ := hw
  obtain ⟨q, hq9⟩ : ∃ z : Nat → Nat, z = q0 := ⟨_, rfl⟩
  obtain ⟨lb, hl9⟩ : ∃ z : Nat, z = L2 σ := ⟨_, rfl⟩
  rw [← hq9, ← hl9] at hP hD
  have hl : lv_has ls 5 [(0, .ref (q 11)), (1, .int (I n1)), (2, .int (I n2))] := by rw [hq9]; exact hl
  have hbq : bq q0 q := by rw [hq9]; exact bq_0
  have hbk : b_k σ σ lb 0 0 := b_k0 h200 hl9
  have hB := hN
  have hF : f_r [17, 18, 19, 54, 60, 61, 62, 200] [39, 40, 41, 42, 43, 84, 85, 86, 88, 89, 90, 95, 97, 98, 99, 100] [8] σ σ := f_0
  obtain ⟨locs, hlocs⟩ : ∃ z : List Loc, z = [] := ⟨_, rfl⟩
  rw [← hlocs] at hS ⊢
  obtain ⟨P0, hP0⟩ : ∃ P : Int → Int → S0 → Prop, ∀ (u1 : Int) (u2 : Int) (τ : S0), (P u1 u2 τ ↔ (rg u1 → rg u2 → n_m τ → f_r [17, 18, 19, 54, 60, 61, 62, 200] [39, 40, 41, 42, 43, 84, 85, 86, 88, 89, 90, 95, 97, 98, 99, 100] [8] σ τ → ∀ (q : Nat → Nat) (lb cells slots : Nat), bq q0 q → b_k σ τ lb cells slots → ∀ (H : Heap) (locs : List Loc) (ls : Array Slot), KP g (CX g q lb τ) H → va_D A (CX g q lb τ) → va_S A s.heap H locs → lv_has ls 5 [(0, .ref (q 11)), (1, .int (I u1)), (2, .int (I u2))] → W p l e ({ frames := 4, cells := b_c σ, slots := b_s σ, locals := 151 }) s m [.ref (q0 11), .int (I n1), .int (I n2)].toArray below meth c H locs cells slots (MQ2 below (fun k n => QV g A (p_B g q0 [17, 18, 19, 54, 60, 61, 62, 200] [39, 40, 41, 42, 43, 84, 85, 86, 88, 89, 90, 95, 97, 98, 99, 100] [8] σ Q k n)) [.ref (q0 11), .int (I n1), .int (I n2)].toArray s (b_c σ) (b_s σ) A) (F0 m 0 ls []))) := ⟨_, fun _ _ _ => Iff.rfl⟩
  obtain ⟨P115, hP115⟩ : ∃ P : Int → Int → S0 → Prop, ∀ (u2 : Int) (u4 : Int) (τ : S0), (P u2 u4 τ ↔ (rg u2 → rg u4 → n_m τ → f_r [17, 18, 19, 54, 60, 61, 62, 200] [39, 40, 41, 42, 43, 84, 85, 86, 88, 89, 90, 95, 97, 98, 99, 100] [8] σ τ → ∀ (q : Nat → Nat) (lb cells slots : Nat), bq q0 q → b_k σ τ lb cells slots → ∀ (H : Heap) (locs : List Loc) (ls : Array Slot), KP g (CX g q lb τ) H → va_D A (CX g q lb τ) → va_S A s.heap H locs → lv_has ls 5 [(0, .ref (q 11)), (2, .int (I u2)), (4, .int (I u4))] → W p l e ({ frames := 4, cells := b_c σ, slots := b_s σ, locals := 151 }) s m [.ref (q0 11), .int (I n1), .int (I n2)].toArray below meth c H locs cells slots (MQ2 below (fun k n => QV g A (p_B g q0 [17, 18, 19, 54, 60, 61, 62, 200] [39, 40, 41, 42, 43, 84, 85, 86, 88, 89, 90, 95, 97, 98, 99, 100] [8] σ Q k n)) [.ref (q0 11), .int (I n1), .int (I n2)].toArray s (b_c σ) (b_s σ) A) (F0 m 115 ls []))) := ⟨_, fun _ _ _ => Iff.rfl⟩
  refine (fun hw => ?_) (hw P0 P115 ?_ ?_)
  ·
    exact (hP0 _ _ _).mp hw r_n1 r_n2 hN hF _ _ _ _ hbq hbk H locs ls hP hD hS (lv_sub hl [0, 1, 2] rfl)
  ·
    intro u1 u2 τ hw
    refine (hP0 _ _ _).mpr ?_
    intro r_u1 r_u2 hN hF q lb cells slots hbq hbk H locs ls hP hD hS hl
    have hB := hN
    refine lv_aload_n hx hb dX2_makeBody_0 rfl (lv_at hl 0 rfl) ?_
    refine gfX2_tree hx hb hts hK hP hown (hts _ tw_799) dX2_makeBody_1 ?_
    obtain ⟨Q1, hc, hw⟩ := hw
    have hlb := b_klt hbk
    refine wc_V (X := CX g q lb) (va_runV (As := []) (rest := []) ⟨hx, hb, hml, hown, hts⟩ (L_X11_grow l g q lb hlb  hN hc H.size) (cwV 0 hts (TB_V tw_1811 tw_1766 tw_1767 tw_12 co_X11_grow) rfl rfl rfl (by decide +kernel) ⟨Nat.le_of_ble_eq_true rfl, Nat.le_of_ble_eq_true rfl⟩) (preV (q0 := 10) (ci := 11) rfl xT_bl hP hK hNb hD rfl rfl xT_at) rfl rfl hl.1 rfl (lv_room (Nat.le_of_ble_eq_true rfl)) dX2_makeBody_4 (b_r0 hbk h200)) hP hD hS hA (fun τ3 H locs hN hf hq hP hD hS => ?_)
    replace hw := hw τ3 hN hf hq
    have hF : f_r [17, 18, 19, 54, 60, 61, 62, 200] [39, 40, 41, 42, 43, 84, 85, 86, 88, 89, 90, 95, 97, 98, 99, 100] [8] σ τ3 := f_t hF hf (by decide) (by decide) (by decide)
    have hB := hN
    have hbk : b_k σ τ3 lb _ _ := b_kt hbk (hf.1 200 (by decide))
    refine lv_aload_n hx hb dX2_makeBody_7 rfl (lv_at hl 0 rfl) ?_
    obtain ⟨Q4, hc, hw⟩ := hw
    have hlb := b_klt hbk
    refine wc_I (X := CX g q lb) (va_runV (As := []) (rest := []) ⟨hx, hb, hml, hown, hts⟩ (L_X2_partSides l g q lb hlb  hN hc H.size) (cwV 0 hts (TB_V tw_1821 tw_1823 ts_86 tw_13 co_X2_partSides) rfl rfl rfl (by decide +kernel) ⟨Nat.le_of_ble_eq_true rfl, Nat.le_of_ble_eq_true rfl⟩) (preV (q0 := 11) (ci := 2) rfl xT_bl hP hK hNb hD rfl rfl xT_at) rfl rfl hl.1 rfl (lv_room (Nat.le_of_ble_eq_true rfl)) dX2_makeBody_8 (b_r0 hbk h200)) hP hD hS hA (fun x5 τ6 H locs r_x5 hN hf hq hP hD hS => ?_)
    replace hw := hw x5 τ6 r_x5 hN hf hq
    have hF : f_r [17, 18, 19, 54, 60, 61, 62, 200] [39, 40, 41, 42, 43, 84, 85, 86, 88, 89, 90, 95, 97, 98, 99, 100] [8] σ τ6 := f_t hF hf (by decide) (by decide) (by decide)
    have hB := hN
    have hbk : b_k σ τ6 lb _ _ := b_kt hbk (hf.1 200 (by decide))
    refine bi_if_eq (tgt := 22) hx hb r_x5 dX2_makeBody_11 (by decide) (fun c7 => ?_) (fun c7 => ?_)
    ·
      replace hw := hw.1 c7
      obtain ⟨ra, hqr⟩ := hbq
      exact xrB hx hb hr hlk hP hK hD hS ⟨ra, _, hN, hF, (by rw [hqr, b_kl hbk]), b_ks hbk, hw⟩ (b_r0 hbk h200).1 (b_r0 hbk h200).2 dX2_makeBody_22
    ·
      replace hw := hw.2 c7
      refine lv_aload_n hx hb dX2_makeBody_14 rfl (lv_at hl 0 rfl) ?_
      refine lv_iload_n hx hb dX2_makeBody_15 rfl (lv_at hl 2 rfl) ?_
      obtain ⟨Q8, hc, hw⟩ := hw
      have hlb := b_klt hbk
      refine wc_I (X := CX g q lb) (va_runV (As := [.int (I u2)]) (rest := []) ⟨hx, hb, hml, hown, hts⟩ (L_X2_fillSlots l g q lb hlb r_u2 hN hc H.size) (cwV 1 hts (TB_V tw_1829 tw_1831 ts_87 tw_13 co_X2_fillSlots) rfl rfl rfl (by decide +kernel) ⟨Nat.le_of_ble_eq_true rfl, Nat.le_of_ble_eq_true rfl⟩) (preV (q0 := 11) (ci := 2) rfl xT_bl hP hK hNb hD rfl rfl xT_at) rfl rfl hl.1 rfl (lv_room (Nat.le_of_ble_eq_true rfl)) dX2_makeBody_16 (b_r0 hbk h200)) hP hD hS hA (fun x9 τ10 H locs r_x9 hN hf hq hP hD hS => ?_)
      replace hw := hw x9 τ10 r_x9 hN hf hq
      have hF : f_r [17, 18, 19, 54, 60, 61, 62, 200] [39, 40, 41, 42, 43, 84, 85, 86, 88, 89, 90, 95, 97, 98, 99, 100] [8] σ τ10 := f_t hF hf (by decide) (by decide) (by decide)
      have hB := hN
      have hbk : b_k σ τ10 lb _ _ := b_kt hbk (hf.1 200 (by decide))
      refine bi_if_ne (tgt := 23) hx hb r_x9 dX2_makeBody_19 (by decide) (fun c11 => ?_) (fun c11 => ?_)
      ·
        replace hw := hw.1 c11
        refine lv_aload_n hx hb dX2_makeBody_23 rfl (lv_at hl 0 rfl) ?_
        refine lv_aload_n hx hb dX2_makeBody_24 rfl (lv_at hl 0 rfl) ?_
        refine gfX2_secondTree hx hb hts hK hP hown (hts _ tw_815) (x := τ10.1 62) rfl dX2_makeBody_25 ?_
        refine lv_aload_n hx hb dX2_makeBody_28 rfl (lv_at hl 0 rfl) ?_
        refine gfX2_tree hx hb hts hK hP hown (hts _ tw_799) dX2_makeBody_29 ?_
        refine lv_aload_n hx hb dX2_makeBody_32 rfl (lv_at hl 0 rfl) ?_
        refine gfX2_secondTree hx hb hts hK hP hown (hts _ tw_815) (x := τ10.1 62) rfl dX2_makeBody_33 ?_
        obtain ⟨Q12, hc, hw⟩ := hw
        have hlb := b_klt hbk
        refine wc_i (X := CX g q lb) (va_runV (As := [.int (I (τ10.1 62))]) (rest := [.int (I (τ10.1 62)), .ref (q 11)]) ⟨hx, hb, hml, hown, hts⟩ (L_X11_behind l g q lb hlb (hB.1 62) hN hc H.size) (cwV 1 hts (TB_V tw_1825 tw_1826 tw_1827 tw_12 co_X11_behind) rfl rfl rfl (by decide +kernel) ⟨Nat.le_of_ble_eq_true rfl, Nat.le_of_ble_eq_true rfl⟩) (preV (q0 := 10) (ci := 11) rfl xT_bl hP hK hNb hD rfl rfl xT_at) rfl rfl hl.1 rfl (lv_room (Nat.le_of_ble_eq_true rfl)) dX2_makeBody_36 (b_r0 hbk h200)) hP hD hS hA (fun x13 H locs r_x13 hq hP hD hS => ?_)
        replace hw := hw x13 r_x13 hq
        refine lv_iload_n hx hb dX2_makeBody_39 rfl (lv_at hl 1 rfl) ?_
        obtain ⟨Q15, hc, hw⟩ := hw
        have hlb := b_klt hbk
        rw [← b_kl hbk] at hc
        refine wc_I (X := CX g q lb) (va_runV (As := [.int (I (τ10.1 62)), .int (I x13), .int (I u1)]) (rest := []) ⟨hx, hb, hml, hown, hts⟩ (L_X2_evaluate l g q lb hlb (hB.1 62) r_x13 r_u1 hN hc H.size) (cwV 3 hts (TB_V tw_1855 tw_1856 tw_1857 tw_13 co_X2_evaluate) rfl rfl rfl (by decide +kernel) ⟨Nat.le_of_ble_eq_true rfl, Nat.le_of_ble_eq_true rfl⟩) (preV (q0 := 11) (ci := 2) rfl xT_bl hP hK hNb hD rfl rfl xT_at) rfl rfl hl.1 rfl (lv_room (Nat.le_of_ble_eq_true rfl)) dX2_makeBody_40 (b_r0 hbk h200)) hP hD hS hA (fun x16 τ17 H locs r_x16 hN hf hq hP hD hS => ?_)
        replace hw := hw x16 τ17 r_x16 hN hf hq
        have hF : f_r [17, 18, 19, 54, 60, 61, 62, 200] [39, 40, 41, 42, 43, 84, 85, 86, 88, 89, 90, 95, 97, 98, 99, 100] [8] σ τ17 := f_t hF hf (by decide) (by decide) (by decide)
        have hB := hN
        have hbk : b_k σ τ17 lb _ _ := b_kt hbk (hf.1 200 (by decide))
        refine lv_istore_n (lv' := [(3, .int (I x16)), (0, .ref (q 11)), (1, .int (I u1)), (2, .int (I u2))]) hx hb dX2_makeBody_43 rfl hl (by decide) rfl (fun ls hl => ?_)
        refine lv_aload_n hx hb dX2_makeBody_44 rfl (lv_at hl 1 rfl) ?_
        refine lv_iload_n hx hb dX2_makeBody_45 rfl (lv_at hl 3 rfl) ?_
        obtain ⟨Q18, hc, hw⟩ := hw
        have hlb := b_klt hbk
        refine wc_V (X := CX g q lb) (va_runV (As := [.int (I u2)]) (rest := []) ⟨hx, hb, hml, hown, hts⟩ (L_X2_clearSlots l g q lb hlb r_u2 hN hc H.size) (cwV 1 hts (TB_V tw_1838 tw_1840 ts_89 tw_13 co_X2_clearSlots) rfl rfl rfl (by decide +kernel) ⟨Nat.le_of_ble_eq_true rfl, Nat.le_of_ble_eq_true rfl⟩) (preV (q0 := 11) (ci := 2) rfl xT_bl hP hK hNb hD rfl rfl xT_at) rfl rfl hl.1 rfl (lv_room (Nat.le_of_ble_eq_true rfl)) dX2_makeBody_46 (b_r0 hbk h200)) hP hD hS hA (fun τ20 H locs hN hf hq hP hD hS => ?_)
        replace hw := hw τ20 hN hf hq
        have hF : f_r [17, 18, 19, 54, 60, 61, 62, 200] [39, 40, 41, 42, 43, 84, 85, 86, 88, 89, 90, 95, 97, 98, 99, 100] [8] σ τ20 := f_t hF hf (by decide) (by decide) (by decide)
        have hB := hN
        have hbk : b_k σ τ20 lb _ _ := b_kt hbk (hf.1 200 (by decide))
        refine lv_aload_n hx hb dX2_makeBody_49 rfl (lv_at hl 1 rfl) ?_
        refine gfX2_definedBy hx hb hts hK hP hown (hts _ tw_805) dX2_makeBody_50 ?_
        refine lv_iload_n hx hb dX2_makeBody_53 rfl (lv_at hl 3 rfl) ?_
        refine lv_iload_n hx hb dX2_makeBody_54 rfl (lv_at hl 2 rfl) ?_
        refine lv_iconst (v := I 1) hx hb dX2_makeBody_55 rfl ?_
        refine bi_iadd hx hb dX2_makeBody_56 ?_
        obtain ⟨c21, hw⟩ := hw
        obtain ⟨c22, hw⟩ := hw
        refine sdCX2_definedBy hx hb hK hP hD hS c21 dX2_makeBody_57 (fun H locs hP hD hS => ?_)
        have hN : n_m (s_a τ20 95 u2 (u1 + 1)) := n_a (k := 95) (j := u2) hN (c22 : rg (u1 + 1))
        have hF : f_r [17, 18, 19, 54, 60, 61, 62, 200] [39, 40, 41, 42, 43, 84, 85, 86, 88, 89, 90, 95, 97, 98, 99, 100] [8] σ (s_a τ20 95 u2 (u1 + 1)) := f_a hF (by decide)
        have hbk : b_k σ (s_a τ20 95 u2 (u1 + 1)) lb _ _ := hbk
        refine lv_aload_n hx hb dX2_makeBody_58 rfl (lv_at hl 1 rfl) ?_
        refine gfX2_bodySize hx hb hts hK hP hown (hts _ tw_811) dX2_makeBody_59 ?_
        refine lv_iload_n hx hb dX2_makeBody_62 rfl (lv_at hl 3 rfl) ?_
        refine lv_bipush (v := I (-2)) hx hb dX2_makeBody_63 (by decide) ?_
        refine sdCX2_bodySize hx hb hK hP hD hS c21 dX2_makeBody_65 (fun H locs hP hD hS => ?_)
        have hN : n_m (s_a (s_a τ20 95 u2 (u1 + 1)) 99 u2 (-2)) := n_a (k := 99) (j := u2) hN ((by decide) : rg (-2))
        have hF : f_r [17, 18, 19, 54, 60, 61, 62, 200] [39, 40, 41, 42, 43, 84, 85, 86, 88, 89, 90, 95, 97, 98, 99, 100] [8] σ (s_a (s_a τ20 95 u2 (u1 + 1)) 99 u2 (-2)) := f_a hF (by decide)
        have hbk : b_k σ (s_a (s_a τ20 95 u2 (u1 + 1)) 99 u2 (-2)) lb _ _ := hbk
        refine lv_iload_n hx hb dX2_makeBody_66 rfl (lv_at hl 0 rfl) ?_
        refine bi_if_ne (tgt := 71) hx hb r_x16 dX2_makeBody_67 (by decide) (fun c23 => ?_) (fun c23 => ?_)
        ·
          replace hw := hw.1 c23
          refine lv_aload_n hx hb dX2_makeBody_71 rfl (lv_at hl 1 rfl) ?_
          refine gfX2_pile hx hb hts hK hP hown (hts _ tw_800) dX2_makeBody_72 ?_
          refine gfNX6_size hx hb hts hK hP hown (nb_use hNb tn_357) dX2_makeBody_75 ?_
          refine lv_iconst (v := I 0) hx hb dX2_makeBody_78 rfl ?_
          refine ldCX6_size hx hb hK hP hN (by decide) dX2_makeBody_79 (fun x24 r_x24 e_x24 => ?_)
          replace hw := hw x24 r_x24 e_x24
          refine lv_istore (lv' := [(4, .int (I x24)), (3, .int (I x16)), (0, .ref (q 11)), (1, .int (I u1)), (2, .int (I u2))]) hx hb dX2_makeBody_80 hl (by decide) rfl (fun ls hl => ?_)
          refine lv_aload_n hx hb dX2_makeBody_82 rfl (lv_at hl 2 rfl) ?_
          refine gfX2_bodiesUsed hx hb hts hK hP hown (hts _ tw_812) (x := τ20.1 60) rfl dX2_makeBody_83 ?_
          refine lv_iload hx hb dX2_makeBody_86 (lv_at hl 0 rfl) ?_
          refine bi_iadd hx hb dX2_makeBody_88 ?_
          refine lv_aload_n hx hb dX2_makeBody_89 rfl (lv_at hl 2 rfl) ?_
          refine gfX2_bodies hx hb hts hK hP hown (hts _ tw_809) dX2_makeBody_90 ?_
          refine va_alen hx hb hK hP 119 0 rfl rfl (v := I (τ20.1 200)) (b_len hbk) dX2_makeBody_93 ?_
          obtain ⟨c25, hw⟩ := hw
          refine bi_icmp_le (tgt := 115) hx hb c25 (hB.1 200) dX2_makeBody_94 (by decide) (fun c26 => ?_) (fun c26 => ?_)
          ·
            replace hw := hw.1 c26
            exact (hP115 _ _ _).mp hw r_u2 r_x24 hN hF _ _ _ _ hbq hbk H locs ls hP hD hS (lv_sub hl [2, 4, 0] rfl)
          ·
            replace hw := hw.2 c26
            refine lv_aload_n hx hb dX2_makeBody_97 rfl (lv_at hl 2 rfl) ?_
            refine lv_aload_n hx hb dX2_makeBody_98 rfl (lv_at hl 2 rfl) ?_
            refine gfX2_bodies hx hb hts hK hP hown (hts _ tw_809) dX2_makeBody_99 ?_
            refine lv_iconst (v := I 2) hx hb dX2_makeBody_102 rfl ?_
            refine lv_aload_n hx hb dX2_makeBody_103 rfl (lv_at hl 2 rfl) ?_
            refine gfX2_bodies hx hb hts hK hP hown (hts _ tw_809) dX2_makeBody_104 ?_
            refine va_alen hx hb hK hP 119 0 rfl rfl (v := I (τ20.1 200)) (b_len hbk) dX2_makeBody_107 ?_
            refine bi_imul hx hb dX2_makeBody_108 ?_
            obtain ⟨c27, hw⟩ := hw
            rw [show (2 * τ20.1 200 : Int) = ((2 * lb : Nat) : Int) from b_2 hbk]
            refine wc_grow hx hb hml hown hts hK hNb hP hD hS hA hN (b_g1 hbk h200) (b_g2 hbk c27) hl (Nat.le_of_ble_eq_true rfl) (Nat.le_of_ble_eq_true rfl) (Nat.le_of_ble_eq_true rfl) (b_g3 hbk h200 c27) (b_g4 hbk h200 c27) dX2_makeBody_109 (fun ra H locs hP hD hS => ?_)
            have hbk2 := b_g5 hbk h200 c27
            rw [b_kl hbk] at hP hD
            refine pf_grow hx hb hts hK hP hD hS hown (hts _ tw_809) dX2_makeBody_112 (fun H locs hP hD hS => ?_)
            rw [← b_kl hbk] at hP hD
            obtain ⟨q, hq9⟩ : ∃ z : Nat → Nat, z = qn q ra := ⟨_, rfl⟩
            obtain ⟨lb, hl9⟩ : ∃ z : Nat, z = 2 * lb := ⟨_, rfl⟩
            have hbk2 := hbk2 lb hl9
            rw [← hq9, ← hl9, b_kl hbk] at hP hD
            have hbq := bq_t hbq hq9
            have hl : lv_has ls 5 [(4, .int (I x24)), (3, .int (I x16)), (0, .ref (q 11)), (1, .int (I u1)), (2, .int (I u2))] := by rw [hq9]; exact hl
            have hN : n_m (s_f (s_a (s_a τ20 95 u2 (u1 + 1)) 99 u2 (-2)) 97 (c_gr (L2 τ20) (τ20.2.1 97))) := n_f (k := 97) (f := (c_gr (L2 τ20) (τ20.2.1 97))) hN (n_cpy (hN.2 97) (fun _ => (by decide : rg 0)) _ _ _)
            have hF : f_r [17, 18, 19, 54, 60, 61, 62, 200] [39, 40, 41, 42, 43, 84, 85, 86, 88, 89, 90, 95, 97, 98, 99, 100] [8] σ (s_f (s_a (s_a τ20 95 u2 (u1 + 1)) 99 u2 (-2)) 97 (c_gr (L2 τ20) (τ20.2.1 97))) := f_f hF (by decide)
            have hN : n_m (s_v (s_f (s_a (s_a τ20 95 u2 (u1 + 1)) 99 u2 (-2)) 97 (c_gr (L2 τ20) (τ20.2.1 97))) 200 (2 * τ20.1 200)) := n_v (i := 200) hN (b_g6 hbk2 : rg (2 * τ20.1 200))
            have hF : f_r [17, 18, 19, 54, 60, 61, 62, 200] [39, 40, 41, 42, 43, 84, 85, 86, 88, 89, 90, 95, 97, 98, 99, 100] [8] σ (s_v (s_f (s_a (s_a τ20 95 u2 (u1 + 1)) 99 u2 (-2)) 97 (c_gr (L2 τ20) (τ20.2.1 97))) 200 (2 * τ20.1 200)) := f_v hF (by decide)
            have hP : KP g (CX g q lb (s_v (s_f (s_a (s_a τ20 95 u2 (u1 + 1)) 99 u2 (-2)) 97 (c_gr (L2 τ20) (τ20.2.1 97))) 200 (2 * τ20.1 200))) H := hP
            have hD : va_D A (CX g q lb (s_v (s_f (s_a (s_a τ20 95 u2 (u1 + 1)) 99 u2 (-2)) 97 (c_gr (L2 τ20) (τ20.2.1 97))) 200 (2 * τ20.1 200))) := hD
            have hbk : b_k σ (s_v (s_f (s_a (s_a τ20 95 u2 (u1 + 1)) 99 u2 (-2)) 97 (c_gr (L2 τ20) (τ20.2.1 97))) 200 (2 * τ20.1 200)) lb _ _ := hbk2
            exact (hP115 _ _ _).mp hw r_u2 r_x24 hN hF _ _ _ _ hbq hbk H locs ls hP hD hS (lv_sub hl [2, 4, 0] rfl)
        ·
          replace hw := hw.2 c23
          obtain ⟨ra, hqr⟩ := hbq
          exact xrB hx hb hr hlk hP hK hD hS ⟨ra, _, hN, hF, (by rw [hqr, b_kl hbk]), b_ks hbk, hw⟩ (b_r0 hbk h200).1 (b_r0 hbk h200).2 dX2_makeBody_70
      ·
        replace hw := hw.2 c11
        obtain ⟨ra, hqr⟩ := hbq
        exact xrB hx hb hr hlk hP hK hD hS ⟨ra, _, hN, hF, (by rw [hqr, b_kl hbk]), b_ks hbk, hw⟩ (b_r0 hbk h200).1 (b_r0 hbk h200).2 dX2_makeBody_22
  ·
    intro u2 u4 τ hw
    refine (hP115 _ _ _).mpr ?_
    intro r_u2 r_u4 hN hF q lb cells slots hbq hbk H locs ls hP hD hS hl
    have hB := hN
    refine lv_aload_n hx hb dX2_makeBody_115 rfl (lv_at hl 0 rfl) ?_
    refine gfX2_bodyAt hx hb hts hK hP hown (hts _ tw_810) dX2_makeBody_116 ?_
    refine lv_iload_n hx hb dX2_makeBody_119 rfl (lv_at hl 1 rfl) ?_
    refine lv_aload_n hx hb dX2_makeBody_120 rfl (lv_at hl 0 rfl) ?_
    refine gfX2_bodiesUsed hx hb hts hK hP hown (hts _ tw_812) (x := τ.1 60) rfl dX2_makeBody_121 ?_
    obtain ⟨c28, hw⟩ := hw
    refine sdCX2_bodyAt hx hb hK hP hD hS c28 dX2_makeBody_124 (fun H locs hP hD hS => ?_)
    have hN : n_m (s_a τ 98 u2 (τ.1 60)) := n_a (k := 98) (j := u2) hN ((hB.1 60) : rg (τ.1 60))
    have hF : f_r [17, 18, 19, 54, 60, 61, 62, 200] [39, 40, 41, 42, 43, 84, 85, 86, 88, 89, 90, 95, 97, 98, 99, 100] [8] σ (s_a τ 98 u2 (τ.1 60)) := f_a hF (by decide)
    have hbk : b_k σ (s_a τ 98 u2 (τ.1 60)) lb _ _ := hbk
    refine lv_aload_n hx hb dX2_makeBody_125 rfl (lv_at hl 0 rfl) ?_
    refine gfX2_bodySize hx hb hts hK hP hown (hts _ tw_811) dX2_makeBody_126 ?_
    refine lv_iload_n hx hb dX2_makeBody_129 rfl (lv_at hl 1 rfl) ?_
    refine lv_iload hx hb dX2_makeBody_130 (lv_at hl 2 rfl) ?_
    refine sdCX2_bodySize hx hb hK hP hD hS c28 dX2_makeBody_132 (fun H locs hP hD hS => ?_)
    have hN : n_m (s_a (s_a τ 98 u2 (τ.1 60)) 99 u2 u4) := n_a (k := 99) (j := u2) hN (r_u4 : rg u4)
    have hF : f_r [17, 18, 19, 54, 60, 61, 62, 200] [39, 40, 41, 42, 43, 84, 85, 86, 88, 89, 90, 95, 97, 98, 99, 100] [8] σ (s_a (s_a τ 98 u2 (τ.1 60)) 99 u2 u4) := f_a hF (by decide)
    have hbk : b_k σ (s_a (s_a τ 98 u2 (τ.1 60)) 99 u2 u4) lb _ _ := hbk
    refine lv_aload_n hx hb dX2_makeBody_133 rfl (lv_at hl 0 rfl) ?_
    refine gfX2_pile hx hb hts hK hP hown (hts _ tw_800) dX2_makeBody_134 ?_
    refine gfNX6_data hx hb hts hK hP hown (nb_use hNb tn_348) dX2_makeBody_137 ?_
    refine lv_aload_n hx hb dX2_makeBody_140 rfl (lv_at hl 0 rfl) ?_
    refine gfX2_pile hx hb hts hK hP hown (hts _ tw_800) dX2_makeBody_141 ?_
    refine gfNX6_at hx hb hts hK hP hown (nb_use hNb tn_354) dX2_makeBody_144 ?_
    refine lv_iconst (v := I 0) hx hb dX2_makeBody_147 rfl ?_
    refine ldCX6_at hx hb hK hP hN (by decide) dX2_makeBody_148 (fun x29 r_x29 e_x29 => ?_)
    replace hw := hw x29 r_x29 e_x29
    refine lv_aload_n hx hb dX2_makeBody_149 rfl (lv_at hl 0 rfl) ?_
    refine gfX2_bodies hx hb hts hK hP hown (hts _ tw_809) dX2_makeBody_150 ?_
    refine lv_aload_n hx hb dX2_makeBody_153 rfl (lv_at hl 0 rfl) ?_
    refine gfX2_bodiesUsed hx hb hts hK hP hown (hts _ tw_812) (x := τ.1 60) rfl dX2_makeBody_154 ?_
    refine lv_iload hx hb dX2_makeBody_157 (lv_at hl 2 rfl) ?_
    obtain ⟨c30, hw⟩ := hw
    refine wr_cpy hx hb (by rw [hml]; exact hl.1.symm) hown (hts _ tw_1873) (hts _ tw_1297) (hts _ tw_1296) (hts _ tw_17) hK hP hD hS 55 119 (f := (τ.2.1 39)) (h := (τ.2.1 97)) rfl rfl r_x29 (hB.1 60) r_u4 c30.1 c30.2.1 c30.2.2.1 c30.2.2.2.1 (b_cpy hbk c30.2.2.2.2) (Nat.le_of_ble_eq_true rfl) (show _ ≤ 151 from by decide) dX2_makeBody_159 (ws' := CX g q lb (s_f (s_a (s_a τ 98 u2 (τ.1 60)) 99 u2 u4) 97 (c_py (τ.2.1 39) (τ.2.1 97) x29 (τ.1 60) u4))) (Csa97 _) (fun H locs hP hD hS => ?_)
    have hN : n_m (s_f (s_a (s_a τ 98 u2 (τ.1 60)) 99 u2 u4) 97 (c_py (τ.2.1 39) (τ.2.1 97) x29 (τ.1 60) u4)) := n_f (k := 97) (f := (c_py (τ.2.1 39) (τ.2.1 97) x29 (τ.1 60) u4)) hN (n_cpy (hN.2 39) (hN.2 97) _ _ _)
    have hF : f_r [17, 18, 19, 54, 60, 61, 62, 200] [39, 40, 41, 42, 43, 84, 85, 86, 88, 89, 90, 95, 97, 98, 99, 100] [8] σ (s_f (s_a (s_a τ 98 u2 (τ.1 60)) 99 u2 u4) 97 (c_py (τ.2.1 39) (τ.2.1 97) x29 (τ.1 60) u4)) := f_f hF (by decide)
    have hbk : b_k σ (s_f (s_a (s_a τ 98 u2 (τ.1 60)) 99 u2 u4) 97 (c_py (τ.2.1 39) (τ.2.1 97) x29 (τ.1 60) u4)) lb _ _ := hbk
    refine lv_aload_n hx hb dX2_makeBody_162 rfl (lv_at hl 0 rfl) ?_
    refine lv_dup hx hb dX2_makeBody_163 rfl ?_
    refine gfX2_bodiesUsed hx hb hts hK hP hown (hts _ tw_812) (x := τ.1 60) rfl dX2_makeBody_164 ?_
    refine lv_iload hx hb dX2_makeBody_167 (lv_at hl 2 rfl) ?_
    refine bi_iadd hx hb dX2_makeBody_169 ?_
    obtain ⟨c31, hw⟩ := hw
    refine pfX2_bodiesUsed hx hb hts hK hP hD hS hown (hts _ tw_812) dX2_makeBody_170 (fun H locs hP hD hS => ?_)
    have hN : n_m (s_v (s_f (s_a (s_a τ 98 u2 (τ.1 60)) 99 u2 u4) 97 (c_py (τ.2.1 39) (τ.2.1 97) x29 (τ.1 60) u4)) 60 (τ.1 60 + u4)) := n_v (i := 60) hN (c31 : rg (τ.1 60 + u4))
    have hF : f_r [17, 18, 19, 54, 60, 61, 62, 200] [39, 40, 41, 42, 43, 84, 85, 86, 88, 89, 90, 95, 97, 98, 99, 100] [8] σ (s_v (s_f (s_a (s_a τ 98 u2 (τ.1 60)) 99 u2 u4) 97 (c_py (τ.2.1 39) (τ.2.1 97) x29 (τ.1 60) u4)) 60 (τ.1 60 + u4)) := f_v hF (by decide)
    have hbk : b_k σ (s_v (s_f (s_a (s_a τ 98 u2 (τ.1 60)) 99 u2 u4) 97 (c_py (τ.2.1 39) (τ.2.1 97) x29 (τ.1 60) u4)) 60 (τ.1 60 + u4)) lb _ _ := hbk
    obtain ⟨ra, hqr⟩ := hbq
    exact xrB hx hb hr hlk hP hK hD hS ⟨ra, _, hN, hF, (by rw [hqr, b_kl hbk]), b_ks hbk, hw⟩ (b_r0 hbk h200).1 (b_r0 hbk h200).2 dX2_makeBody_173
def W_X2_prepare (n1 : Int) (σ : S0) (Q : S0 → Prop) : Prop :=
  (16384 ≤ σ.1 200 ∧ σ.1 200 ≤ 1048576) ∧ (∀ (P0 : Int → S0 → Prop) (P5 : Int → Int → S0 → Prop),
  (∀ (u1 : Int) (τ : S0), (P5 u1 (τ.1 59) τ) → P0 u1 τ) →
  (∀ (u1 : Int) (u2 : Int) (τ : S0), ((u1 ≤ u2 → ∀ (x2 : Int), rg x2 → τ.1 59 ≤ x2 → u1 ≤ x2 → (x2 = τ.1 59 ∨ x2 = u1) → (Q (s_v τ 59 x2))) ∧ (u2 < u1 → ∃ (Q3 : Int → Prop), W_X2_definedRule u2 τ Q3 ∧ ∀ (x4 : Int), rg x4 → Q3 x4 → ((¬ x4 = (-1) → ∃ (Q7 : S0 → Prop), W_X1_takeStatement u2 τ Q7 ∧ ∀ (τ9 : S0), n_m τ9 → f_r [50, 51, 52] [77, 78] [3] τ τ9 → Q7 τ9 → (∃ (Q10 : Int → S0 → Prop), W_X1_countTrees τ9 Q10 ∧ ∀ (x11 : Int) (τ12 : S0), rg x11 → n_m τ12 → f_r [53] [79, 80, 81, 82, 83] [3, 4, 5, 6, 7] τ9 τ12 → Q10 x11 τ12 → ((¬ x11 = 1 → rg (u2 + 1) ∧ P5 u1 (u2 + 1) τ12) ∧ (x11 = 1 → ∃ (Q15 : S0 → Prop), W_X2_makeBody u2 x4 τ12 Q15 ∧ ∀ (τ17 : S0), n_m τ17 → f_r [17, 18, 19, 54, 60, 61, 62, 200] [39, 40, 41, 42, 43, 84, 85, 86, 88, 89, 90, 95, 97, 98, 99, 100] [8] τ12 τ17 → Q15 τ17 → ((τ17.1 200 ≤ 1048576) ∧ (rg (u2 + 1) ∧ P5 u1 (u2 + 1) τ17)))))) ∧ (x4 = (-1) → rg (u2 + 1) ∧ P5 u1 (u2 + 1) τ)))) → P5 u1 u2 τ) →
  P0 n1 σ)
set_option maxRecDepth 100000 in
set_option maxHeartbeats 4000000 in
theorem L_X2_prepare (l : Launch) (g : gG) (q0 : Nat → Nat) {n1 : Int} {σ : S0} {Q : S0 → Prop} (r_n1 : rg n1) (hN : n_m σ) (hw : W_X2_prepare n1 σ Q) (sz : Nat) : Met l yX2_prepare (wd yX2_prepare cX2_prepare 4 none) { frames := 5, cells := b_c σ, slots := b_s σ, locals := 175 } (va_Pc [.ref (q0 11), .int (I n1)] (cP g (CX g q0 (L2 σ) σ) sz xT)) (Qc2 ((fun A k n => QV g A (p_B g q0 [17, 18, 19, 50, 51, 52, 53, 54, 59, 60, 61, 62, 200] [39, 40, 41, 42, 43, 77, 78, 79, 80, 81, 82, 83, 84, 85, 86, 88, 89, 90, 95, 97, 98, 99, 100] [3, 4, 5, 6, 7, 8] σ Q k n)) (va_A (CX g q0 (L2 σ) σ) sz)) (b_c σ) (b_s σ) (va_A (CX g q0 (L2 σ) σ) sz)) (b_c σ) (b_s σ) (va_A (CX g q0 (L2 σ) σ) sz) := by
  refine mkMet2 (Qc := fun A k n => QV g A (p_B g q0 [17, 18, 19, 50, 51, 52, 53, 54, 59, 60, 61, 62, 200] [39, 40, 41, 42, 43, 77, 78, 79, 80, 81, 82, 83, 84, 85, 86, 88, 89, 90, 95, 97, 98, 99, 100] [3, 4, 5, 6, 7, 8] σ Q k n)) (by decide) (Nat.le_of_ble_eq_true rfl) ?_
  intro p e s m below meth c A H ls hx hb hr hml hown hts hlk hnm hsz hP hK hNb hD hA hAe hS hX hl
  have hl : lv_has ls 4 [(0, .ref (q0 11)), (1, .int (I n1))] := hl
  obtain ⟨h200, hw⟩ := hw
  obtain ⟨q, hq9⟩ : ∃ z : Nat → Nat, z = q0 := ⟨_, rfl⟩
  obtain ⟨lb, hl9⟩ : ∃ z : Nat, z = L2 σ := ⟨_, rfl⟩
  rw [← hq9, ← hl9] at hP hD
  have hl : lv_has ls 4 [(0, .ref (q 11)), (1, .int (I n1))] := by rw [hq9]; exact hl
  have hbq : bq q0 q := by rw [hq9]; exact bq_0
  have hbk : b_k σ σ lb 0 0 := b_k0 h200 hl9
  have hB := hN
  have hF : f_r [17, 18, 19, 50, 51, 52, 53, 54, 59, 60, 61, 62, 200] [39, 40, 41, 42, 43, 77, 78, 79, 80, 81, 82, 83, 84, 85, 86, 88, 89, 90, 95, 97, 98, 99, 100] [3, 4, 5, 6, 7, 8] σ σ := f_0
  obtain ⟨locs, hlocs⟩ : ∃ z : List Loc, z = [] := ⟨_, rfl⟩
  rw [← hlocs] at hS ⊢
  obtain ⟨P0, hP0⟩ : ∃ P : Int → S0 → Prop, ∀ (u1 : Int) (τ : S0), (P u1 τ ↔ (rg u1 → n_m τ → f_r [17, 18, 19, 50, 51, 52, 53, 54, 59, 60, 61, 62, 200] [39, 40, 41, 42, 43, 77, 78, 79, 80, 81, 82, 83, 84, 85, 86, 88, 89, 90, 95, 97, 98, 99, 100] [3, 4, 5, 6, 7, 8] σ τ → ∀ (q : Nat → Nat) (lb cells slots : Nat), bq q0 q → b_k σ τ lb cells slots → ∀ (H : Heap) (locs : List Loc) (ls : Array Slot), KP g (CX g q lb τ) H → va_D A (CX g q lb τ) → va_S A s.heap H locs → lv_has ls 4 [(0, .ref (q 11)), (1, .int (I u1))] → W p l e ({ frames := 5, cells := b_c σ, slots := b_s σ, locals := 175 }) s m [.ref (q0 11), .int (I n1)].toArray below meth c H locs cells slots (MQ2 below (fun k n => QV g A (p_B g q0 [17, 18, 19, 50, 51, 52, 53, 54, 59, 60, 61, 62, 200] [39, 40, 41, 42, 43, 77, 78, 79, 80, 81, 82, 83, 84, 85, 86, 88, 89, 90, 95, 97, 98, 99, 100] [3, 4, 5, 6, 7, 8] σ Q k n)) [.ref (q0 11), .int (I n1)].toArray s (b_c σ) (b_s σ) A) (F0 m 0 ls []))) := ⟨_, fun _ _ => Iff.rfl⟩
  obtain ⟨P5, hP5⟩ : ∃ P : Int → Int → S0 → Prop, ∀ (u1 : Int) (u2 : Int) (τ : S0), (P u1 u2 τ ↔ (rg u1 → rg u2 → n_m τ → f_r [17, 18, 19, 50, 51, 52, 53, 54, 59, 60, 61, 62, 200] [39, 40, 41, 42, 43, 77, 78, 79, 80, 81, 82, 83, 84, 85, 86, 88, 89, 90, 95, 97, 98, 99, 100] [3, 4, 5, 6, 7, 8] σ τ → ∀ (q : Nat → Nat) (lb cells slots : Nat), bq q0 q → b_k σ τ lb cells slots → ∀ (H : Heap) (locs : List Loc) (ls : Array Slot), KP g (CX g q lb τ) H → va_D A (CX g q lb τ) → va_S A s.heap H locs → lv_has ls 4 [(0, .ref (q 11)), (1, .int (I u1)), (2, .int (I u2))] → W p l e ({ frames := 5, cells := b_c σ, slots := b_s σ, locals := 175 }) s m [.ref (q0 11), .int (I n1)].toArray below meth c H locs cells slots (MQ2 below (fun k n => QV g A (p_B g q0 [17, 18, 19, 50, 51, 52, 53, 54, 59, 60, 61, 62, 200] [39, 40, 41, 42, 43, 77, 78, 79, 80, 81, 82, 83, 84, 85, 86, 88, 89, 90, 95, 97, 98, 99, 100] [3, 4, 5, 6, 7, 8] σ Q k n)) [.ref (q0 11), .int (I n1)].toArray s (b_c σ) (b_s σ) A) (F0 m 5 ls []))) := ⟨_, fun _ _ _ => Iff.rfl⟩
  refine (fun hw => ?_) (hw P0 P5 ?_ ?_)
  ·
    exact (hP0 _ _).mp hw r_n1 hN hF _ _ _ _ hbq hbk H locs ls hP hD hS (lv_sub hl [0, 1] rfl)
  ·
    intro u1 τ hw
    refine (hP0 _ _).mpr ?_
    intro r_u1 hN hF q lb cells slots hbq hbk H locs ls hP hD hS hl
    have hB := hN
    refine lv_aload_n hx hb dX2_prepare_0 rfl (lv_at hl 0 rfl) ?_
    refine gfX2_prepared hx hb hts hK hP hown (hts _ tw_808) (x := τ.1 59) rfl dX2_prepare_1 ?_
    refine lv_istore_n (lv' := [(2, .int (I (τ.1 59))), (0, .ref (q 11)), (1, .int (I u1))]) hx hb dX2_prepare_4 rfl hl (by decide) rfl (fun ls hl => ?_)
    exact (hP5 _ _ _).mp hw r_u1 (hB.1 59) hN hF _ _ _ _ hbq hbk H locs ls hP hD hS (lv_sub hl [1, 2, 0] rfl)
  ·
    intro u1 u2 τ hw
    refine (hP5 _ _ _).mpr ?_
    intro r_u1 r_u2 hN hF q lb cells slots hbq hbk H locs ls hP hD hS hl
    have hB := hN
    refine lv_iload_n hx hb dX2_prepare_5 rfl (lv_at hl 2 rfl) ?_
    refine lv_iload_n hx hb dX2_prepare_6 rfl (lv_at hl 1 rfl) ?_
    refine bi_icmp_ge (tgt := 55) hx hb r_u2 r_u1 dX2_prepare_7 (by decide) (fun c1 => ?_) (fun c1 => ?_)
    ·
      replace hw := hw.1 c1
      refine lv_aload_n hx hb dX2_prepare_55 rfl (lv_at hl 0 rfl) ?_
      refine lv_aload_n hx hb dX2_prepare_56 rfl (lv_at hl 0 rfl) ?_
      refine gfX2_prepared hx hb hts hK hP hown (hts _ tw_808) (x := τ.1 59) rfl dX2_prepare_57 ?_
      refine lv_iload_n hx hb dX2_prepare_60 rfl (lv_at hl 1 rfl) ?_
      refine bi_mmax hx hb (by rw [hml]; exact hl.1.symm) hown (hts _ tw_1842) (hts _ tw_1119) (hts _ tw_16) (hts _ tw_1120) (Nat.le_of_ble_eq_true rfl) (Nat.le_of_ble_eq_true rfl) (b_r0 hbk h200).1 (b_r0 hbk h200).2 (hB.1 59) r_u1 dX2_prepare_61 (fun x2 r_x2 p_x2 m_x2 o_x2 => ?_)
      replace hw := hw x2 r_x2 p_x2 m_x2 o_x2
      refine pfX2_prepared hx hb hts hK hP hD hS hown (hts _ tw_808) dX2_prepare_64 (fun H locs hP hD hS => ?_)
      have hN : n_m (s_v τ 59 x2) := n_v (i := 59) hN (r_x2 : rg x2)
      have hF : f_r [17, 18, 19, 50, 51, 52, 53, 54, 59, 60, 61, 62, 200] [39, 40, 41, 42, 43, 77, 78, 79, 80, 81, 82, 83, 84, 85, 86, 88, 89, 90, 95, 97, 98, 99, 100] [3, 4, 5, 6, 7, 8] σ (s_v τ 59 x2) := f_v hF (by decide)
      have hbk : b_k σ (s_v τ 59 x2) lb _ _ := hbk
      obtain ⟨ra, hqr⟩ := hbq
      exact xrB hx hb hr hlk hP hK hD hS ⟨ra, _, hN, hF, (by rw [hqr, b_kl hbk]), b_ks hbk, hw⟩ (b_r0 hbk h200).1 (b_r0 hbk h200).2 dX2_prepare_67
    ·
      replace hw := hw.2 c1
      refine lv_aload_n hx hb dX2_prepare_10 rfl (lv_at hl 0 rfl) ?_
      refine lv_iload_n hx hb dX2_prepare_11 rfl (lv_at hl 2 rfl) ?_
      obtain ⟨Q3, hc, hw⟩ := hw
      have hlb := b_klt hbk
      refine wc_i (X := CX g q lb) (va_runV (As := [.int (I u2)]) (rest := []) ⟨hx, hb, hml, hown, hts⟩ (L_X2_definedRule l g q lb hlb r_u2 hN hc H.size) (cwV 1 hts (TB_V tw_1847 tw_1848 tw_1849 tw_13 co_X2_definedRule) rfl rfl rfl (by decide +kernel) ⟨Nat.le_of_ble_eq_true rfl, Nat.le_of_ble_eq_true rfl⟩) (preV (q0 := 11) (ci := 2) rfl xT_bl hP hK hNb hD rfl rfl xT_at) rfl rfl hl.1 rfl (lv_room (Nat.le_of_ble_eq_true rfl)) dX2_prepare_12 (b_r0 hbk h200)) hP hD hS hA (fun x4 H locs r_x4 hq hP hD hS => ?_)
      replace hw := hw x4 r_x4 hq
      refine lv_istore_n (lv' := [(3, .int (I x4)), (0, .ref (q 11)), (1, .int (I u1)), (2, .int (I u2))]) hx hb dX2_prepare_15 rfl hl (by decide) rfl (fun ls hl => ?_)
      refine lv_iload_n hx hb dX2_prepare_16 rfl (lv_at hl 0 rfl) ?_
      refine lv_iconst (v := I (-1)) hx hb dX2_prepare_17 rfl ?_
      refine bi_icmp_ne (tgt := 24) hx hb r_x4 (by decide) dX2_prepare_18 (by decide) (fun c6 => ?_) (fun c6 => ?_)
      ·
        replace hw := hw.1 c6
        refine lv_aload_n hx hb dX2_prepare_24 rfl (lv_at hl 1 rfl) ?_
        refine gfX2_chart hx hb hts hK hP hown (hts _ tw_798) dX2_prepare_25 ?_
        refine lv_iload_n hx hb dX2_prepare_28 rfl (lv_at hl 3 rfl) ?_
        obtain ⟨Q7, hc, hw⟩ := hw
        have hlb := b_klt hbk
        refine wc_V (X := CX g q lb) (va_runV (As := [.int (I u2)]) (rest := []) ⟨hx, hb, hml, hown, hts⟩ (L_X1_takeStatement l g q lb hlb r_u2 hN hc H.size) (cwV 1 hts (TB_V tw_1809 tw_1703 tw_1704 tw_11 co_X1_takeStatement) rfl rfl rfl (by decide +kernel) ⟨Nat.le_of_ble_eq_true rfl, Nat.le_of_ble_eq_true rfl⟩) (preV (q0 := 9) (ci := 1) rfl xT_bl hP hK hNb hD rfl rfl xT_at) rfl rfl hl.1 rfl (lv_room (Nat.le_of_ble_eq_true rfl)) dX2_prepare_29 (b_r0 hbk h200)) hP hD hS hA (fun τ9 H locs hN hf hq hP hD hS => ?_)
        replace hw := hw τ9 hN hf hq
        have hF : f_r [17, 18, 19, 50, 51, 52, 53, 54, 59, 60, 61, 62, 200] [39, 40, 41, 42, 43, 77, 78, 79, 80, 81, 82, 83, 84, 85, 86, 88, 89, 90, 95, 97, 98, 99, 100] [3, 4, 5, 6, 7, 8] σ τ9 := f_t hF hf (by decide) (by decide) (by decide)
        have hB := hN
        have hbk : b_k σ τ9 lb _ _ := b_kt hbk (hf.1 200 (by decide))
        refine lv_aload_n hx hb dX2_prepare_32 rfl (lv_at hl 1 rfl) ?_
        refine gfX2_chart hx hb hts hK hP hown (hts _ tw_798) dX2_prepare_33 ?_
        obtain ⟨Q10, hc, hw⟩ := hw
        have hlb := b_klt hbk
        refine wc_I (X := CX g q lb) (va_runV (As := []) (rest := []) ⟨hx, hb, hml, hown, hts⟩ (L_X1_countTrees l g q lb hlb  hN hc H.size) (cwV 0 hts (TB_V tw_1810 tw_1720 tw_1721 tw_11 co_X1_countTrees) rfl rfl rfl (by decide +kernel) ⟨Nat.le_of_ble_eq_true rfl, Nat.le_of_ble_eq_true rfl⟩) (preV (q0 := 9) (ci := 1) rfl xT_bl hP hK hNb hD rfl rfl xT_at) rfl rfl hl.1 rfl (lv_room (Nat.le_of_ble_eq_true rfl)) dX2_prepare_36 (b_r0 hbk h200)) hP hD hS hA (fun x11 τ12 H locs r_x11 hN hf hq hP hD hS => ?_)
        replace hw := hw x11 τ12 r_x11 hN hf hq
        have hF : f_r [17, 18, 19, 50, 51, 52, 53, 54, 59, 60, 61, 62, 200] [39, 40, 41, 42, 43, 77, 78, 79, 80, 81, 82, 83, 84, 85, 86, 88, 89, 90, 95, 97, 98, 99, 100] [3, 4, 5, 6, 7, 8] σ τ12 := f_t hF hf (by decide) (by decide) (by decide)
        have hB := hN
        have hbk : b_k σ τ12 lb _ _ := b_kt hbk (hf.1 200 (by decide))
        refine lv_iconst (v := I 1) hx hb dX2_prepare_39 rfl ?_
        refine bi_icmp_ne (tgt := 49) hx hb r_x11 (by decide) dX2_prepare_40 (by decide) (fun c13 => ?_) (fun c13 => ?_)
        ·
          replace hw := hw.1 c13
          refine lv_iinc (v := I (u2 + 1)) (lv' := [(2, .int (I (u2 + 1))), (3, .int (I x4)), (0, .ref (q 11)), (1, .int (I u1))]) hx hb dX2_prepare_49 hl (k := 3) rfl (I_add _ _) (by decide) rfl (fun ls hl => ?_)
          refine lv_goto (tgt := 5) hx hb dX2_prepare_52 (by decide) ?_
          obtain ⟨c14, hw⟩ := hw
          exact (hP5 _ _ _).mp hw r_u1 c14 hN hF _ _ _ _ hbq hbk H locs ls hP hD hS (lv_sub hl [2, 3, 0] rfl)
        ·
          replace hw := hw.2 c13
          refine lv_aload_n hx hb dX2_prepare_43 rfl (lv_at hl 1 rfl) ?_
          refine lv_iload_n hx hb dX2_prepare_44 rfl (lv_at hl 3 rfl) ?_
          refine lv_iload_n hx hb dX2_prepare_45 rfl (lv_at hl 0 rfl) ?_
          obtain ⟨Q15, hc, hw⟩ := hw
          have hlb := b_klt hbk
          rw [b_kl hbk] at hP hD
          refine wc_B (run2V (As := [.int (I u2), .int (I x4)]) (rest := []) ⟨hx, hb, hml, hown, hts⟩ (L_X2_makeBody l g q r_u2 r_x4 hN hc H.size) (cwV 2 hts (TB_V tw_1851 tw_1853 ts_90 tw_13 co_X2_makeBody) rfl rfl rfl (by decide +kernel) ⟨Nat.le_of_ble_eq_true rfl, Nat.le_of_ble_eq_true rfl⟩) (preV (q0 := 11) (ci := 2) rfl xT_bl hP hK hNb hD rfl rfl xT_at) rfl rfl hl.1 rfl (lv_room (Nat.le_of_ble_eq_true rfl)) dX2_prepare_46 (b_rB hbk h200)) hP hD hS hA (fun k9 n9 ra τ17 H locs hk9 hn9 hN hf hkn hq hP hD hS => ?_)
          replace hw := hw τ17 hN hf hq
          have hF : f_r [17, 18, 19, 50, 51, 52, 53, 54, 59, 60, 61, 62, 200] [39, 40, 41, 42, 43, 77, 78, 79, 80, 81, 82, 83, 84, 85, 86, 88, 89, 90, 95, 97, 98, 99, 100] [3, 4, 5, 6, 7, 8] σ τ17 := f_t hF hf (by decide) (by decide) (by decide)
          have hB := hN
          obtain ⟨c18, hw⟩ := hw
          obtain ⟨q, hq9⟩ : ∃ z : Nat → Nat, z = qn q ra := ⟨_, rfl⟩
          obtain ⟨lb, hl9⟩ : ∃ z : Nat, z = L2 τ17 := ⟨_, rfl⟩
          rw [← hq9, ← hl9] at hP hD
          have hbk : b_k σ τ17 lb _ _ := b_kB hbk h200 hl9 hkn c18
          have hbq := bq_t hbq hq9
          have hl : lv_has ls 4 [(3, .int (I x4)), (0, .ref (q 11)), (1, .int (I u1)), (2, .int (I u2))] := by rw [hq9]; exact hl
          refine lv_iinc (v := I (u2 + 1)) (lv' := [(2, .int (I (u2 + 1))), (3, .int (I x4)), (0, .ref (q 11)), (1, .int (I u1))]) hx hb dX2_prepare_49 hl (k := 3) rfl (I_add _ _) (by decide) rfl (fun ls hl => ?_)
          refine lv_goto (tgt := 5) hx hb dX2_prepare_52 (by decide) ?_
          obtain ⟨c19, hw⟩ := hw
          exact (hP5 _ _ _).mp hw r_u1 c19 hN hF _ _ _ _ hbq hbk H locs ls hP hD hS (lv_sub hl [2, 3, 0] rfl)
      ·
        replace hw := hw.2 c6
        refine lv_goto (tgt := 49) hx hb dX2_prepare_21 (by decide) ?_
        refine lv_iinc (v := I (u2 + 1)) (lv' := [(2, .int (I (u2 + 1))), (3, .int (I x4)), (0, .ref (q 11)), (1, .int (I u1))]) hx hb dX2_prepare_49 hl (k := 3) rfl (I_add _ _) (by decide) rfl (fun ls hl => ?_)
        refine lv_goto (tgt := 5) hx hb dX2_prepare_52 (by decide) ?_
        obtain ⟨c20, hw⟩ := hw
        exact (hP5 _ _ _).mp hw r_u1 c20 hN hF _ _ _ _ hbq hbk H locs ls hP hD hS (lv_sub hl [2, 3, 0] rfl)
def W_X12_printWithout (n1 : Int) (σ : S0) (Q : Int → S0 → Prop) : Prop :=
  (16384 ≤ σ.1 200 ∧ σ.1 200 ≤ 1048576) ∧ (∀ (P0 : Int → S0 → Prop),
  (∀ (u1 : Int) (τ : S0), (∃ (Q1 : Int → Prop), W_X3_lengthOf u1 τ Q1 ∧ ∀ (x2 : Int), rg x2 → Q1 x2 → ((x2 ≤ 60 → ∃ (Q5 : S0 → Prop), W_X8_learn τ Q5 ∧ ∀ (τ7 : S0), n_m τ7 → f_r [45, 46, 47, 48, 49] [67, 68, 69, 70, 71, 72, 73, 74, 75, 76] [] τ τ7 → Q5 τ7 → (∃ (Q8 : S0 → Prop), W_X2_study u1 τ7 Q8 ∧ ∀ (τ10 : S0), n_m τ10 → f_r [50, 51, 52, 53, 54, 57, 61, 62] [77, 78, 79, 80, 81, 82, 83, 84, 85, 86, 88, 89, 90, 92, 93, 94, 100] [3, 4, 5, 6, 7, 8] τ7 τ10 → Q8 τ10 → (∃ (Q11 : S0 → Prop), W_X2_prepare u1 τ10 Q11 ∧ ∀ (τ13 : S0), n_m τ13 → f_r [17, 18, 19, 50, 51, 52, 53, 54, 59, 60, 61, 62, 200] [39, 40, 41, 42, 43, 77, 78, 79, 80, 81, 82, 83, 84, 85, 86, 88, 89, 90, 95, 97, 98, 99, 100] [3, 4, 5, 6, 7, 8] τ10 τ13 → Q11 τ13 → ((τ13.1 200 ≤ 1048576) ∧ (∃ (Q15 : Int → S0 → Prop), W_X12_treesOf u1 τ13 Q15 ∧ ∀ (x16 : Int) (τ17 : S0), rg x16 → n_m τ17 → f_r [45, 46, 47, 48, 49, 50, 51, 52, 53] [67, 68, 69, 70, 71, 72, 73, 74, 75, 76, 77, 78, 79, 80, 81, 82, 83] [3, 4, 5, 6, 7] τ13 τ17 → Q15 x16 τ17 → ((x16 = 1 → ∃ (Q19 : S0 → Prop), W_X11_grow τ17 Q19 ∧ ∀ (τ21 : S0), n_m τ21 → f_r [54] [84, 85, 86, 88, 89, 90] [8] τ17 τ21 → Q19 τ21 → (∃ (Q22 : Int → S0 → Prop), W_X2_evaluate (L2 τ21) 0 (τ21.1 54) u1 τ21 Q22 ∧ ∀ (x23 : Int) (τ24 : S0), rg x23 → n_m τ24 → f_r [17, 18, 19] [39, 40, 41, 42, 43] [] τ21 τ24 → Q22 x23 τ24 → ((¬ x23 = 0 → ∃ (Q26 : S0 → Prop), W_X5_begin τ24 Q26 ∧ ∀ (τ28 : S0), n_m τ28 → f_r [63, 64] [] [] τ24 τ28 → Q26 τ28 → ((0 ≤ u1 ∧ u1 < 1501) ∧ (∀ (x30 : Int), rg x30 → x30 = τ28.2.1 14 u1 → ((0 ≤ x30 ∧ x30 < 30000) ∧ (∀ (x32 : Int), rg x32 → x32 = τ28.2.1 15 x30 → (∃ (Q33 : S0 → Prop), W_X5_putSymbol x32 τ28 Q33 ∧ ∀ (τ35 : S0), n_m τ35 → f_r [63, 64] [101, 102] [] τ28 τ35 → Q33 τ35 → (∀ (x36 : Int), rg x36 → x36 = τ35.2.1 40 0 → (∀ (x37 : Int), rg x37 → x37 = τ35.2.1 40 0 → (∀ (x38 : Int), rg x38 → x38 = τ35.2.1 41 0 → (rg (x37 + x38) ∧ ∃ (Q40 : S0 → Prop), W_X5_putSymbols_q55 x36 (x37 + x38) τ35 Q40 ∧ ∀ (τ42 : S0), n_m τ42 → f_r [63, 64] [101, 102] [] τ35 τ42 → Q40 τ42 → (∃ (Q43 : Int → S0 → Prop), W_X5_finish τ42 Q43 ∧ ∀ (x44 : Int) (τ45 : S0), rg x44 → n_m τ45 → f_r [65, 67] [] [] τ42 τ45 → Q43 x44 τ45 → (Q x44 τ45)))))))))))) ∧ (x23 = 0 → Q (-2) τ24)))) ∧ (¬ x16 = 1 → Q (-1) τ17))))))) ∧ (60 < x2 → Q (-2) τ))) → P0 u1 τ) →
  P0 n1 σ)
set_option maxRecDepth 100000 in
set_option maxHeartbeats 4000000 in
theorem L_X12_printWithout (l : Launch) (g : gG) (t1 t2 : Nat) (q0 : Nat → Nat) {n1 : Int} {σ : S0} {Q : Int → S0 → Prop} (r_n1 : rg n1) (hN : n_m σ) (hw : W_X12_printWithout n1 σ Q) (sz : Nat) : Met l yX12_printWithout (wd yX12_printWithout cX12_printWithout 2 (some .int)) { frames := 6, cells := b_c σ, slots := b_s σ, locals := 198 } (va_Pc [.ref (q0 0), .int (I n1)] (cP g (CX g q0 (L2 σ) σ) sz (sX t1 t2 (va_A (CX g q0 (L2 σ) σ) sz)))) (Qc2 ((fun A k n => QI g A (p_BI g q0 [17, 18, 19, 45, 46, 47, 48, 49, 50, 51, 52, 53, 54, 57, 59, 60, 61, 62, 63, 64, 65, 67, 200] [39, 40, 41, 42, 43, 67, 68, 69, 70, 71, 72, 73, 74, 75, 76, 77, 78, 79, 80, 81, 82, 83, 84, 85, 86, 88, 89, 90, 92, 93, 94, 95, 97, 98, 99, 100, 101, 102] [3, 4, 5, 6, 7, 8] σ Q k n)) (va_A (CX g q0 (L2 σ) σ) sz)) (b_c σ) (b_s σ) (va_A (CX g q0 (L2 σ) σ) sz)) (b_c σ) (b_s σ) (va_A (CX g q0 (L2 σ) σ) sz) := by
  refine mkMet2 (Qc := fun A k n => QI g A (p_BI g q0 [17, 18, 19, 45, 46, 47, 48, 49, 50, 51, 52, 53, 54, 57, 59, 60, 61, 62, 63, 64, 65, 67, 200] [39, 40, 41, 42, 43, 67, 68, 69, 70, 71, 72, 73, 74, 75, 76, 77, 78, 79, 80, 81, 82, 83, 84, 85, 86, 88, 89, 90, 92, 93, 94, 95, 97, 98, 99, 100, 101, 102] [3, 4, 5, 6, 7, 8] σ Q k n)) (by decide) (Nat.le_of_ble_eq_true rfl) ?_
  intro p e s m below meth c A H ls hx hb hr hml hown hts hlk hnm hsz hP hK hNb hD hA hAe hS hX hl
  rw [← hAe] at hX
  have hl : lv_has ls 2 [(0, .ref (q0 0)), (1, .int (I n1))] := hl
  obtain ⟨h200, hw⟩ := hw
  obtain ⟨q, hq9⟩ : ∃ z : Nat → Nat, z = q0 := ⟨_, rfl⟩
  obtain ⟨lb, hl9⟩ : ∃ z : Nat, z = L2 σ := ⟨_, rfl⟩
  rw [← hq9, ← hl9] at hP hD
  have hl : lv_has ls 2 [(0, .ref (q 0)), (1, .int (I n1))] := by rw [hq9]; exact hl
  have hbq : bq q0 q := by rw [hq9]; exact bq_0
  have hbk : b_k σ σ lb 0 0 := b_k0 h200 hl9
  have hB := hN
  have hF : f_r [17, 18, 19, 45, 46, 47, 48, 49, 50, 51, 52, 53, 54, 57, 59, 60, 61, 62, 63, 64, 65, 67, 200] [39, 40, 41, 42, 43, 67, 68, 69, 70, 71, 72, 73, 74, 75, 76, 77, 78, 79, 80, 81, 82, 83, 84, 85, 86, 88, 89, 90, 92, 93, 94, 95, 97, 98, 99, 100, 101, 102] [3, 4, 5, 6, 7, 8] σ σ := f_0
  obtain ⟨locs, hlocs⟩ : ∃ z : List Loc, z = [] := ⟨_, rfl⟩
  rw [← hlocs] at hS ⊢
  obtain ⟨P0, hP0⟩ : ∃ P : Int → S0 → Prop, ∀ (u1 : Int) (τ : S0), (P u1 τ ↔ (rg u1 → n_m τ → f_r [17, 18, 19, 45, 46, 47, 48, 49, 50, 51, 52, 53, 54, 57, 59, 60, 61, 62, 63, 64, 65, 67, 200] [39, 40, 41, 42, 43, 67, 68, 69, 70, 71, 72, 73, 74, 75, 76, 77, 78, 79, 80, 81, 82, 83, 84, 85, 86, 88, 89, 90, 92, 93, 94, 95, 97, 98, 99, 100, 101, 102] [3, 4, 5, 6, 7, 8] σ τ → ∀ (q : Nat → Nat) (lb cells slots : Nat), bq q0 q → b_k σ τ lb cells slots → ∀ (H : Heap) (locs : List Loc) (ls : Array Slot), KP g (CX g q lb τ) H → va_D A (CX g q lb τ) → va_S A s.heap H locs → lv_has ls 2 [(0, .ref (q 0)), (1, .int (I u1))] → W p l e ({ frames := 6, cells := b_c σ, slots := b_s σ, locals := 198 }) s m [.ref (q0 0), .int (I n1)].toArray below meth c H locs cells slots (MQ2 below (fun k n => QI g A (p_BI g q0 [17, 18, 19, 45, 46, 47, 48, 49, 50, 51, 52, 53, 54, 57, 59, 60, 61, 62, 63, 64, 65, 67, 200] [39, 40, 41, 42, 43, 67, 68, 69, 70, 71, 72, 73, 74, 75, 76, 77, 78, 79, 80, 81, 82, 83, 84, 85, 86, 88, 89, 90, 92, 93, 94, 95, 97, 98, 99, 100, 101, 102] [3, 4, 5, 6, 7, 8] σ Q k n)) [.ref (q0 0), .int (I n1)].toArray s (b_c σ) (b_s σ) A) (F0 m 0 ls []))) := ⟨_, fun _ _ => Iff.rfl⟩
  refine (fun hw => ?_) (hw P0 ?_)
  ·
    exact (hP0 _ _).mp hw r_n1 hN hF _ _ _ _ hbq hbk H locs ls hP hD hS (lv_sub hl [0, 1] rfl)
  ·
    intro u1 τ hw
    refine (hP0 _ _).mpr ?_
    intro r_u1 hN hF q lb cells slots hbq hbk H locs ls hP hD hS hl
    have hB := hN
    refine lv_aload_n hx hb dX12_printWithout_0 rfl (lv_at hl 0 rfl) ?_
    refine gfX12_library hx hb hts hK hP hown (hts _ tw_889) dX12_printWithout_1 ?_
    refine lv_iload_n hx hb dX12_printWithout_4 rfl (lv_at hl 1 rfl) ?_
    obtain ⟨Q1, hc, hw⟩ := hw
    have hlb := b_klt hbk
    refine wc_i (X := CX g q lb) (va_runV (As := [.int (I u1)]) (rest := []) ⟨hx, hb, hml, hown, hts⟩ (L_X3_lengthOf l g q lb hlb r_u1 hN hc H.size) (cwV 1 hts (TB_V tw_1421 tw_1292 tw_1293 tw_2 co_X3_lengthOf) rfl rfl rfl (by decide +kernel) ⟨Nat.le_of_ble_eq_true rfl, Nat.le_of_ble_eq_true rfl⟩) (preV (q0 := 1) (ci := 3) rfl xT_bl hP hK hNb hD rfl rfl xT_at) rfl rfl hl.1 rfl (lv_room (Nat.le_of_ble_eq_true rfl)) dX12_printWithout_5 (b_r0 hbk h200)) hP hD hS hA (fun x2 H locs r_x2 hq hP hD hS => ?_)
    replace hw := hw x2 r_x2 hq
    refine lv_bipush (v := I 60) hx hb dX12_printWithout_8 (by decide) ?_
    refine bi_icmp_le (tgt := 16) hx hb r_x2 (by decide) dX12_printWithout_10 (by decide) (fun c4 => ?_) (fun c4 => ?_)
    ·
      replace hw := hw.1 c4
      refine lv_aload_n hx hb dX12_printWithout_16 rfl (lv_at hl 0 rfl) ?_
      refine gfX12_rules hx hb hts hK hP hown (hts _ tw_895) dX12_printWithout_17 ?_
      obtain ⟨Q5, hc, hw⟩ := hw
      have hlb := b_klt hbk
      refine wc_V (X := CX g q lb) (va_runV (As := []) (rest := []) ⟨hx, hb, hml, hown, hts⟩ (L_X8_learn l g t1 t2 q lb hlb  hN hc H.size) (cwV 0 hts (TB_V tw_1671 tw_1672 tw_1673 tw_10 co_X8_learn) rfl rfl rfl (by decide +kernel) ⟨Nat.le_of_ble_eq_true rfl, Nat.le_of_ble_eq_true rfl⟩) (preV (q0 := 8) (ci := 8) rfl sX_bl hP hK hNb hD rfl rfl (sX_call hX hS (d_full hD hS hA))) rfl rfl hl.1 rfl (lv_room (Nat.le_of_ble_eq_true rfl)) dX12_printWithout_20 (b_r0 hbk h200)) hP hD hS hA (fun τ7 H locs hN hf hq hP hD hS => ?_)
      replace hw := hw τ7 hN hf hq
      have hF : f_r [17, 18, 19, 45, 46, 47, 48, 49, 50, 51, 52, 53, 54, 57, 59, 60, 61, 62, 63, 64, 65, 67, 200] [39, 40, 41, 42, 43, 67, 68, 69, 70, 71, 72, 73, 74, 75, 76, 77, 78, 79, 80, 81, 82, 83, 84, 85, 86, 88, 89, 90, 92, 93, 94, 95, 97, 98, 99, 100, 101, 102] [3, 4, 5, 6, 7, 8] σ τ7 := f_t hF hf (by decide) (by decide) (by decide)
      have hB := hN
      have hbk : b_k σ τ7 lb _ _ := b_kt hbk (hf.1 200 (by decide))
      refine lv_aload_n hx hb dX12_printWithout_23 rfl (lv_at hl 0 rfl) ?_
      refine gfX12_definitions hx hb hts hK hP hown (hts _ tw_898) dX12_printWithout_24 ?_
      refine lv_iload_n hx hb dX12_printWithout_27 rfl (lv_at hl 1 rfl) ?_
      obtain ⟨Q8, hc, hw⟩ := hw
      have hlb := b_klt hbk
      refine wc_V (X := CX g q lb) (va_runV (As := [.int (I u1)]) (rest := []) ⟨hx, hb, hml, hown, hts⟩ (L_X2_study l g q lb hlb r_u1 hN hc H.size) (cwV 1 hts (TB_V tw_1803 tw_1804 tw_1805 tw_13 co_X2_study) rfl rfl rfl (by decide +kernel) ⟨Nat.le_of_ble_eq_true rfl, Nat.le_of_ble_eq_true rfl⟩) (preV (q0 := 11) (ci := 2) rfl xT_bl hP hK hNb hD rfl rfl xT_at) rfl rfl hl.1 rfl (lv_room (Nat.le_of_ble_eq_true rfl)) dX12_printWithout_28 (b_r0 hbk h200)) hP hD hS hA (fun τ10 H locs hN hf hq hP hD hS => ?_)
      replace hw := hw τ10 hN hf hq
      have hF : f_r [17, 18, 19, 45, 46, 47, 48, 49, 50, 51, 52, 53, 54, 57, 59, 60, 61, 62, 63, 64, 65, 67, 200] [39, 40, 41, 42, 43, 67, 68, 69, 70, 71, 72, 73, 74, 75, 76, 77, 78, 79, 80, 81, 82, 83, 84, 85, 86, 88, 89, 90, 92, 93, 94, 95, 97, 98, 99, 100, 101, 102] [3, 4, 5, 6, 7, 8] σ τ10 := f_t hF hf (by decide) (by decide) (by decide)
      have hB := hN
      have hbk : b_k σ τ10 lb _ _ := b_kt hbk (hf.1 200 (by decide))
      refine lv_aload_n hx hb dX12_printWithout_31 rfl (lv_at hl 0 rfl) ?_
      refine gfX12_definitions hx hb hts hK hP hown (hts _ tw_898) dX12_printWithout_32 ?_
      refine lv_iload_n hx hb dX12_printWithout_35 rfl (lv_at hl 1 rfl) ?_
      obtain ⟨Q11, hc, hw⟩ := hw
      have hlb := b_klt hbk
      rw [b_kl hbk] at hP hD
      refine wc_B (run2V (As := [.int (I u1)]) (rest := []) ⟨hx, hb, hml, hown, hts⟩ (L_X2_prepare l g q r_u1 hN hc H.size) (cwV 1 hts (TB_V tw_1843 tw_1844 tw_1845 tw_13 co_X2_prepare) rfl rfl rfl (by decide +kernel) ⟨Nat.le_of_ble_eq_true rfl, Nat.le_of_ble_eq_true rfl⟩) (preV (q0 := 11) (ci := 2) rfl xT_bl hP hK hNb hD rfl rfl xT_at) rfl rfl hl.1 rfl (lv_room (Nat.le_of_ble_eq_true rfl)) dX12_printWithout_36 (b_rB hbk h200)) hP hD hS hA (fun k9 n9 ra τ13 H locs hk9 hn9 hN hf hkn hq hP hD hS => ?_)
      replace hw := hw τ13 hN hf hq
      have hF : f_r [17, 18, 19, 45, 46, 47, 48, 49, 50, 51, 52, 53, 54, 57, 59, 60, 61, 62, 63, 64, 65, 67, 200] [39, 40, 41, 42, 43, 67, 68, 69, 70, 71, 72, 73, 74, 75, 76, 77, 78, 79, 80, 81, 82, 83, 84, 85, 86, 88, 89, 90, 92, 93, 94, 95, 97, 98, 99, 100, 101, 102] [3, 4, 5, 6, 7, 8] σ τ13 := f_t hF hf (by decide) (by decide) (by decide)
      have hB := hN
      obtain ⟨c14, hw⟩ := hw
      obtain ⟨q, hq9⟩ : ∃ z : Nat → Nat, z = qn q ra := ⟨_, rfl⟩
      obtain ⟨lb, hl9⟩ : ∃ z : Nat, z = L2 τ13 := ⟨_, rfl⟩
      rw [← hq9, ← hl9] at hP hD
      have hbk : b_k σ τ13 lb _ _ := b_kB hbk h200 hl9 hkn c14
      have hbq := bq_t hbq hq9
      have hl : lv_has ls 2 [(0, .ref (q 0)), (1, .int (I u1))] := by rw [hq9]; exact hl
      refine lv_aload_n hx hb dX12_printWithout_39 rfl (lv_at hl 0 rfl) ?_
      refine lv_iload_n hx hb dX12_printWithout_40 rfl (lv_at hl 1 rfl) ?_
      obtain ⟨Q15, hc, hw⟩ := hw
      have hlb := b_klt hbk
      refine wc_I (X := CX g q lb) (va_runV (As := [.int (I u1)]) (rest := []) ⟨hx, hb, hml, hown, hts⟩ (L_X12_treesOf l g t1 t2 q lb hlb r_u1 hN hc H.size) (cwV 1 hts (TB_V tw_1667 tw_1669 ts_66 tw_1 co_X12_treesOf) rfl rfl rfl (by decide +kernel) ⟨Nat.le_of_ble_eq_true rfl, Nat.le_of_ble_eq_true rfl⟩) (preV (q0 := 0) (ci := 12) rfl sX_bl hP hK hNb hD rfl rfl (sX_call hX hS (d_full hD hS hA))) rfl rfl hl.1 rfl (lv_room (Nat.le_of_ble_eq_true rfl)) dX12_printWithout_41 (b_r0 hbk h200)) hP hD hS hA (fun x16 τ17 H locs r_x16 hN hf hq hP hD hS => ?_)
      replace hw := hw x16 τ17 r_x16 hN hf hq
      have hF : f_r [17, 18, 19, 45, 46, 47, 48, 49, 50, 51, 52, 53, 54, 57, 59, 60, 61, 62, 63, 64, 65, 67, 200] [39, 40, 41, 42, 43, 67, 68, 69, 70, 71, 72, 73, 74, 75, 76, 77, 78, 79, 80, 81, 82, 83, 84, 85, 86, 88, 89, 90, 92, 93, 94, 95, 97, 98, 99, 100, 101, 102] [3, 4, 5, 6, 7, 8] σ τ17 := f_t hF hf (by decide) (by decide) (by decide)
      have hB := hN
      have hbk : b_k σ τ17 lb _ _ := b_kt hbk (hf.1 200 (by decide))
      refine lv_iconst (v := I 1) hx hb dX12_printWithout_44 rfl ?_
      refine bi_icmp_eq (tgt := 50) hx hb r_x16 (by decide) dX12_printWithout_45 (by decide) (fun c18 => ?_) (fun c18 => ?_)
      ·
        replace hw := hw.1 c18
        refine lv_aload_n hx hb dX12_printWithout_50 rfl (lv_at hl 0 rfl) ?_
        refine gfX12_tree hx hb hts hK hP hown (hts _ tw_897) dX12_printWithout_51 ?_
        obtain ⟨Q19, hc, hw⟩ := hw
        have hlb := b_klt hbk
        refine wc_V (X := CX g q lb) (va_runV (As := []) (rest := []) ⟨hx, hb, hml, hown, hts⟩ (L_X11_grow l g q lb hlb  hN hc H.size) (cwV 0 hts (TB_V tw_1765 tw_1766 tw_1767 tw_12 co_X11_grow) rfl rfl rfl (by decide +kernel) ⟨Nat.le_of_ble_eq_true rfl, Nat.le_of_ble_eq_true rfl⟩) (preV (q0 := 10) (ci := 11) rfl xT_bl hP hK hNb hD rfl rfl xT_at) rfl rfl hl.1 rfl (lv_room (Nat.le_of_ble_eq_true rfl)) dX12_printWithout_54 (b_r0 hbk h200)) hP hD hS hA (fun τ21 H locs hN hf hq hP hD hS => ?_)
        replace hw := hw τ21 hN hf hq
        have hF : f_r [17, 18, 19, 45, 46, 47, 48, 49, 50, 51, 52, 53, 54, 57, 59, 60, 61, 62, 63, 64, 65, 67, 200] [39, 40, 41, 42, 43, 67, 68, 69, 70, 71, 72, 73, 74, 75, 76, 77, 78, 79, 80, 81, 82, 83, 84, 85, 86, 88, 89, 90, 92, 93, 94, 95, 97, 98, 99, 100, 101, 102] [3, 4, 5, 6, 7, 8] σ τ21 := f_t hF hf (by decide) (by decide) (by decide)
        have hB := hN
        have hbk : b_k σ τ21 lb _ _ := b_kt hbk (hf.1 200 (by decide))
        refine lv_aload_n hx hb dX12_printWithout_57 rfl (lv_at hl 0 rfl) ?_
        refine gfX12_definitions hx hb hts hK hP hown (hts _ tw_898) dX12_printWithout_58 ?_
        refine lv_iconst (v := I 0) hx hb dX12_printWithout_61 rfl ?_
        refine lv_aload_n hx hb dX12_printWithout_62 rfl (lv_at hl 0 rfl) ?_
        refine gfX12_tree hx hb hts hK hP hown (hts _ tw_897) dX12_printWithout_63 ?_
        refine gfNX11_size hx hb hts hK hP hown (nb_use hNb tn_747) (x := τ21.1 54) rfl dX12_printWithout_66 ?_
        refine lv_iload_n hx hb dX12_printWithout_69 rfl (lv_at hl 1 rfl) ?_
        obtain ⟨Q22, hc, hw⟩ := hw
        have hlb := b_klt hbk
        rw [← b_kl hbk] at hc
        refine wc_I (X := CX g q lb) (va_runV (As := [.int (I 0), .int (I (τ21.1 54)), .int (I u1)]) (rest := []) ⟨hx, hb, hml, hown, hts⟩ (L_X2_evaluate l g q lb hlb (by decide) (hB.1 54) r_u1 hN hc H.size) (cwV 3 hts (TB_V tw_1887 tw_1856 tw_1857 tw_13 co_X2_evaluate) rfl rfl rfl (by decide +kernel) ⟨Nat.le_of_ble_eq_true rfl, Nat.le_of_ble_eq_true rfl⟩) (preV (q0 := 11) (ci := 2) rfl xT_bl hP hK hNb hD rfl rfl xT_at) rfl rfl hl.1 rfl (lv_room (Nat.le_of_ble_eq_true rfl)) dX12_printWithout_70 (b_r0 hbk h200)) hP hD hS hA (fun x23 τ24 H locs r_x23 hN hf hq hP hD hS => ?_)
        replace hw := hw x23 τ24 r_x23 hN hf hq
        have hF : f_r [17, 18, 19, 45, 46, 47, 48, 49, 50, 51, 52, 53, 54, 57, 59, 60, 61, 62, 63, 64, 65, 67, 200] [39, 40, 41, 42, 43, 67, 68, 69, 70, 71, 72, 73, 74, 75, 76, 77, 78, 79, 80, 81, 82, 83, 84, 85, 86, 88, 89, 90, 92, 93, 94, 95, 97, 98, 99, 100, 101, 102] [3, 4, 5, 6, 7, 8] σ τ24 := f_t hF hf (by decide) (by decide) (by decide)
        have hB := hN
        have hbk : b_k σ τ24 lb _ _ := b_kt hbk (hf.1 200 (by decide))
        refine bi_if_ne (tgt := 79) hx hb r_x23 dX12_printWithout_73 (by decide) (fun c25 => ?_) (fun c25 => ?_)
        ·
          replace hw := hw.1 c25
          refine lv_aload_n hx hb dX12_printWithout_79 rfl (lv_at hl 0 rfl) ?_
          refine gfX12_paper hx hb hts hK hP hown (hts _ tw_899) dX12_printWithout_80 ?_
          obtain ⟨Q26, hc, hw⟩ := hw
          have hlb := b_klt hbk
          refine wc_V (X := CX g q lb) (va_runV (As := []) (rest := []) ⟨hx, hb, hml, hown, hts⟩ (L_X5_begin l g q lb hlb  hN hc H.size) (cwV 0 hts (TB_V tw_1532 tw_1533 tw_1534 tw_14 co_X5_begin) rfl rfl rfl (by decide +kernel) ⟨Nat.le_of_ble_eq_true rfl, Nat.le_of_ble_eq_true rfl⟩) (preV (q0 := 12) (ci := 5) rfl xT_bl hP hK hNb hD rfl rfl xT_at) rfl rfl hl.1 rfl (lv_room (Nat.le_of_ble_eq_true rfl)) dX12_printWithout_83 (b_r0 hbk h200)) hP hD hS hA (fun τ28 H locs hN hf hq hP hD hS => ?_)
          replace hw := hw τ28 hN hf hq
          have hF : f_r [17, 18, 19, 45, 46, 47, 48, 49, 50, 51, 52, 53, 54, 57, 59, 60, 61, 62, 63, 64, 65, 67, 200] [39, 40, 41, 42, 43, 67, 68, 69, 70, 71, 72, 73, 74, 75, 76, 77, 78, 79, 80, 81, 82, 83, 84, 85, 86, 88, 89, 90, 92, 93, 94, 95, 97, 98, 99, 100, 101, 102] [3, 4, 5, 6, 7, 8] σ τ28 := f_t hF hf (by decide) (by decide) (by decide)
          have hB := hN
          have hbk : b_k σ τ28 lb _ _ := b_kt hbk (hf.1 200 (by decide))
          refine lv_aload_n hx hb dX12_printWithout_86 rfl (lv_at hl 0 rfl) ?_
          refine gfX12_paper hx hb hts hK hP hown (hts _ tw_899) dX12_printWithout_87 ?_
          refine lv_aload_n hx hb dX12_printWithout_90 rfl (lv_at hl 0 rfl) ?_
          refine gfX12_library hx hb hts hK hP hown (hts _ tw_889) dX12_printWithout_91 ?_
          refine gfNX3_text hx hb hts hK hP hown (nb_use hNb tn_90) dX12_printWithout_94 ?_
          refine lv_aload_n hx hb dX12_printWithout_97 rfl (lv_at hl 0 rfl) ?_
          refine gfX12_library hx hb hts hK hP hown (hts _ tw_889) dX12_printWithout_98 ?_
          refine gfNX3_at hx hb hts hK hP hown (nb_use hNb tn_83) dX12_printWithout_101 ?_
          refine lv_iload_n hx hb dX12_printWithout_104 rfl (lv_at hl 1 rfl) ?_
          obtain ⟨c29, hw⟩ := hw
          refine ldCX3_at hx hb hK hP hN c29 dX12_printWithout_105 (fun x30 r_x30 e_x30 => ?_)
          replace hw := hw x30 r_x30 e_x30
          obtain ⟨c31, hw⟩ := hw
          refine ldCX3_text hx hb hK hP hN c31 dX12_printWithout_106 (fun x32 r_x32 e_x32 => ?_)
          replace hw := hw x32 r_x32 e_x32
          obtain ⟨Q33, hc, hw⟩ := hw
          have hlb := b_klt hbk
          refine wc_V (X := CX g q lb) (va_runV (As := [.int (I x32)]) (rest := []) ⟨hx, hb, hml, hown, hts⟩ (L_X5_putSymbol l g q lb hlb r_x32 hN hc H.size) (cwV 1 hts (TB_V tw_1536 tw_1537 tw_1538 tw_14 co_X5_putSymbol) rfl rfl rfl (by decide +kernel) ⟨Nat.le_of_ble_eq_true rfl, Nat.le_of_ble_eq_true rfl⟩) (preV (q0 := 12) (ci := 5) rfl xT_bl hP hK hNb hD rfl rfl xT_at) rfl rfl hl.1 rfl (lv_room (Nat.le_of_ble_eq_true rfl)) dX12_printWithout_107 (b_r0 hbk h200)) hP hD hS hA (fun τ35 H locs hN hf hq hP hD hS => ?_)
          replace hw := hw τ35 hN hf hq
          have hF : f_r [17, 18, 19, 45, 46, 47, 48, 49, 50, 51, 52, 53, 54, 57, 59, 60, 61, 62, 63, 64, 65, 67, 200] [39, 40, 41, 42, 43, 67, 68, 69, 70, 71, 72, 73, 74, 75, 76, 77, 78, 79, 80, 81, 82, 83, 84, 85, 86, 88, 89, 90, 92, 93, 94, 95, 97, 98, 99, 100, 101, 102] [3, 4, 5, 6, 7, 8] σ τ35 := f_t hF hf (by decide) (by decide) (by decide)
          have hB := hN
          have hbk : b_k σ τ35 lb _ _ := b_kt hbk (hf.1 200 (by decide))
          refine lv_aload_n hx hb dX12_printWithout_110 rfl (lv_at hl 0 rfl) ?_
          refine gfX12_paper hx hb hts hK hP hown (hts _ tw_899) dX12_printWithout_111 ?_
          refine lv_aload_n hx hb dX12_printWithout_114 rfl (lv_at hl 0 rfl) ?_
          refine gfX12_pile hx hb hts hK hP hown (hts _ tw_892) dX12_printWithout_115 ?_
          refine gfNX6_data hx hb hts hK hP hown (nb_use hNb tn_349) dX12_printWithout_118 ?_
          refine lv_aload_n hx hb dX12_printWithout_121 rfl (lv_at hl 0 rfl) ?_
          refine gfX12_pile hx hb hts hK hP hown (hts _ tw_892) dX12_printWithout_122 ?_
          refine gfNX6_at hx hb hts hK hP hown (nb_use hNb tn_355) dX12_printWithout_125 ?_
          refine lv_iconst (v := I 0) hx hb dX12_printWithout_128 rfl ?_
          refine ldCX6_at hx hb hK hP hN (by decide) dX12_printWithout_129 (fun x36 r_x36 e_x36 => ?_)
          replace hw := hw x36 r_x36 e_x36
          refine lv_aload_n hx hb dX12_printWithout_130 rfl (lv_at hl 0 rfl) ?_
          refine gfX12_pile hx hb hts hK hP hown (hts _ tw_892) dX12_printWithout_131 ?_
          refine gfNX6_at hx hb hts hK hP hown (nb_use hNb tn_355) dX12_printWithout_134 ?_
          refine lv_iconst (v := I 0) hx hb dX12_printWithout_137 rfl ?_
          refine ldCX6_at hx hb hK hP hN (by decide) dX12_printWithout_138 (fun x37 r_x37 e_x37 => ?_)
          replace hw := hw x37 r_x37 e_x37
          refine lv_aload_n hx hb dX12_printWithout_139 rfl (lv_at hl 0 rfl) ?_
          refine gfX12_pile hx hb hts hK hP hown (hts _ tw_892) dX12_printWithout_140 ?_
          refine gfNX6_size hx hb hts hK hP hown (nb_use hNb tn_359) dX12_printWithout_143 ?_
          refine lv_iconst (v := I 0) hx hb dX12_printWithout_146 rfl ?_
          refine ldCX6_size hx hb hK hP hN (by decide) dX12_printWithout_147 (fun x38 r_x38 e_x38 => ?_)
          replace hw := hw x38 r_x38 e_x38
          refine bi_iadd hx hb dX12_printWithout_148 ?_
          obtain ⟨c39, hw⟩ := hw
          obtain ⟨Q40, hc, hw⟩ := hw
          have hlb := b_klt hbk
          refine wc_V (X := CX g q lb) (va_runV (As := [.ref (q 55), .int (I x36), .int (I (x37 + x38))]) (rest := []) ⟨hx, hb, hml, hown, hts⟩ (L_X5_putSymbols_q55 l g q lb hlb r_x36 c39 hN hc H.size) (cwV 3 hts (TB_V tw_1582 tw_1583 tw_1584 tw_14 co_X5_putSymbols) rfl rfl rfl (by decide +kernel) ⟨Nat.le_of_ble_eq_true rfl, Nat.le_of_ble_eq_true rfl⟩) (preV (q0 := 12) (ci := 5) rfl xT_bl hP hK hNb hD rfl rfl xT_at) rfl rfl hl.1 rfl (lv_room (Nat.le_of_ble_eq_true rfl)) dX12_printWithout_149 (b_r0 hbk h200)) hP hD hS hA (fun τ42 H locs hN hf hq hP hD hS => ?_)
          replace hw := hw τ42 hN hf hq
          have hF : f_r [17, 18, 19, 45, 46, 47, 48, 49, 50, 51, 52, 53, 54, 57, 59, 60, 61, 62, 63, 64, 65, 67, 200] [39, 40, 41, 42, 43, 67, 68, 69, 70, 71, 72, 73, 74, 75, 76, 77, 78, 79, 80, 81, 82, 83, 84, 85, 86, 88, 89, 90, 92, 93, 94, 95, 97, 98, 99, 100, 101, 102] [3, 4, 5, 6, 7, 8] σ τ42 := f_t hF hf (by decide) (by decide) (by decide)
          have hB := hN
          have hbk : b_k σ τ42 lb _ _ := b_kt hbk (hf.1 200 (by decide))
          refine lv_aload_n hx hb dX12_printWithout_152 rfl (lv_at hl 0 rfl) ?_
          refine gfX12_paper hx hb hts hK hP hown (hts _ tw_899) dX12_printWithout_153 ?_
          obtain ⟨Q43, hc, hw⟩ := hw
          have hlb := b_klt hbk
          refine wc_I (X := CX g q lb) (va_runV (As := []) (rest := []) ⟨hx, hb, hml, hown, hts⟩ (L_X5_finish l g q lb hlb  hN hc H.size) (cwV 0 hts (TB_V tw_1552 tw_1553 tw_1554 tw_14 co_X5_finish) rfl rfl rfl (by decide +kernel) ⟨Nat.le_of_ble_eq_true rfl, Nat.le_of_ble_eq_true rfl⟩) (preV (q0 := 12) (ci := 5) rfl xT_bl hP hK hNb hD rfl rfl xT_at) rfl rfl hl.1 rfl (lv_room (Nat.le_of_ble_eq_true rfl)) dX12_printWithout_156 (b_r0 hbk h200)) hP hD hS hA (fun x44 τ45 H locs r_x44 hN hf hq hP hD hS => ?_)
          replace hw := hw x44 τ45 r_x44 hN hf hq
          have hF : f_r [17, 18, 19, 45, 46, 47, 48, 49, 50, 51, 52, 53, 54, 57, 59, 60, 61, 62, 63, 64, 65, 67, 200] [39, 40, 41, 42, 43, 67, 68, 69, 70, 71, 72, 73, 74, 75, 76, 77, 78, 79, 80, 81, 82, 83, 84, 85, 86, 88, 89, 90, 92, 93, 94, 95, 97, 98, 99, 100, 101, 102] [3, 4, 5, 6, 7, 8] σ τ45 := f_t hF hf (by decide) (by decide) (by decide)
          have hB := hN
          have hbk : b_k σ τ45 lb _ _ := b_kt hbk (hf.1 200 (by decide))
          obtain ⟨ra, hqr⟩ := hbq
          exact xrBI hx hb hr hlk hP hK hD hS ⟨_, ra, _, r_x44, rfl, hN, hF, (by rw [hqr, b_kl hbk]), b_ks hbk, hw⟩ (b_r0 hbk h200).1 (b_r0 hbk h200).2 dX12_printWithout_159
        ·
          replace hw := hw.2 c25
          refine lv_bipush (v := I (-2)) hx hb dX12_printWithout_76 (by decide) ?_
          obtain ⟨ra, hqr⟩ := hbq
          exact xrBI hx hb hr hlk hP hK hD hS ⟨_, ra, _, (by decide), rfl, hN, hF, (by rw [hqr, b_kl hbk]), b_ks hbk, hw⟩ (b_r0 hbk h200).1 (b_r0 hbk h200).2 dX12_printWithout_78
      ·
        replace hw := hw.2 c18
        refine lv_iconst (v := I (-1)) hx hb dX12_printWithout_48 rfl ?_
        obtain ⟨ra, hqr⟩ := hbq
        exact xrBI hx hb hr hlk hP hK hD hS ⟨_, ra, _, (by decide), rfl, hN, hF, (by rw [hqr, b_kl hbk]), b_ks hbk, hw⟩ (b_r0 hbk h200).1 (b_r0 hbk h200).2 dX12_printWithout_49
    ·
      replace hw := hw.2 c4
      refine lv_bipush (v := I (-2)) hx hb dX12_printWithout_13 (by decide) ?_
      obtain ⟨ra, hqr⟩ := hbq
      exact xrBI hx hb hr hlk hP hK hD hS ⟨_, ra, _, (by decide), rfl, hN, hF, (by rw [hqr, b_kl hbk]), b_ks hbk, hw⟩ (b_r0 hbk h200).1 (b_r0 hbk h200).2 dX12_printWithout_15
def W_X12_print (n1 : Int) (n2 : Int) (n3 : Int) (σ : S0) (Q : Int → S0 → Prop) : Prop :=
  (16384 ≤ σ.1 200 ∧ σ.1 200 ≤ 1048576) ∧ (∀ (P0 : Int → Int → Int → S0 → Prop),
  (∀ (u1 : Int) (u2 : Int) (u3 : Int) (τ : S0), ((¬ u1 = 1 → ∃ (Q2 : Int → Prop), W_X3_isStatement u2 τ Q2 ∧ ∀ (x3 : Int), rg x3 → Q2 x3 → ((¬ x3 = 0 → (u1 < 0 ∨ 7 < u1 → Q (-1) τ) ∧ (u1 = 0 → ∃ (Q7 : S0 → Prop), W_X5_begin τ Q7 ∧ ∀ (τ9 : S0), n_m τ9 → f_r [63, 64] [] [] τ τ9 → Q7 τ9 → ((0 ≤ u2 ∧ u2 < 1500) ∧ (∀ (x11 : Int), rg x11 → x11 = τ9.2.1 12 u2 → (∃ (Q12 : S0 → Prop), W_X5_putName x11 τ9 Q12 ∧ ∀ (τ14 : S0), n_m τ14 → f_r [63, 64] [101, 102] [] τ9 τ14 → Q12 τ14 → (∃ (Q15 : Int → S0 → Prop), W_X5_finish τ14 Q15 ∧ ∀ (x16 : Int) (τ17 : S0), rg x16 → n_m τ17 → f_r [65, 67] [] [] τ14 τ17 → Q15 x16 τ17 → (Q x16 τ17)))))) ∧ (u1 = 1 → Q (-1) τ) ∧ (u1 = 2 → ∃ (Q18 : Int → S0 → Prop), W_X12_printStatement u2 τ Q18 ∧ ∀ (x19 : Int) (τ20 : S0), rg x19 → n_m τ20 → f_r [63, 64, 65, 67] [101, 102] [] τ τ20 → Q18 x19 τ20 → (Q x19 τ20)) ∧ (u1 = 3 → ∃ (Q21 : Int → S0 → Prop), W_X12_printRow u2 u3 τ Q21 ∧ ∀ (x22 : Int) (τ23 : S0), rg x22 → n_m τ23 → f_r [17, 18, 19, 63, 64, 65, 67] [39, 40, 41, 42, 43, 44, 45, 101, 102] [] τ τ23 → Q21 x22 τ23 → (Q x22 τ23)) ∧ (u1 = 4 → ∃ (Q24 : Int → S0 → Prop), W_X12_printPacked u2 τ Q24 ∧ ∀ (x25 : Int) (τ26 : S0), rg x25 → n_m τ26 → f_r [40, 41, 42, 44, 63, 64, 65, 67] [55, 56, 57, 58, 59, 60, 61, 62, 63, 64, 101, 102] [] τ τ26 → Q24 x25 τ26 → (Q x25 τ26)) ∧ (u1 = 5 → ∃ (Q27 : Int → S0 → Prop), W_X12_printUnpacked u2 τ Q27 ∧ ∀ (x28 : Int) (τ29 : S0), rg x28 → n_m τ29 → f_r [41, 42, 44, 63, 64, 65, 67] [58, 62, 63, 64, 101, 102] [] τ τ29 → Q27 x28 τ29 → (Q x28 τ29)) ∧ (u1 = 6 → ∃ (Q30 : Int → S0 → Prop), W_X12_printTree u2 τ Q30 ∧ ∀ (x31 : Int) (τ32 : S0), rg x31 → n_m τ32 → f_r [45, 46, 47, 48, 49, 50, 51, 52, 53, 54, 63, 64, 65, 67] [67, 68, 69, 70, 71, 72, 73, 74, 75, 76, 77, 78, 79, 80, 81, 82, 83, 84, 85, 86, 88, 89, 90, 101, 102] [3, 4, 5, 6, 7, 8] τ τ32 → Q30 x31 τ32 → (Q x31 τ32)) ∧ (u1 = 7 → ∃ (Q33 : Int → S0 → Prop), W_X12_printWithout u2 τ Q33 ∧ ∀ (x34 : Int) (τ35 : S0), rg x34 → n_m τ35 → f_r [17, 18, 19, 45, 46, 47, 48, 49, 50, 51, 52, 53, 54, 57, 59, 60, 61, 62, 63, 64, 65, 67, 200] [39, 40, 41, 42, 43, 67, 68, 69, 70, 71, 72, 73, 74, 75, 76, 77, 78, 79, 80, 81, 82, 83, 84, 85, 86, 88, 89, 90, 92, 93, 94, 95, 97, 98, 99, 100, 101, 102] [3, 4, 5, 6, 7, 8] τ τ35 → Q33 x34 τ35 → ((τ35.1 200 ≤ 1048576) ∧ (Q x34 τ35)))) ∧ (x3 = 0 → Q (-1) τ))) ∧ (u1 = 1 → ∃ (Q37 : Int → S0 → Prop), W_X12_printSymbol u2 τ Q37 ∧ ∀ (x38 : Int) (τ39 : S0), rg x38 → n_m τ39 → f_r [63, 64, 65, 67] [101, 102] [] τ τ39 → Q37 x38 τ39 → (Q x38 τ39))) → P0 u1 u2 u3 τ) →
  P0 n1 n2 n3 σ)
set_option maxRecDepth 100000 in
set_option maxHeartbeats 4000000 in
theorem L_X12_print (l : Launch) (g : gG) (t1 t2 : Nat) (q0 : Nat → Nat) {n1 : Int} {n2 : Int} {n3 : Int} {σ : S0} {Q : Int → S0 → Prop} (r_n1 : rg n1) (r_n2 : rg n2) (r_n3 : rg n3) (hN : n_m σ) (hw : W_X12_print n1 n2 n3 σ Q) (sz : Nat) : Met l yX12_print (wd yX12_print cX12_print 4 (some .int)) { frames := 7, cells := b_c σ, slots := b_s σ, locals := 219 } (va_Pc [.ref (q0 0), .int (I n1), .int (I n2), .int (I n3)] (cP g (CX g q0 (L2 σ) σ) sz (sX t1 t2 (va_A (CX g q0 (L2 σ) σ) sz)))) (Qc2 ((fun A k n => QI g A (p_BI g q0 [17, 18, 19, 40, 41, 42, 44, 45, 46, 47, 48, 49, 50, 51, 52, 53, 54, 57, 59, 60, 61, 62, 63, 64, 65, 67, 200] [39, 40, 41, 42, 43, 44, 45, 55, 56, 57, 58, 59, 60, 61, 62, 63, 64, 67, 68, 69, 70, 71, 72, 73, 74, 75, 76, 77, 78, 79, 80, 81, 82, 83, 84, 85, 86, 88, 89, 90, 92, 93, 94, 95, 97, 98, 99, 100, 101, 102] [3, 4, 5, 6, 7, 8] σ Q k n)) (va_A (CX g q0 (L2 σ) σ) sz)) (b_c σ) (b_s σ) (va_A (CX g q0 (L2 σ) σ) sz)) (b_c σ) (b_s σ) (va_A (CX g q0 (L2 σ) σ) sz) := by
  refine mkMet2 (Qc := fun A k n => QI g A (p_BI g q0 [17, 18, 19, 40, 41, 42, 44, 45, 46, 47, 48, 49, 50, 51, 52, 53, 54, 57, 59, 60, 61, 62, 63, 64, 65, 67, 200] [39, 40, 41, 42, 43, 44, 45, 55, 56, 57, 58, 59, 60, 61, 62, 63, 64, 67, 68, 69, 70, 71, 72, 73, 74, 75, 76, 77, 78, 79, 80, 81, 82, 83, 84, 85, 86, 88, 89, 90, 92, 93, 94, 95, 97, 98, 99, 100, 101, 102] [3, 4, 5, 6, 7, 8] σ Q k n)) (by decide) (Nat.le_of_ble_eq_true rfl) ?_
  intro p e s m below meth c A H ls hx hb hr hml hown hts hlk hnm hsz hP hK hNb hD hA hAe hS hX hl
  rw [← hAe] at hX
  have hl : lv_has ls 4 [(0, .ref (q0 0)), (1, .int (I n1)), (2, .int (I n2)), (3, .int (I n3))] := hl
  obtain ⟨h200, hw⟩ := hw
  obtain ⟨q, hq9⟩ : ∃ z : Nat → Nat, z = q0 := ⟨_, rfl⟩
  obtain ⟨lb, hl9⟩ : ∃ z : Nat, z = L2 σ := ⟨_, rfl⟩
  rw [← hq9, ← hl9] at hP hD
  have hl : lv_has ls 4 [(0, .ref (q 0)), (1, .int (I n1)), (2, .int (I n2)), (3, .int (I n3))] := by rw [hq9]; exact hl
  have hbq : bq q0 q := by rw [hq9]; exact bq_0
  have hbk : b_k σ σ lb 0 0 := b_k0 h200 hl9
  have hB := hN
  have hF : f_r [17, 18, 19, 40, 41, 42, 44, 45, 46, 47, 48, 49, 50, 51, 52, 53, 54, 57, 59, 60, 61, 62, 63, 64, 65, 67, 200] [39, 40, 41, 42, 43, 44, 45, 55, 56, 57, 58, 59, 60, 61, 62, 63, 64, 67, 68, 69, 70, 71, 72, 73, 74, 75, 76, 77, 78, 79, 80, 81, 82, 83, 84, 85, 86, 88, 89, 90, 92, 93, 94, 95, 97, 98, 99, 100, 101, 102] [3, 4, 5, 6, 7, 8] σ σ := f_0
  obtain ⟨locs, hlocs⟩ : ∃ z : List Loc, z = [] := ⟨_, rfl⟩
  rw [← hlocs] at hS ⊢
  obtain ⟨P0, hP0⟩ : ∃ P : Int → Int → Int → S0 → Prop, ∀ (u1 : Int) (u2 : Int) (u3 : Int) (τ : S0), (P u1 u2 u3 τ ↔ (rg u1 → rg u2 → rg u3 → n_m τ → f_r [17, 18, 19, 40, 41, 42, 44, 45, 46, 47, 48, 49, 50, 51, 52, 53, 54, 57, 59, 60, 61, 62, 63, 64, 65, 67, 200] [39, 40, 41, 42, 43, 44, 45, 55, 56, 57, 58, 59, 60, 61, 62, 63, 64, 67, 68, 69, 70, 71, 72, 73, 74, 75, 76, 77, 78, 79, 80, 81, 82, 83, 84, 85, 86, 88, 89, 90, 92, 93, 94, 95, 97, 98, 99, 100, 101, 102] [3, 4, 5, 6, 7, 8] σ τ → ∀ (q : Nat → Nat) (lb cells slots : Nat), bq q0 q → b_k σ τ lb cells slots → ∀ (H : Heap) (locs : List Loc) (ls : Array Slot), KP g (CX g q lb τ) H → va_D A (CX g q lb τ) → va_S A s.heap H locs → lv_has ls 4 [(0, .ref (q 0)), (1, .int (I u1)), (2, .int (I u2)), (3, .int (I u3))] → W p l e ({ frames := 7, cells := b_c σ, slots := b_s σ, locals := 219 }) s m [.ref (q0 0), .int (I n1), .int (I n2), .int (I n3)].toArray below meth c H locs cells slots (MQ2 below (fun k n => QI g A (p_BI g q0 [17, 18, 19, 40, 41, 42, 44, 45, 46, 47, 48, 49, 50, 51, 52, 53, 54, 57, 59, 60, 61, 62, 63, 64, 65, 67, 200] [39, 40, 41, 42, 43, 44, 45, 55, 56, 57, 58, 59, 60, 61, 62, 63, 64, 67, 68, 69, 70, 71, 72, 73, 74, 75, 76, 77, 78, 79, 80, 81, 82, 83, 84, 85, 86, 88, 89, 90, 92, 93, 94, 95, 97, 98, 99, 100, 101, 102] [3, 4, 5, 6, 7, 8] σ Q k n)) [.ref (q0 0), .int (I n1), .int (I n2), .int (I n3)].toArray s (b_c σ) (b_s σ) A) (F0 m 0 ls []))) := ⟨_, fun _ _ _ _ => Iff.rfl⟩
  refine (fun hw => ?_) (hw P0 ?_)
  ·
    exact (hP0 _ _ _ _).mp hw r_n1 r_n2 r_n3 hN hF _ _ _ _ hbq hbk H locs ls hP hD hS (lv_sub hl [0, 1, 2, 3] rfl)
  ·
    intro u1 u2 u3 τ hw
    refine (hP0 _ _ _ _).mpr ?_
    intro r_u1 r_u2 r_u3 hN hF q lb cells slots hbq hbk H locs ls hP hD hS hl
    have hB := hN
    refine lv_iload_n hx hb dX12_print_0 rfl (lv_at hl 1 rfl) ?_
    refine lv_iconst (v := I 1) hx hb dX12_print_1 rfl ?_
    refine bi_icmp_ne (tgt := 11) hx hb r_u1 (by decide) dX12_print_2 (by decide) (fun c1 => ?_) (fun c1 => ?_)
    ·
      replace hw := hw.1 c1
      refine lv_aload_n hx hb dX12_print_11 rfl (lv_at hl 0 rfl) ?_
      refine gfX12_library hx hb hts hK hP hown (hts _ tw_889) dX12_print_12 ?_
      refine lv_iload_n hx hb dX12_print_15 rfl (lv_at hl 2 rfl) ?_
      obtain ⟨Q2, hc, hw⟩ := hw
      have hlb := b_klt hbk
      refine wc_i (X := CX g q lb) (va_runV (As := [.int (I u2)]) (rest := []) ⟨hx, hb, hml, hown, hts⟩ (L_X3_isStatement l g q lb hlb r_u2 hN hc H.size) (cwV 1 hts (TB_V tw_1413 tw_1414 tw_1415 tw_2 co_X3_isStatement) rfl rfl rfl (by decide +kernel) ⟨Nat.le_of_ble_eq_true rfl, Nat.le_of_ble_eq_true rfl⟩) (preV (q0 := 1) (ci := 3) rfl xT_bl hP hK hNb hD rfl rfl xT_at) rfl rfl hl.1 rfl (lv_room (Nat.le_of_ble_eq_true rfl)) dX12_print_16 (b_r0 hbk h200)) hP hD hS hA (fun x3 H locs r_x3 hq hP hD hS => ?_)
      replace hw := hw x3 r_x3 hq
      refine bi_if_ne (tgt := 24) hx hb r_x3 dX12_print_19 (by decide) (fun c5 => ?_) (fun c5 => ?_)
      ·
        replace hw := hw.1 c5
        refine lv_iload_n hx hb dX12_print_24 rfl (lv_at hl 1 rfl) ?_
        have rr := (r_u1 : rg u1)
        rcases bi_sw (x := u1) 0 7 with c6 | c6
        ·
          replace hw := hw.1 c6
          refine lv_tableOut (tgt := 140) hx hb dX12_print_25 (by rw [I_toInt rr.1 rr.2]; exact c6) (by decide) ?_
          refine lv_iconst (v := I (-1)) hx hb dX12_print_140 rfl ?_
          obtain ⟨ra, hqr⟩ := hbq
          exact xrBI hx hb hr hlk hP hK hD hS ⟨_, ra, _, (by decide), rfl, hN, hF, (by rw [hqr, b_kl hbk]), b_ks hbk, hw⟩ (b_r0 hbk h200).1 (b_r0 hbk h200).2 dX12_print_141
        ·
          obtain ⟨k, hk, ec6⟩ := c6
          replace hw := hw.2
          rcases (show k = 0 ∨ k = 1 ∨ k = 2 ∨ k = 3 ∨ k = 4 ∨ k = 5 ∨ k = 6 ∨ k = 7 by omega) with rfl | rfl | rfl | rfl | rfl | rfl | rfl | rfl
          ·
            have e9 : u1 = 0 := ec6
            refine lv_tableIn (tgt := 72) hx hb dX12_print_25 (by rw [I_toInt rr.1 rr.2, e9]; decide) (by rw [I_toInt rr.1 rr.2, e9]; decide) (by rw [I_toInt rr.1 rr.2, e9]; rfl) (by decide) ?_
            replace hw := hw.1 e9
            refine lv_aload_n hx hb dX12_print_72 rfl (lv_at hl 0 rfl) ?_
            refine gfX12_paper hx hb hts hK hP hown (hts _ tw_899) dX12_print_73 ?_
            obtain ⟨Q7, hc, hw⟩ := hw
            have hlb := b_klt hbk
            refine wc_V (X := CX g q lb) (va_runV (As := []) (rest := []) ⟨hx, hb, hml, hown, hts⟩ (L_X5_begin l g q lb hlb  hN hc H.size) (cwV 0 hts (TB_V tw_1532 tw_1533 tw_1534 tw_14 co_X5_begin) rfl rfl rfl (by decide +kernel) ⟨Nat.le_of_ble_eq_true rfl, Nat.le_of_ble_eq_true rfl⟩) (preV (q0 := 12) (ci := 5) rfl xT_bl hP hK hNb hD rfl rfl xT_at) rfl rfl hl.1 rfl (lv_room (Nat.le_of_ble_eq_true rfl)) dX12_print_76 (b_r0 hbk h200)) hP hD hS hA (fun τ9 H locs hN hf hq hP hD hS => ?_)
            replace hw := hw τ9 hN hf hq
            have hF : f_r [17, 18, 19, 40, 41, 42, 44, 45, 46, 47, 48, 49, 50, 51, 52, 53, 54, 57, 59, 60, 61, 62, 63, 64, 65, 67, 200] [39, 40, 41, 42, 43, 44, 45, 55, 56, 57, 58, 59, 60, 61, 62, 63, 64, 67, 68, 69, 70, 71, 72, 73, 74, 75, 76, 77, 78, 79, 80, 81, 82, 83, 84, 85, 86, 88, 89, 90, 92, 93, 94, 95, 97, 98, 99, 100, 101, 102] [3, 4, 5, 6, 7, 8] σ τ9 := f_t hF hf (by decide) (by decide) (by decide)
            have hB := hN
            have hbk : b_k σ τ9 lb _ _ := b_kt hbk (hf.1 200 (by decide))
            refine lv_aload_n hx hb dX12_print_79 rfl (lv_at hl 0 rfl) ?_
            refine gfX12_paper hx hb hts hK hP hown (hts _ tw_899) dX12_print_80 ?_
            refine lv_aload_n hx hb dX12_print_83 rfl (lv_at hl 0 rfl) ?_
            refine gfX12_library hx hb hts hK hP hown (hts _ tw_889) dX12_print_84 ?_
            refine gfNX3_labelName hx hb hts hK hP hown (nb_use hNb tn_67) dX12_print_87 ?_
            refine lv_iload_n hx hb dX12_print_90 rfl (lv_at hl 2 rfl) ?_
            obtain ⟨c10, hw⟩ := hw
            refine ldCX3_labelName hx hb hK hP hN c10 dX12_print_91 (fun x11 r_x11 e_x11 => ?_)
            replace hw := hw x11 r_x11 e_x11
            obtain ⟨Q12, hc, hw⟩ := hw
            have hlb := b_klt hbk
            refine wc_V (X := CX g q lb) (va_runV (As := [.int (I x11)]) (rest := []) ⟨hx, hb, hml, hown, hts⟩ (L_X5_putName l g q lb hlb r_x11 hN hc H.size) (cwV 1 hts (TB_V tw_1556 tw_1541 tw_1542 tw_14 co_X5_putName) rfl rfl rfl (by decide +kernel) ⟨Nat.le_of_ble_eq_true rfl, Nat.le_of_ble_eq_true rfl⟩) (preV (q0 := 12) (ci := 5) rfl xT_bl hP hK hNb hD rfl rfl xT_at) rfl rfl hl.1 rfl (lv_room (Nat.le_of_ble_eq_true rfl)) dX12_print_92 (b_r0 hbk h200)) hP hD hS hA (fun τ14 H locs hN hf hq hP hD hS => ?_)
            replace hw := hw τ14 hN hf hq
            have hF : f_r [17, 18, 19, 40, 41, 42, 44, 45, 46, 47, 48, 49, 50, 51, 52, 53, 54, 57, 59, 60, 61, 62, 63, 64, 65, 67, 200] [39, 40, 41, 42, 43, 44, 45, 55, 56, 57, 58, 59, 60, 61, 62, 63, 64, 67, 68, 69, 70, 71, 72, 73, 74, 75, 76, 77, 78, 79, 80, 81, 82, 83, 84, 85, 86, 88, 89, 90, 92, 93, 94, 95, 97, 98, 99, 100, 101, 102] [3, 4, 5, 6, 7, 8] σ τ14 := f_t hF hf (by decide) (by decide) (by decide)
            have hB := hN
            have hbk : b_k σ τ14 lb _ _ := b_kt hbk (hf.1 200 (by decide))
            refine lv_aload_n hx hb dX12_print_95 rfl (lv_at hl 0 rfl) ?_
            refine gfX12_paper hx hb hts hK hP hown (hts _ tw_899) dX12_print_96 ?_
            obtain ⟨Q15, hc, hw⟩ := hw
            have hlb := b_klt hbk
            refine wc_I (X := CX g q lb) (va_runV (As := []) (rest := []) ⟨hx, hb, hml, hown, hts⟩ (L_X5_finish l g q lb hlb  hN hc H.size) (cwV 0 hts (TB_V tw_1552 tw_1553 tw_1554 tw_14 co_X5_finish) rfl rfl rfl (by decide +kernel) ⟨Nat.le_of_ble_eq_true rfl, Nat.le_of_ble_eq_true rfl⟩) (preV (q0 := 12) (ci := 5) rfl xT_bl hP hK hNb hD rfl rfl xT_at) rfl rfl hl.1 rfl (lv_room (Nat.le_of_ble_eq_true rfl)) dX12_print_99 (b_r0 hbk h200)) hP hD hS hA (fun x16 τ17 H locs r_x16 hN hf hq hP hD hS => ?_)
            replace hw := hw x16 τ17 r_x16 hN hf hq
            have hF : f_r [17, 18, 19, 40, 41, 42, 44, 45, 46, 47, 48, 49, 50, 51, 52, 53, 54, 57, 59, 60, 61, 62, 63, 64, 65, 67, 200] [39, 40, 41, 42, 43, 44, 45, 55, 56, 57, 58, 59, 60, 61, 62, 63, 64, 67, 68, 69, 70, 71, 72, 73, 74, 75, 76, 77, 78, 79, 80, 81, 82, 83, 84, 85, 86, 88, 89, 90, 92, 93, 94, 95, 97, 98, 99, 100, 101, 102] [3, 4, 5, 6, 7, 8] σ τ17 := f_t hF hf (by decide) (by decide) (by decide)
            have hB := hN
            have hbk : b_k σ τ17 lb _ _ := b_kt hbk (hf.1 200 (by decide))
            obtain ⟨ra, hqr⟩ := hbq
            exact xrBI hx hb hr hlk hP hK hD hS ⟨_, ra, _, r_x16, rfl, hN, hF, (by rw [hqr, b_kl hbk]), b_ks hbk, hw⟩ (b_r0 hbk h200).1 (b_r0 hbk h200).2 dX12_print_102
          ·
            have e9 : u1 = 1 := ec6
            refine lv_tableIn (tgt := 140) hx hb dX12_print_25 (by rw [I_toInt rr.1 rr.2, e9]; decide) (by rw [I_toInt rr.1 rr.2, e9]; decide) (by rw [I_toInt rr.1 rr.2, e9]; rfl) (by decide) ?_
            replace hw := hw.2.1 e9
            refine lv_iconst (v := I (-1)) hx hb dX12_print_140 rfl ?_
            obtain ⟨ra, hqr⟩ := hbq
            exact xrBI hx hb hr hlk hP hK hD hS ⟨_, ra, _, (by decide), rfl, hN, hF, (by rw [hqr, b_kl hbk]), b_ks hbk, hw⟩ (b_r0 hbk h200).1 (b_r0 hbk h200).2 dX12_print_141
          ·
            have e9 : u1 = 2 := ec6
            refine lv_tableIn (tgt := 103) hx hb dX12_print_25 (by rw [I_toInt rr.1 rr.2, e9]; decide) (by rw [I_toInt rr.1 rr.2, e9]; decide) (by rw [I_toInt rr.1 rr.2, e9]; rfl) (by decide) ?_
            replace hw := hw.2.2.1 e9
            refine lv_aload_n hx hb dX12_print_103 rfl (lv_at hl 0 rfl) ?_
            refine lv_iload_n hx hb dX12_print_104 rfl (lv_at hl 2 rfl) ?_
            obtain ⟨Q18, hc, hw⟩ := hw
            have hlb := b_klt hbk
            refine wc_I (X := CX g q lb) (va_runV (As := [.int (I u2)]) (rest := []) ⟨hx, hb, hml, hown, hts⟩ (L_X12_printStatement l g q lb hlb r_u2 hN hc H.size) (cwV 1 hts (TB_V tw_1557 tw_1559 ts_54 tw_1 co_X12_printStatement) rfl rfl rfl (by decide +kernel) ⟨Nat.le_of_ble_eq_true rfl, Nat.le_of_ble_eq_true rfl⟩) (preV (q0 := 0) (ci := 12) rfl xT_bl hP hK hNb hD rfl rfl xT_at) rfl rfl hl.1 rfl (lv_room (Nat.le_of_ble_eq_true rfl)) dX12_print_105 (b_r0 hbk h200)) hP hD hS hA (fun x19 τ20 H locs r_x19 hN hf hq hP hD hS => ?_)
            replace hw := hw x19 τ20 r_x19 hN hf hq
            have hF : f_r [17, 18, 19, 40, 41, 42, 44, 45, 46, 47, 48, 49, 50, 51, 52, 53, 54, 57, 59, 60, 61, 62, 63, 64, 65, 67, 200] [39, 40, 41, 42, 43, 44, 45, 55, 56, 57, 58, 59, 60, 61, 62, 63, 64, 67, 68, 69, 70, 71, 72, 73, 74, 75, 76, 77, 78, 79, 80, 81, 82, 83, 84, 85, 86, 88, 89, 90, 92, 93, 94, 95, 97, 98, 99, 100, 101, 102] [3, 4, 5, 6, 7, 8] σ τ20 := f_t hF hf (by decide) (by decide) (by decide)
            have hB := hN
            have hbk : b_k σ τ20 lb _ _ := b_kt hbk (hf.1 200 (by decide))
            obtain ⟨ra, hqr⟩ := hbq
            exact xrBI hx hb hr hlk hP hK hD hS ⟨_, ra, _, r_x19, rfl, hN, hF, (by rw [hqr, b_kl hbk]), b_ks hbk, hw⟩ (b_r0 hbk h200).1 (b_r0 hbk h200).2 dX12_print_108
          ·
            have e9 : u1 = 3 := ec6
            refine lv_tableIn (tgt := 109) hx hb dX12_print_25 (by rw [I_toInt rr.1 rr.2, e9]; decide) (by rw [I_toInt rr.1 rr.2, e9]; decide) (by rw [I_toInt rr.1 rr.2, e9]; rfl) (by decide) ?_
            replace hw := hw.2.2.2.1 e9
            refine lv_aload_n hx hb dX12_print_109 rfl (lv_at hl 0 rfl) ?_
            refine lv_iload_n hx hb dX12_print_110 rfl (lv_at hl 2 rfl) ?_
            refine lv_iload_n hx hb dX12_print_111 rfl (lv_at hl 3 rfl) ?_
            obtain ⟨Q21, hc, hw⟩ := hw
            have hlb := b_klt hbk
            refine wc_I (X := CX g q lb) (va_runV (As := [.int (I u2), .int (I u3)]) (rest := []) ⟨hx, hb, hml, hown, hts⟩ (L_X12_printRow l g q lb hlb r_u2 r_u3 hN hc H.size) (cwV 2 hts (TB_V tw_1561 tw_1563 ts_55 tw_1 co_X12_printRow) rfl rfl rfl (by decide +kernel) ⟨Nat.le_of_ble_eq_true rfl, Nat.le_of_ble_eq_true rfl⟩) (preV (q0 := 0) (ci := 12) rfl xT_bl hP hK hNb hD rfl rfl xT_at) rfl rfl hl.1 rfl (lv_room (Nat.le_of_ble_eq_true rfl)) dX12_print_112 (b_r0 hbk h200)) hP hD hS hA (fun x22 τ23 H locs r_x22 hN hf hq hP hD hS => ?_)
            replace hw := hw x22 τ23 r_x22 hN hf hq
            have hF : f_r [17, 18, 19, 40, 41, 42, 44, 45, 46, 47, 48, 49, 50, 51, 52, 53, 54, 57, 59, 60, 61, 62, 63, 64, 65, 67, 200] [39, 40, 41, 42, 43, 44, 45, 55, 56, 57, 58, 59, 60, 61, 62, 63, 64, 67, 68, 69, 70, 71, 72, 73, 74, 75, 76, 77, 78, 79, 80, 81, 82, 83, 84, 85, 86, 88, 89, 90, 92, 93, 94, 95, 97, 98, 99, 100, 101, 102] [3, 4, 5, 6, 7, 8] σ τ23 := f_t hF hf (by decide) (by decide) (by decide)
            have hB := hN
            have hbk : b_k σ τ23 lb _ _ := b_kt hbk (hf.1 200 (by decide))
            obtain ⟨ra, hqr⟩ := hbq
            exact xrBI hx hb hr hlk hP hK hD hS ⟨_, ra, _, r_x22, rfl, hN, hF, (by rw [hqr, b_kl hbk]), b_ks hbk, hw⟩ (b_r0 hbk h200).1 (b_r0 hbk h200).2 dX12_print_115
          ·
            have e9 : u1 = 4 := ec6
            refine lv_tableIn (tgt := 116) hx hb dX12_print_25 (by rw [I_toInt rr.1 rr.2, e9]; decide) (by rw [I_toInt rr.1 rr.2, e9]; decide) (by rw [I_toInt rr.1 rr.2, e9]; rfl) (by decide) ?_
            replace hw := hw.2.2.2.2.1 e9
            refine lv_aload_n hx hb dX12_print_116 rfl (lv_at hl 0 rfl) ?_
            refine lv_iload_n hx hb dX12_print_117 rfl (lv_at hl 2 rfl) ?_
            obtain ⟨Q24, hc, hw⟩ := hw
            have hlb := b_klt hbk
            refine wc_I (X := CX g q lb) (va_runV (As := [.int (I u2)]) (rest := []) ⟨hx, hb, hml, hown, hts⟩ (L_X12_printPacked l g q lb hlb r_u2 hN hc H.size) (cwV 1 hts (TB_V tw_1587 tw_1589 ts_56 tw_1 co_X12_printPacked) rfl rfl rfl (by decide +kernel) ⟨Nat.le_of_ble_eq_true rfl, Nat.le_of_ble_eq_true rfl⟩) (preV (q0 := 0) (ci := 12) rfl xT_bl hP hK hNb hD rfl rfl xT_at) rfl rfl hl.1 rfl (lv_room (Nat.le_of_ble_eq_true rfl)) dX12_print_118 (b_r0 hbk h200)) hP hD hS hA (fun x25 τ26 H locs r_x25 hN hf hq hP hD hS => ?_)
            replace hw := hw x25 τ26 r_x25 hN hf hq
            have hF : f_r [17, 18, 19, 40, 41, 42, 44, 45, 46, 47, 48, 49, 50, 51, 52, 53, 54, 57, 59, 60, 61, 62, 63, 64, 65, 67, 200] [39, 40, 41, 42, 43, 44, 45, 55, 56, 57, 58, 59, 60, 61, 62, 63, 64, 67, 68, 69, 70, 71, 72, 73, 74, 75, 76, 77, 78, 79, 80, 81, 82, 83, 84, 85, 86, 88, 89, 90, 92, 93, 94, 95, 97, 98, 99, 100, 101, 102] [3, 4, 5, 6, 7, 8] σ τ26 := f_t hF hf (by decide) (by decide) (by decide)
            have hB := hN
            have hbk : b_k σ τ26 lb _ _ := b_kt hbk (hf.1 200 (by decide))
            obtain ⟨ra, hqr⟩ := hbq
            exact xrBI hx hb hr hlk hP hK hD hS ⟨_, ra, _, r_x25, rfl, hN, hF, (by rw [hqr, b_kl hbk]), b_ks hbk, hw⟩ (b_r0 hbk h200).1 (b_r0 hbk h200).2 dX12_print_121
          ·
            have e9 : u1 = 5 := ec6
            refine lv_tableIn (tgt := 122) hx hb dX12_print_25 (by rw [I_toInt rr.1 rr.2, e9]; decide) (by rw [I_toInt rr.1 rr.2, e9]; decide) (by rw [I_toInt rr.1 rr.2, e9]; rfl) (by decide) ?_
            replace hw := hw.2.2.2.2.2.1 e9
            refine lv_aload_n hx hb dX12_print_122 rfl (lv_at hl 0 rfl) ?_
            refine lv_iload_n hx hb dX12_print_123 rfl (lv_at hl 2 rfl) ?_
            obtain ⟨Q27, hc, hw⟩ := hw
            have hlb := b_klt hbk
            refine wc_I (X := CX g q lb) (va_runV (As := [.int (I u2)]) (rest := []) ⟨hx, hb, hml, hown, hts⟩ (L_X12_printUnpacked l g q lb hlb r_u2 hN hc H.size) (cwV 1 hts (TB_V tw_1653 tw_1655 ts_64 tw_1 co_X12_printUnpacked) rfl rfl rfl (by decide +kernel) ⟨Nat.le_of_ble_eq_true rfl, Nat.le_of_ble_eq_true rfl⟩) (preV (q0 := 0) (ci := 12) rfl xT_bl hP hK hNb hD rfl rfl xT_at) rfl rfl hl.1 rfl (lv_room (Nat.le_of_ble_eq_true rfl)) dX12_print_124 (b_r0 hbk h200)) hP hD hS hA (fun x28 τ29 H locs r_x28 hN hf hq hP hD hS => ?_)
            replace hw := hw x28 τ29 r_x28 hN hf hq
            have hF : f_r [17, 18, 19, 40, 41, 42, 44, 45, 46, 47, 48, 49, 50, 51, 52, 53, 54, 57, 59, 60, 61, 62, 63, 64, 65, 67, 200] [39, 40, 41, 42, 43, 44, 45, 55, 56, 57, 58, 59, 60, 61, 62, 63, 64, 67, 68, 69, 70, 71, 72, 73, 74, 75, 76, 77, 78, 79, 80, 81, 82, 83, 84, 85, 86, 88, 89, 90, 92, 93, 94, 95, 97, 98, 99, 100, 101, 102] [3, 4, 5, 6, 7, 8] σ τ29 := f_t hF hf (by decide) (by decide) (by decide)
            have hB := hN
            have hbk : b_k σ τ29 lb _ _ := b_kt hbk (hf.1 200 (by decide))
            obtain ⟨ra, hqr⟩ := hbq
            exact xrBI hx hb hr hlk hP hK hD hS ⟨_, ra, _, r_x28, rfl, hN, hF, (by rw [hqr, b_kl hbk]), b_ks hbk, hw⟩ (b_r0 hbk h200).1 (b_r0 hbk h200).2 dX12_print_127
          ·
            have e9 : u1 = 6 := ec6
            refine lv_tableIn (tgt := 128) hx hb dX12_print_25 (by rw [I_toInt rr.1 rr.2, e9]; decide) (by rw [I_toInt rr.1 rr.2, e9]; decide) (by rw [I_toInt rr.1 rr.2, e9]; rfl) (by decide) ?_
            replace hw := hw.2.2.2.2.2.2.1 e9
            refine lv_aload_n hx hb dX12_print_128 rfl (lv_at hl 0 rfl) ?_
            refine lv_iload_n hx hb dX12_print_129 rfl (lv_at hl 2 rfl) ?_
            obtain ⟨Q30, hc, hw⟩ := hw
            have hlb := b_klt hbk
            refine wc_I (X := CX g q lb) (va_runV (As := [.int (I u2)]) (rest := []) ⟨hx, hb, hml, hown, hts⟩ (L_X12_printTree l g t1 t2 q lb hlb r_u2 hN hc H.size) (cwV 1 hts (TB_V tw_1663 tw_1665 ts_65 tw_1 co_X12_printTree) rfl rfl rfl (by decide +kernel) ⟨Nat.le_of_ble_eq_true rfl, Nat.le_of_ble_eq_true rfl⟩) (preV (q0 := 0) (ci := 12) rfl sX_bl hP hK hNb hD rfl rfl (sX_call hX hS (d_full hD hS hA))) rfl rfl hl.1 rfl (lv_room (Nat.le_of_ble_eq_true rfl)) dX12_print_130 (b_r0 hbk h200)) hP hD hS hA (fun x31 τ32 H locs r_x31 hN hf hq hP hD hS => ?_)
            replace hw := hw x31 τ32 r_x31 hN hf hq
            have hF : f_r [17, 18, 19, 40, 41, 42, 44, 45, 46, 47, 48, 49, 50, 51, 52, 53, 54, 57, 59, 60, 61, 62, 63, 64, 65, 67, 200] [39, 40, 41, 42, 43, 44, 45, 55, 56, 57, 58, 59, 60, 61, 62, 63, 64, 67, 68, 69, 70, 71, 72, 73, 74, 75, 76, 77, 78, 79, 80, 81, 82, 83, 84, 85, 86, 88, 89, 90, 92, 93, 94, 95, 97, 98, 99, 100, 101, 102] [3, 4, 5, 6, 7, 8] σ τ32 := f_t hF hf (by decide) (by decide) (by decide)
            have hB := hN
            have hbk : b_k σ τ32 lb _ _ := b_kt hbk (hf.1 200 (by decide))
            obtain ⟨ra, hqr⟩ := hbq
            exact xrBI hx hb hr hlk hP hK hD hS ⟨_, ra, _, r_x31, rfl, hN, hF, (by rw [hqr, b_kl hbk]), b_ks hbk, hw⟩ (b_r0 hbk h200).1 (b_r0 hbk h200).2 dX12_print_133
          ·
            have e9 : u1 = 7 := ec6
            refine lv_tableIn (tgt := 134) hx hb dX12_print_25 (by rw [I_toInt rr.1 rr.2, e9]; decide) (by rw [I_toInt rr.1 rr.2, e9]; decide) (by rw [I_toInt rr.1 rr.2, e9]; rfl) (by decide) ?_
            replace hw := hw.2.2.2.2.2.2.2 e9
            refine lv_aload_n hx hb dX12_print_134 rfl (lv_at hl 0 rfl) ?_
            refine lv_iload_n hx hb dX12_print_135 rfl (lv_at hl 2 rfl) ?_
            obtain ⟨Q33, hc, hw⟩ := hw
            have hlb := b_klt hbk
            rw [b_kl hbk] at hP hD
            refine wc_BI (run2V (As := [.int (I u2)]) (rest := []) ⟨hx, hb, hml, hown, hts⟩ (L_X12_printWithout l g t1 t2 q r_u2 hN hc H.size) (cwV 1 hts (TB_V tw_1799 tw_1801 ts_83 tw_1 co_X12_printWithout) rfl rfl rfl (by decide +kernel) ⟨Nat.le_of_ble_eq_true rfl, Nat.le_of_ble_eq_true rfl⟩) (preV (q0 := 0) (ci := 12) rfl sX_bl hP hK hNb hD rfl rfl (sX_call hX hS (d_full hD hS hA))) rfl rfl hl.1 rfl (lv_room (Nat.le_of_ble_eq_true rfl)) dX12_print_136 (b_rB hbk h200)) hP hD hS hA (fun k9 n9 x34 ra τ35 H locs hk9 hn9 r_x34 hN hf hkn hq hP hD hS => ?_)
            replace hw := hw x34 τ35 r_x34 hN hf hq
            have hF : f_r [17, 18, 19, 40, 41, 42, 44, 45, 46, 47, 48, 49, 50, 51, 52, 53, 54, 57, 59, 60, 61, 62, 63, 64, 65, 67, 200] [39, 40, 41, 42, 43, 44, 45, 55, 56, 57, 58, 59, 60, 61, 62, 63, 64, 67, 68, 69, 70, 71, 72, 73, 74, 75, 76, 77, 78, 79, 80, 81, 82, 83, 84, 85, 86, 88, 89, 90, 92, 93, 94, 95, 97, 98, 99, 100, 101, 102] [3, 4, 5, 6, 7, 8] σ τ35 := f_t hF hf (by decide) (by decide) (by decide)
            have hB := hN
            obtain ⟨c36, hw⟩ := hw
            obtain ⟨q, hq9⟩ : ∃ z : Nat → Nat, z = qn q ra := ⟨_, rfl⟩
            obtain ⟨lb, hl9⟩ : ∃ z : Nat, z = L2 τ35 := ⟨_, rfl⟩
            rw [← hq9, ← hl9] at hP hD
            have hbk : b_k σ τ35 lb _ _ := b_kB hbk h200 hl9 hkn c36
            have hbq := bq_t hbq hq9
            have hl : lv_has ls 4 [(0, .ref (q 0)), (1, .int (I u1)), (2, .int (I u2)), (3, .int (I u3))] := by rw [hq9]; exact hl
            obtain ⟨ra, hqr⟩ := hbq
            exact xrBI hx hb hr hlk hP hK hD hS ⟨_, ra, _, r_x34, rfl, hN, hF, (by rw [hqr, b_kl hbk]), b_ks hbk, hw⟩ (b_r0 hbk h200).1 (b_r0 hbk h200).2 dX12_print_139
      ·
        replace hw := hw.2 c5
        refine lv_iconst (v := I (-1)) hx hb dX12_print_22 rfl ?_
        obtain ⟨ra, hqr⟩ := hbq
        exact xrBI hx hb hr hlk hP hK hD hS ⟨_, ra, _, (by decide), rfl, hN, hF, (by rw [hqr, b_kl hbk]), b_ks hbk, hw⟩ (b_r0 hbk h200).1 (b_r0 hbk h200).2 dX12_print_23
    ·
      replace hw := hw.2 c1
      refine lv_aload_n hx hb dX12_print_5 rfl (lv_at hl 0 rfl) ?_
      refine lv_iload_n hx hb dX12_print_6 rfl (lv_at hl 2 rfl) ?_
      obtain ⟨Q37, hc, hw⟩ := hw
      have hlb := b_klt hbk
      refine wc_I (X := CX g q lb) (va_runV (As := [.int (I u2)]) (rest := []) ⟨hx, hb, hml, hown, hts⟩ (L_X12_printSymbol l g q lb hlb r_u2 hN hc H.size) (cwV 1 hts (TB_V tw_1528 tw_1530 ts_53 tw_1 co_X12_printSymbol) rfl rfl rfl (by decide +kernel) ⟨Nat.le_of_ble_eq_true rfl, Nat.le_of_ble_eq_true rfl⟩) (preV (q0 := 0) (ci := 12) rfl xT_bl hP hK hNb hD rfl rfl xT_at) rfl rfl hl.1 rfl (lv_room (Nat.le_of_ble_eq_true rfl)) dX12_print_7 (b_r0 hbk h200)) hP hD hS hA (fun x38 τ39 H locs r_x38 hN hf hq hP hD hS => ?_)
      replace hw := hw x38 τ39 r_x38 hN hf hq
      have hF : f_r [17, 18, 19, 40, 41, 42, 44, 45, 46, 47, 48, 49, 50, 51, 52, 53, 54, 57, 59, 60, 61, 62, 63, 64, 65, 67, 200] [39, 40, 41, 42, 43, 44, 45, 55, 56, 57, 58, 59, 60, 61, 62, 63, 64, 67, 68, 69, 70, 71, 72, 73, 74, 75, 76, 77, 78, 79, 80, 81, 82, 83, 84, 85, 86, 88, 89, 90, 92, 93, 94, 95, 97, 98, 99, 100, 101, 102] [3, 4, 5, 6, 7, 8] σ τ39 := f_t hF hf (by decide) (by decide) (by decide)
      have hB := hN
      have hbk : b_k σ τ39 lb _ _ := b_kt hbk (hf.1 200 (by decide))
      obtain ⟨ra, hqr⟩ := hbq
      exact xrBI hx hb hr hlk hP hK hD hS ⟨_, ra, _, r_x38, rfl, hN, hF, (by rw [hqr, b_kl hbk]), b_ks hbk, hw⟩ (b_r0 hbk h200).1 (b_r0 hbk h200).2 dX12_print_10
