-- pure: what of a row the grammar reaches
theorem j_mm {e : Int} (a : 0 ≤ e) (b : e ≤ 59) : 0 ≤ e * (e - 1) ∧ e * (e - 1) ≤ 3422 := by
  rcases Int.lt_or_le e 1 with z | z
  · rw [show e = 0 from by omega]; decide
  · refine ⟨Int.mul_nonneg a (by omega), ?_⟩
    have := Int.mul_le_mul (a := e) (b := e - 1) (c := 59) (d := 58) b (by omega) (by omega) (by omega)
    omega
def g_ti (e : Int) : Int := e * (e - 1) / 2
theorem g_ti_b {e : Int} (a : 0 ≤ e) (b : e ≤ 59) : 0 ≤ g_ti e ∧ g_ti e ≤ 1711 := by
  have := j_mm a b
  unfold g_ti; omega
theorem g_ti_s (e : Int) : g_ti (e + 1) = g_ti e + e := by
  unfold g_ti
  have h : (e + 1) * (e + 1 - 1) = e * (e - 1) + 2 * e := by
    rw [show e + 1 - 1 = e from by omega, Int.add_mul, Int.mul_sub]; omega
  rw [h]; omega
theorem g_ti_d {e : Int} (a : 0 ≤ e) : ∀ d : Nat, g_ti e ≤ g_ti (e + (d : Int))
  | 0 => by rw [show e + ((0 : Nat) : Int) = e from by omega]; exact Int.le_refl _
  | d + 1 => by
    have h := g_ti_d a d
    rw [show e + ((d + 1 : Nat) : Int) = e + (d : Int) + 1 from by omega, g_ti_s]; omega
theorem g_ti_m {e f : Int} (a : 0 ≤ e) (h : e ≤ f) : g_ti e ≤ g_ti f := by
  have := g_ti_d a (f - e).toNat
  rw [show e + ((f - e).toNat : Int) = f from by omega] at this; exact this
theorem g_ti_l {i e i2 e2 : Int} (a0 : 0 ≤ i) (a1 : i < e) (b0 : 0 ≤ i2) (h : e < e2) : g_ti e + i < g_ti e2 + i2 := by
  have m := g_ti_m (e := e + 1) (f := e2) (by omega) (by omega)
  rw [g_ti_s] at m; omega
theorem g_ti_i {i e i2 e2 : Int} (a0 : 0 ≤ i) (a1 : i < e) (b0 : 0 ≤ i2) (b1 : i2 < e2) (h : g_ti e + i = g_ti e2 + i2) : e = e2 ∧ i = i2 := by
  rcases Int.lt_trichotomy e e2 with z | z | z
  · have := g_ti_l a0 a1 b0 z; omega
  · rw [z] at h; exact ⟨z, by omega⟩
  · have := g_ti_l b0 b1 a0 z; omega
def g_mb (f : Int → Int) (s i e : Int) : Int := f (s * 1770 + e * (e - 1) / 2 + i)
theorem g_mb_st {f : Int → Int} {s i e s2 i2 e2 x : Int} (a0 : 0 ≤ i) (a1 : i < e) (a2 : e ≤ 59) (b0 : 0 ≤ i2) (b1 : i2 < e2) (b2 : e2 ≤ 59) : (s = s2 ∧ i = i2 ∧ e = e2 ∧ g_mb (st f (s2 * 1770 + e2 * (e2 - 1) / 2 + i2) x) s i e = x) ∨ (¬ (s = s2 ∧ i = i2 ∧ e = e2) ∧ g_mb (st f (s2 * 1770 + e2 * (e2 - 1) / 2 + i2) x) s i e = g_mb f s i e) := by
  unfold g_mb
  by_cases z : s = s2 ∧ i = i2 ∧ e = e2
  · obtain ⟨z1, z2, z3⟩ := z
    rw [z1, z2, z3, st_s]; exact Or.inl ⟨rfl, rfl, rfl, rfl⟩
  · refine Or.inr ⟨z, st_n _ _ (fun q => z ?_)⟩
    have p := g_ti_b (e := e) (by omega) a2
    have p2 := g_ti_b (e := e2) (by omega) b2
    have t : e * (e - 1) / 2 = g_ti e := rfl
    have t2 : e2 * (e2 - 1) / 2 = g_ti e2 := rfl
    rw [t, t2] at q
    have w := g_ti_i a0 a1 b0 b1 (show g_ti e + i = g_ti e2 + i2 from by omega)
    exact ⟨by omega, w.2, w.1⟩
/-- cells of bits -/
def g_H (b : Int → Int64) (s i e : Int) : Prop := j_b (b (s * 60 + i)) e
theorem g_H_st {b : Int → Int64} {s i e s2 i2 : Int} {x : Int64} (a0 : 0 ≤ i) (a1 : i < 60) (b0 : 0 ≤ i2) (b1 : i2 < 60) : (s = s2 ∧ i = i2 ∧ (g_H (st b (s2 * 60 + i2) x) s i e ↔ j_b x e)) ∨ (¬ (s = s2 ∧ i = i2) ∧ (g_H (st b (s2 * 60 + i2) x) s i e ↔ g_H b s i e)) := by
  unfold g_H
  by_cases z : s = s2 ∧ i = i2
  · rw [z.1, z.2, st_s]; exact Or.inl ⟨rfl, rfl, Iff.rfl⟩
  · rw [st_n _ _ (show s * 60 + i ≠ s2 * 60 + i2 from fun q => z ⟨by omega, by omega⟩)]; exact Or.inr ⟨z, Iff.rfl⟩
/-- one symbol of a rule fits from q to q2 -/
def g_mk (len : Int) (row : Int → Int) (Hs : Int → Int → Int → Prop) (ke q q2 : Int) : Prop := q < len ∧ ((0 ≤ ke ∧ row q = ke ∧ q2 = q + 1) ∨ (ke < 0 ∧ q < q2 ∧ q2 ≤ len ∧ Hs (-1 - ke) q q2))
theorem g_mk_b {len ke q q2 : Int} {row : Int → Int} {Hs : Int → Int → Int → Prop} (h : g_mk len row Hs ke q q2) : q < q2 ∧ q2 ≤ len := by
  obtain ⟨h1, ⟨a, b, c⟩ | ⟨a, b, c, d⟩⟩ := h
  · omega
  · exact ⟨b, c⟩
theorem g_mk_m {len ke q q2 : Int} {row : Int → Int} {Hs Ht : Int → Int → Int → Prop} (h : g_mk len row Hs ke q q2) (m : ke < 0 → Hs (-1 - ke) q q2 → Ht (-1 - ke) q q2) : g_mk len row Ht ke q q2 := by
  obtain ⟨h1, h2 | ⟨a, b, c, d⟩⟩ := h
  · exact ⟨h1, Or.inl h2⟩
  · exact ⟨h1, Or.inr ⟨a, b, c, m a d⟩⟩
/-- a way from node b at place p down to node n at place q -/
def g_wk (len : Int) (row ky par : Int → Int) (Hs : Int → Int → Int → Prop) (b p n q m : Int) (π d : Int → Int) : Prop := 0 ≤ m ∧ π 0 = b ∧ π m = n ∧ d 0 = p ∧ d m = q ∧ ∀ j : Int, 0 ≤ j → j < m → 1 ≤ π (j + 1) ∧ par (π (j + 1)) = π j ∧ g_mk len row Hs (ky (π (j + 1))) (d j) (d (j + 1))
def g_rc (len : Int) (row ky par : Int → Int) (Hs : Int → Int → Int → Prop) (b p n q : Int) : Prop := ∃ m : Int, ∃ π d : Int → Int, g_wk len row ky par Hs b p n q m π d
def g_rs (len : Int) (row ky par : Int → Int) (Hs Ss : Int → Int → Int → Prop) (b p n q : Int) : Prop := ∃ m : Int, ∃ π d : Int → Int, g_wk len row ky par Hs b p n q m π d ∧ ∃ j : Int, 0 ≤ j ∧ j < m ∧ ky (π (j + 1)) < 0 ∧ Ss (-1 - ky (π (j + 1))) (d j) (d (j + 1))
theorem g_wk_s {len b p n q m c q2 : Int} {row ky par π d : Int → Int} {Hs : Int → Int → Int → Prop} (h : g_wk len row ky par Hs b p n q m π d) (c1 : 1 ≤ c) (pc : par c = n) (k : g_mk len row Hs (ky c) q q2) : g_wk len row ky par Hs b p c q2 (m + 1) (st π (m + 1) c) (st d (m + 1) q2) := by
  obtain ⟨h0, h1, h2, h3, h4, h5⟩ := h
  refine ⟨by omega, by rw [st_n _ _ (show (0 : Int) ≠ m + 1 from by omega)]; exact h1, st_s _ _ _, by rw [st_n _ _ (show (0 : Int) ≠ m + 1 from by omega)]; exact h3, st_s _ _ _, fun j j0 j1 => ?_⟩
  rw [st_n _ _ (show j ≠ m + 1 from by omega), st_n _ _ (show j ≠ m + 1 from by omega)]
  by_cases z : j = m
  · rw [z, st_s, st_s, h2, h4]; exact ⟨c1, pc, k⟩
  · rw [st_n _ _ (show j + 1 ≠ m + 1 from by omega), st_n _ _ (show j + 1 ≠ m + 1 from by omega)]; exact h5 j j0 (by omega)
theorem g_wk_p {len b p n q m : Int} {row ky par π d : Int → Int} {Hs : Int → Int → Int → Prop} (h : g_wk len row ky par Hs b p n q m π d) (m0 : 0 < m) : 1 ≤ n ∧ g_wk len row ky par Hs b p (par n) (d (m - 1)) (m - 1) π d ∧ g_mk len row Hs (ky n) (d (m - 1)) q := by
  obtain ⟨h0, h1, h2, h3, h4, h5⟩ := h
  obtain ⟨w1, w2, w3⟩ := h5 (m - 1) (by omega) (by omega)
  rw [show m - 1 + 1 = m from by omega, h2] at w1 w2 w3
  rw [h4] at w3
  exact ⟨w1, ⟨by omega, h1, w2.symm, h3, rfl, fun j j0 j1 => h5 j j0 (by omega)⟩, w3⟩
theorem g_rc0 (len : Int) (row ky par : Int → Int) (Hs : Int → Int → Int → Prop) (b p : Int) : g_rc len row ky par Hs b p b p := ⟨0, fun _ => b, fun _ => p, by omega, rfl, rfl, rfl, rfl, fun j a c => by omega⟩
theorem g_rc_s {len b p n q c q2 : Int} {row ky par : Int → Int} {Hs : Int → Int → Int → Prop} (h : g_rc len row ky par Hs b p n q) (c1 : 1 ≤ c) (pc : par c = n) (k : g_mk len row Hs (ky c) q q2) : g_rc len row ky par Hs b p c q2 := by
  obtain ⟨m, π, d, w⟩ := h
  exact ⟨_, _, _, g_wk_s w c1 pc k⟩
theorem g_rs_s {len b p n q c q2 : Int} {row ky par : Int → Int} {Hs Ss : Int → Int → Int → Prop} (h : g_rs len row ky par Hs Ss b p n q) (c1 : 1 ≤ c) (pc : par c = n) (k : g_mk len row Hs (ky c) q q2) : g_rs len row ky par Hs Ss b p c q2 := by
  obtain ⟨m, π, d, w, j, j0, j1, j2, j3⟩ := h
  refine ⟨_, _, _, g_wk_s w c1 pc k, j, j0, by omega, ?_⟩
  rw [st_n _ _ (show j + 1 ≠ m + 1 from by omega), st_n _ _ (show j + 1 ≠ m + 1 from by omega), st_n _ _ (show j ≠ m + 1 from by omega)]
  exact ⟨j2, j3⟩
theorem g_rs_n {len b p n q c q2 : Int} {row ky par : Int → Int} {Hs Ss : Int → Int → Int → Prop} (h : g_rc len row ky par Hs b p n q) (c1 : 1 ≤ c) (pc : par c = n) (k : g_mk len row Hs (ky c) q q2) (z : ky c < 0) (s : Ss (-1 - ky c) q q2) : g_rs len row ky par Hs Ss b p c q2 := by
  obtain ⟨m, π, d, w⟩ := h
  have w0 := w.1
  have w4 := w.2.2.2.2.1
  refine ⟨_, _, _, g_wk_s w c1 pc k, m, w0, by omega, ?_⟩
  rw [st_s, st_s, st_n _ _ (show m ≠ m + 1 from by omega), w4]
  exact ⟨z, s⟩
/-- the last step of a way -/
theorem g_rc_i {len b p c q2 : Int} {row ky par : Int → Int} {Hs : Int → Int → Int → Prop} (h : g_rc len row ky par Hs b p c q2) (z : c ≠ b) : 1 ≤ c ∧ ∃ q : Int, g_rc len row ky par Hs b p (par c) q ∧ g_mk len row Hs (ky c) q q2 := by
  obtain ⟨m, π, d, w⟩ := h
  by_cases y : m = 0
  · obtain ⟨_, h1, h2, _⟩ := w
    rw [y, h1] at h2; exact absurd h2.symm z
  · have w0 := w.1
    obtain ⟨x1, x2, x3⟩ := g_wk_p w (by omega)
    exact ⟨x1, _, ⟨_, _, _, x2⟩, x3⟩
theorem g_rs_i {len b p c q2 : Int} {row ky par : Int → Int} {Hs Ss : Int → Int → Int → Prop} (h : g_rs len row ky par Hs Ss b p c q2) : 1 ≤ c ∧ ∃ q : Int, g_mk len row Hs (ky c) q q2 ∧ (g_rs len row ky par Hs Ss b p (par c) q ∨ (g_rc len row ky par Hs b p (par c) q ∧ ky c < 0 ∧ Ss (-1 - ky c) q q2)) := by
  obtain ⟨m, π, d, w, j, j0, j1, j2, j3⟩ := h
  have w2 := w.2.2.1
  have w4 := w.2.2.2.2.1
  obtain ⟨x1, x2, x3⟩ := g_wk_p w (by omega)
  refine ⟨x1, _, x3, ?_⟩
  by_cases z : j = m - 1
  · rw [z, show m - 1 + 1 = m from by omega, w2, w4] at j3
    rw [z, show m - 1 + 1 = m from by omega, w2] at j2
    exact Or.inr ⟨⟨_, _, _, x2⟩, j2, j3⟩
  · exact Or.inl ⟨_, _, _, x2, j, j0, by omega, j2, j3⟩
/-- places grow along a way -/
theorem g_wk_d {len b p n q m : Int} {row ky par π d : Int → Int} {Hs : Int → Int → Int → Prop} (h : g_wk len row ky par Hs b p n q m π d) : ∀ k : Nat, (k : Int) ≤ m → p + (k : Int) ≤ d (k : Int)
  | 0, _ => by
    have := h.2.2.2.1
    show p + ((0 : Nat) : Int) ≤ d ((0 : Nat) : Int)
    rw [show ((0 : Nat) : Int) = 0 from rfl, this]; omega
  | k + 1, hk => by
    have w := g_wk_d h k (by omega)
    have v := g_mk_b (h.2.2.2.2.2 (k : Int) (by omega) (by omega)).2.2
    rw [show ((k + 1 : Nat) : Int) = (k : Int) + 1 from by omega]; omega
theorem g_wk_g {len b p n q m j : Int} {row ky par π d : Int → Int} {Hs : Int → Int → Int → Prop} (h : g_wk len row ky par Hs b p n q m π d) (j0 : 0 ≤ j) (j1 : j ≤ m) : p + j ≤ d j := by
  have := g_wk_d h j.toNat (by omega)
  rw [show (j.toNat : Int) = j from by omega] at this; exact this
/-- more is reached when more cells are -/
theorem g_wk_m {len b p n q m : Int} {row ky par π d : Int → Int} {Hs Ht : Int → Int → Int → Prop} (h : g_wk len row ky par Hs b p n q m π d) (mo : ∀ s i e : Int, 0 ≤ s → p ≤ i → Hs s i e → Ht s i e) : g_wk len row ky par Ht b p n q m π d := by
  have g := fun j a c => g_wk_g (j := j) h a c
  obtain ⟨h0, h1, h2, h3, h4, h5⟩ := h
  refine ⟨h0, h1, h2, h3, h4, fun j j0 j1 => ?_⟩
  obtain ⟨w1, w2, w3⟩ := h5 j j0 j1
  exact ⟨w1, w2, g_mk_m w3 (fun z y => mo _ _ _ (by omega) (by have := g j j0 (by omega); omega) y)⟩
theorem g_rc_m {len b p n q : Int} {row ky par : Int → Int} {Hs Ht : Int → Int → Int → Prop} (h : g_rc len row ky par Hs b p n q) (mo : ∀ s i e : Int, 0 ≤ s → p ≤ i → Hs s i e → Ht s i e) : g_rc len row ky par Ht b p n q := by
  obtain ⟨m, π, d, w⟩ := h
  exact ⟨m, π, d, g_wk_m w mo⟩
theorem g_rs_m {len b p n q : Int} {row ky par : Int → Int} {Hs Ht Ss St : Int → Int → Int → Prop} (h : g_rs len row ky par Hs Ss b p n q) (mo : ∀ s i e : Int, 0 ≤ s → p ≤ i → Hs s i e → Ht s i e) (ms : ∀ s i e : Int, 0 ≤ s → p ≤ i → Ss s i e → St s i e) : g_rs len row ky par Ht St b p n q := by
  obtain ⟨m, π, d, w, j, j0, j1, j2, j3⟩ := h
  have g := g_wk_g (j := j) w j0 (by omega)
  exact ⟨m, π, d, g_wk_m w mo, j, j0, j1, j2, ms _ _ _ (by omega) (by omega) j3⟩
set_option maxHeartbeats 2000000 in
theorem K_X1_add {n1 : Int} {n2 : Int64} {n4 : Int64} {n6 : Int} {σ : S0} (hT : c_T σ) (p1 : 0 ≤ n1) (p2 : n1 < 100) (p3 : 0 ≤ n6) (p4 : n6 < 1500) (p5 : (σ.1 53) < (σ.1 50)) : W_X1_add n1 n2 n4 n6 σ (fun (τ : S0) => (c_T τ) ∧ (τ.2.2 4 = st (σ.2.2 4) ((n1 * 60) + (σ.1 53)) (σ.2.2 4 ((n1 * 60) + (σ.1 53)) ||| n2)) ∧ (τ.2.2 5 = st (σ.2.2 5) ((n1 * 60) + (σ.1 53)) (σ.2.2 5 ((n1 * 60) + (σ.1 53)) ||| (n4 ||| (n2 &&& σ.2.2 4 ((n1 * 60) + (σ.1 53)))))) ∧ (∀ s i e : Int, 0 ≤ i → i < e → e ≤ 59 → (¬ (s = n1 ∧ i = (σ.1 53) ∧ e ≤ (σ.1 50) ∧ j_b n2 e ∧ ¬ j_b (σ.2.2 4 ((n1 * 60) + (σ.1 53))) e) → g_mb (τ.2.1 79) s i e = g_mb (σ.2.1 79) s i e) ∧ ((s = n1 ∧ i = (σ.1 53) ∧ e ≤ (σ.1 50) ∧ j_b n2 e ∧ ¬ j_b (σ.2.2 4 ((n1 * 60) + (σ.1 53))) e) → g_mb (τ.2.1 79) s i e = n6))) := by
  have A79 : ∀ j, 0 ≤ σ.2.1 79 j ∧ σ.2.1 79 j ≤ 1499 := fun j => hT.2 79 j
  have v50 : 0 ≤ σ.1 50 ∧ σ.1 50 ≤ 59 := hT.1 50
  have v53 : 0 ≤ σ.1 53 ∧ σ.1 53 ≤ 58 := hT.1 53
  have W50 : σ.1 50 = σ.1 50 := rfl
  have W53 : σ.1 53 = σ.1 53 := rfl
  intro P67 h67
  have l_67 : ∀ (m_67 : Nat) (u8_67 : Int64) (u10_67 : Int) (τ_67 : S0), 61 - u10_67 < (m_67 : Int) → (c_T τ_67) → (τ_67.1 50 = σ.1 50) → (τ_67.1 53 = σ.1 53) → ((σ.1 53) + 1 ≤ u10_67) → (u10_67 ≤ (σ.1 50) + 1) → (u8_67 = n2 &&& (σ.2.2 4 ((n1 * 60) + (σ.1 53)) ^^^ (-1))) → (τ_67.2.2 4 = st (σ.2.2 4) ((n1 * 60) + (σ.1 53)) (σ.2.2 4 ((n1 * 60) + (σ.1 53)) ||| n2)) → (τ_67.2.2 5 = st (σ.2.2 5) ((n1 * 60) + (σ.1 53)) (σ.2.2 5 ((n1 * 60) + (σ.1 53)) ||| (n4 ||| (n2 &&& σ.2.2 4 ((n1 * 60) + (σ.1 53)))))) → (∀ s i e : Int, 0 ≤ i → i < e → e ≤ 59 → (¬ (s = n1 ∧ i = (σ.1 53) ∧ e < u10_67 ∧ j_b n2 e ∧ ¬ j_b (σ.2.2 4 ((n1 * 60) + (σ.1 53))) e) → g_mb (τ_67.2.1 79) s i e = g_mb (σ.2.1 79) s i e) ∧ ((s = n1 ∧ i = (σ.1 53) ∧ e < u10_67 ∧ j_b n2 e ∧ ¬ j_b (σ.2.2 4 ((n1 * 60) + (σ.1 53))) e) → g_mb (τ_67.2.1 79) s i e = n6)) → P67 n1 n6 u8_67 u10_67 τ_67 := by
    intro m_67
    induction m_67 with
    | zero =>
      intro u8_67 u10_67 τ_67 hm hT W50 W53 i67_1 i67_2 i67_3 i67_4 i67_5 i67_6
      have A79 : ∀ j, 0 ≤ τ_67.2.1 79 j ∧ τ_67.2.1 79 j ≤ 1499 := fun j => hT.2 79 j
      have v50 : 0 ≤ τ_67.1 50 ∧ τ_67.1 50 ≤ 59 := hT.1 50
      have v53 : 0 ≤ τ_67.1 53 ∧ τ_67.1 53 ≤ 58 := hT.1 53
      exfalso; (first | omega | (simp only [st_s] <;> omega) | assumption | omega | fail)
    | succ m_67 ih_67 =>
      intro u8_67 u10_67 τ_67 hm_67 hT W50 W53 i67_1 i67_2 i67_3 i67_4 i67_5 i67_6
      have A79 : ∀ j, 0 ≤ τ_67.2.1 79 j ∧ τ_67.2.1 79 j ≤ 1499 := fun j => hT.2 79 j
      have v50 : 0 ≤ τ_67.1 50 ∧ τ_67.1 50 ≤ 59 := hT.1 50
      have v53 : 0 ≤ τ_67.1 53 ∧ τ_67.1 53 ≤ 58 := hT.1 53
      have u8e := i67_3
      refine h67 n1 n6 u8_67 u10_67 τ_67 ?_
      refine ⟨fun c7 => ?_, fun c7 => ?_⟩
      ·
        exact ⟨hT, (show τ_67.2.2 4 = st (σ.2.2 4) ((n1 * 60) + (σ.1 53)) (σ.2.2 4 ((n1 * 60) + (σ.1 53)) ||| n2) from by exact i67_4), (show τ_67.2.2 5 = st (σ.2.2 5) ((n1 * 60) + (σ.1 53)) (σ.2.2 5 ((n1 * 60) + (σ.1 53)) ||| (n4 ||| (n2 &&& σ.2.2 4 ((n1 * 60) + (σ.1 53))))) from by exact i67_5), (show ∀ s i e : Int, 0 ≤ i → i < e → e ≤ 59 → (¬ (s = n1 ∧ i = (σ.1 53) ∧ e ≤ (σ.1 50) ∧ j_b n2 e ∧ ¬ j_b (σ.2.2 4 ((n1 * 60) + (σ.1 53))) e) → g_mb (τ_67.2.1 79) s i e = g_mb (σ.2.1 79) s i e) ∧ ((s = n1 ∧ i = (σ.1 53) ∧ e ≤ (σ.1 50) ∧ j_b n2 e ∧ ¬ j_b (σ.2.2 4 ((n1 * 60) + (σ.1 53))) e) → g_mb (τ_67.2.1 79) s i e = n6) from by (intro s i e e0 e1 e2; have w := i67_6 s i e e0 e1 e2; exact ⟨fun q => w.1 (fun y => q ⟨y.1, y.2.1, by omega, y.2.2.2⟩), fun q => w.2 ⟨q.1, q.2.1, by omega, q.2.2.2⟩⟩))⟩
      ·
        refine ⟨fun c8 => ?_, fun c8 => ?_⟩
        ·
          have mm := j_mm (e := u10_67) (by omega) (by omega)
          refine ⟨(⟨by (first | omega | (simp only [st_s] <;> omega) | assumption | omega | fail), by (first | omega | (simp only [st_s] <;> omega) | assumption | omega | fail)⟩ : rg (u10_67 + 1)), ?_⟩
          exact ih_67 _ _ _ (show (61 - (u10_67 + 1) : Int) < ((m_67 : Nat) : Int) from by ((first | omega | (simp only [st_s] <;> omega) | assumption | omega | fail))) hT (show τ_67.1 50 = σ.1 50 from by first | exact W50 | omega) (show τ_67.1 53 = σ.1 53 from by first | exact W53 | omega) (show (σ.1 53) + 1 ≤ (u10_67 + 1) from by (first | omega | (simp only [st_s] <;> omega) | assumption | omega | fail)) (show (u10_67 + 1) ≤ (σ.1 50) + 1 from by (first | omega | (simp only [st_s] <;> omega) | assumption | omega | fail)) (show u8_67 = n2 &&& (σ.2.2 4 ((n1 * 60) + (σ.1 53)) ^^^ (-1)) from by (first | assumption | (rw [e_x2]) | fail)) (show τ_67.2.2 4 = st (σ.2.2 4) ((n1 * 60) + (σ.1 53)) (σ.2.2 4 ((n1 * 60) + (σ.1 53)) ||| n2) from by (first | exact i67_4 | (rw [e_x5]) | fail)) (show τ_67.2.2 5 = st (σ.2.2 5) ((n1 * 60) + (σ.1 53)) (σ.2.2 5 ((n1 * 60) + (σ.1 53)) ||| (n4 ||| (n2 &&& σ.2.2 4 ((n1 * 60) + (σ.1 53))))) from by (first | exact i67_5 | (rw [e_x3, e_x4]) | fail)) (show ∀ s i e : Int, 0 ≤ i → i < e → e ≤ 59 → (¬ (s = n1 ∧ i = (σ.1 53) ∧ e < (u10_67 + 1) ∧ j_b n2 e ∧ ¬ j_b (σ.2.2 4 ((n1 * 60) + (σ.1 53))) e) → g_mb (τ_67.2.1 79) s i e = g_mb (σ.2.1 79) s i e) ∧ ((s = n1 ∧ i = (σ.1 53) ∧ e < (u10_67 + 1) ∧ j_b n2 e ∧ ¬ j_b (σ.2.2 4 ((n1 * 60) + (σ.1 53))) e) → g_mb (τ_67.2.1 79) s i e = n6) from by (intro s i e e0 e1 e2; first | (refine ⟨fun _ => rfl, fun q => ?_⟩; exfalso; omega) | (have w := i67_6 s i e e0 e1 e2; have bf := (j_b_f (x := u8_67) (k := u10_67) (by omega) (by omega)).mp (by assumption); rw [i67_3, j_b_and, j_b_not _ (by omega) (by omega)] at bf; refine ⟨fun q => w.1 (fun y => q ⟨y.1, y.2.1, by omega, y.2.2.2⟩), fun q => ?_⟩; by_cases z : e = u10_67; exact absurd (by rw [← z]; exact q.2.2.2) bf; exact w.2 ⟨q.1, q.2.1, by omega, q.2.2.2⟩) | (have w := i67_6 s i e e0 e1 e2; have v := g_mb_st (f := τ_67.2.1 79) (s := s) (i := i) (e := e) (s2 := n1) (i2 := τ_67.1 53) (e2 := u10_67) (x := n6) e0 e1 e2 (by omega) (by omega) (by omega); rw [← h1_x11 mm.1] at v; rcases v with ⟨v1, v2, v3, v4⟩ | ⟨v1, v2⟩; exact ⟨fun q => absurd ⟨v1, by omega, by omega, by rw [v3]; exact bt⟩ q, fun _ => v4⟩; (refine ⟨fun q => v2.trans (w.1 (fun y => q ⟨y.1, y.2.1, by omega, y.2.2.2⟩)), fun q => v2.trans (w.2 ⟨q.1, q.2.1, by rcases (by omega : e < u10_67 ∨ e = u10_67) with y | y; exact y; exact absurd ⟨q.1, by omega, y⟩ v1, q.2.2.2⟩)⟩))))
        ·
          have mm := j_mm (e := u10_67) (by omega) (by omega)
          have bt := (j_b_t (x := u8_67) (k := u10_67) (by omega) (by omega)).mp (by assumption)
          rw [i67_3, j_b_and, j_b_not _ (by omega) (by omega)] at bt
          refine ⟨(⟨by (first | omega | (simp only [st_s] <;> omega) | assumption | omega | fail), by (first | omega | (simp only [st_s] <;> omega) | assumption | omega | fail)⟩ : rg (u10_67 * (u10_67 - 1))), ?_⟩
          intro x11 r_x11 h1_x11 h2_x11
          refine ⟨(show 0 ≤ (((n1 * 1770) + x11) + τ_67.1 53) ∧ (((n1 * 1770) + x11) + τ_67.1 53) < 177000 from by (first | omega | (simp only [st_s] <;> omega) | assumption | omega | fail)), ?_⟩
          replace hT := cT_a (k := 79) (j := (((n1 * 1770) + x11) + τ_67.1 53)) hT (show (0 : Int) ≤ n6 ∧ n6 ≤ 1499 from by (first | omega | (simp only [st_s] <;> omega) | assumption | omega | fail))
          refine ⟨(⟨by (first | omega | (simp only [st_s] <;> omega) | assumption | omega | fail), by (first | omega | (simp only [st_s] <;> omega) | assumption | omega | fail)⟩ : rg (u10_67 + 1)), ?_⟩
          exact ih_67 _ _ _ (show (61 - (u10_67 + 1) : Int) < ((m_67 : Nat) : Int) from by ((first | omega | (simp only [st_s] <;> omega) | assumption | omega | fail))) hT (show τ_67.1 50 = σ.1 50 from by first | exact W50 | omega) (show τ_67.1 53 = σ.1 53 from by first | exact W53 | omega) (show (σ.1 53) + 1 ≤ (u10_67 + 1) from by (first | omega | (simp only [st_s] <;> omega) | assumption | omega | fail)) (show (u10_67 + 1) ≤ (σ.1 50) + 1 from by (first | omega | (simp only [st_s] <;> omega) | assumption | omega | fail)) (show u8_67 = n2 &&& (σ.2.2 4 ((n1 * 60) + (σ.1 53)) ^^^ (-1)) from by (first | assumption | (rw [e_x2]) | fail)) (show τ_67.2.2 4 = st (σ.2.2 4) ((n1 * 60) + (σ.1 53)) (σ.2.2 4 ((n1 * 60) + (σ.1 53)) ||| n2) from by (first | exact i67_4 | (rw [e_x5]) | fail)) (show τ_67.2.2 5 = st (σ.2.2 5) ((n1 * 60) + (σ.1 53)) (σ.2.2 5 ((n1 * 60) + (σ.1 53)) ||| (n4 ||| (n2 &&& σ.2.2 4 ((n1 * 60) + (σ.1 53))))) from by (first | exact i67_5 | (rw [e_x3, e_x4]) | fail)) (show ∀ s i e : Int, 0 ≤ i → i < e → e ≤ 59 → (¬ (s = n1 ∧ i = (σ.1 53) ∧ e < (u10_67 + 1) ∧ j_b n2 e ∧ ¬ j_b (σ.2.2 4 ((n1 * 60) + (σ.1 53))) e) → g_mb ((st (τ_67.2.1 79) (((n1 * 1770) + x11) + τ_67.1 53) n6)) s i e = g_mb (σ.2.1 79) s i e) ∧ ((s = n1 ∧ i = (σ.1 53) ∧ e < (u10_67 + 1) ∧ j_b n2 e ∧ ¬ j_b (σ.2.2 4 ((n1 * 60) + (σ.1 53))) e) → g_mb ((st (τ_67.2.1 79) (((n1 * 1770) + x11) + τ_67.1 53) n6)) s i e = n6) from by (intro s i e e0 e1 e2; first | (refine ⟨fun _ => rfl, fun q => ?_⟩; exfalso; omega) | (have w := i67_6 s i e e0 e1 e2; have bf := (j_b_f (x := u8_67) (k := u10_67) (by omega) (by omega)).mp (by assumption); rw [i67_3, j_b_and, j_b_not _ (by omega) (by omega)] at bf; refine ⟨fun q => w.1 (fun y => q ⟨y.1, y.2.1, by omega, y.2.2.2⟩), fun q => ?_⟩; by_cases z : e = u10_67; exact absurd (by rw [← z]; exact q.2.2.2) bf; exact w.2 ⟨q.1, q.2.1, by omega, q.2.2.2⟩) | (have w := i67_6 s i e e0 e1 e2; have v := g_mb_st (f := τ_67.2.1 79) (s := s) (i := i) (e := e) (s2 := n1) (i2 := τ_67.1 53) (e2 := u10_67) (x := n6) e0 e1 e2 (by omega) (by omega) (by omega); rw [← h1_x11 mm.1] at v; rcases v with ⟨v1, v2, v3, v4⟩ | ⟨v1, v2⟩; exact ⟨fun q => absurd ⟨v1, by omega, by omega, by rw [v3]; exact bt⟩ q, fun _ => v4⟩; (refine ⟨fun q => v2.trans (w.1 (fun y => q ⟨y.1, y.2.1, by omega, y.2.2.2⟩)), fun q => v2.trans (w.2 ⟨q.1, q.2.1, by rcases (by omega : e < u10_67 ∨ e = u10_67) with y | y; exact y; exact absurd ⟨q.1, by omega, y⟩ v1, q.2.2.2⟩)⟩))))
  refine ⟨(show 0 ≤ ((n1 * 60) + σ.1 53) ∧ ((n1 * 60) + σ.1 53) < 6000 from by (first | omega | (simp only [st_s] <;> omega) | assumption | omega | fail)), ?_⟩
  intro x2 e_x2
  intro x3 e_x3
  intro x4 e_x4
  replace hT := cT_b (k := 5) (j := ((n1 * 60) + σ.1 53)) (x := (x3 ||| (n4 ||| (n2 &&& x4)))) hT
  intro x5 e_x5
  replace hT := cT_b (k := 4) (j := ((n1 * 60) + σ.1 53)) (x := (x5 ||| n2)) hT
  refine ⟨(⟨by (first | omega | (simp only [st_s] <;> omega) | assumption | omega | fail), by (first | omega | (simp only [st_s] <;> omega) | assumption | omega | fail)⟩ : rg (σ.1 53 + 1)), ?_⟩
  exact l_67 ((61 - (σ.1 53 + 1) : Int).toNat + 1) _ _ _ (show (61 - (σ.1 53 + 1) : Int) < (((61 - (σ.1 53 + 1) : Int).toNat + 1 : Nat) : Int) from by ((first | omega | (simp only [st_s] <;> omega) | assumption | omega | fail))) hT (show σ.1 50 = σ.1 50 from by first | exact W50 | omega) (show σ.1 53 = σ.1 53 from by first | exact W53 | omega) (show (σ.1 53) + 1 ≤ (σ.1 53 + 1) from by (first | omega | (simp only [st_s] <;> omega) | assumption | omega | fail)) (show (σ.1 53 + 1) ≤ (σ.1 50) + 1 from by (first | omega | (simp only [st_s] <;> omega) | assumption | omega | fail)) (show (n2 &&& (x2 ^^^ (-1))) = n2 &&& (σ.2.2 4 ((n1 * 60) + (σ.1 53)) ^^^ (-1)) from by (first | assumption | (rw [e_x2]) | fail)) (show (st (σ.2.2 4) ((n1 * 60) + σ.1 53) (x5 ||| n2)) = st (σ.2.2 4) ((n1 * 60) + (σ.1 53)) (σ.2.2 4 ((n1 * 60) + (σ.1 53)) ||| n2) from by (first | exact i67_4 | (rw [e_x5]) | fail)) (show (st (σ.2.2 5) ((n1 * 60) + σ.1 53) (x3 ||| (n4 ||| (n2 &&& x4)))) = st (σ.2.2 5) ((n1 * 60) + (σ.1 53)) (σ.2.2 5 ((n1 * 60) + (σ.1 53)) ||| (n4 ||| (n2 &&& σ.2.2 4 ((n1 * 60) + (σ.1 53))))) from by (first | exact i67_5 | (rw [e_x3, e_x4]) | fail)) (show ∀ s i e : Int, 0 ≤ i → i < e → e ≤ 59 → (¬ (s = n1 ∧ i = (σ.1 53) ∧ e < (σ.1 53 + 1) ∧ j_b n2 e ∧ ¬ j_b (σ.2.2 4 ((n1 * 60) + (σ.1 53))) e) → g_mb (σ.2.1 79) s i e = g_mb (σ.2.1 79) s i e) ∧ ((s = n1 ∧ i = (σ.1 53) ∧ e < (σ.1 53 + 1) ∧ j_b n2 e ∧ ¬ j_b (σ.2.2 4 ((n1 * 60) + (σ.1 53))) e) → g_mb (σ.2.1 79) s i e = n6) from by (intro s i e e0 e1 e2; first | (refine ⟨fun _ => rfl, fun q => ?_⟩; exfalso; omega) | (have w := i67_6 s i e e0 e1 e2; have bf := (j_b_f (x := u8_67) (k := u10_67) (by omega) (by omega)).mp (by assumption); rw [i67_3, j_b_and, j_b_not _ (by omega) (by omega)] at bf; refine ⟨fun q => w.1 (fun y => q ⟨y.1, y.2.1, by omega, y.2.2.2⟩), fun q => ?_⟩; by_cases z : e = u10_67; exact absurd (by rw [← z]; exact q.2.2.2) bf; exact w.2 ⟨q.1, q.2.1, by omega, q.2.2.2⟩) | (have w := i67_6 s i e e0 e1 e2; have v := g_mb_st (f := τ_67.2.1 79) (s := s) (i := i) (e := e) (s2 := n1) (i2 := τ_67.1 53) (e2 := u10_67) (x := n6) e0 e1 e2 (by omega) (by omega) (by omega); rw [← h1_x11 mm.1] at v; rcases v with ⟨v1, v2, v3, v4⟩ | ⟨v1, v2⟩; exact ⟨fun q => absurd ⟨v1, by omega, by omega, by rw [v3]; exact bt⟩ q, fun _ => v4⟩; (refine ⟨fun q => v2.trans (w.1 (fun y => q ⟨y.1, y.2.1, by omega, y.2.2.2⟩)), fun q => v2.trans (w.2 ⟨q.1, q.2.1, by rcases (by omega : e < u10_67 ∨ e = u10_67) with y | y; exact y; exact absurd ⟨q.1, by omega, y⟩ v1, q.2.2.2⟩)⟩))))
