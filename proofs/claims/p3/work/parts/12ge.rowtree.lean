-- pure: the tree of a row that is given
theorem z_lf {σ τ : S0} {i lo hi : Int} (J : n_J σ) (hT : m_T σ) (hS : m_T τ) (i0 : 0 ≤ i) (i5 : i < σ.1 5) (h : y_TR σ τ i lo hi) {y : Int} (y0 : lo ≤ y) (y1 : y < hi) (n : τ.2.1 86 y < 0) : σ.2.1 16 (σ.2.1 14 (-1 - τ.2.1 86 y) + 1) < σ.1 3 := by
  obtain ⟨⟨p0, pq, ql⟩, t, t0, _, _, w⟩ := y_TR_n J hT hS i0 i5 h y0 y1
  rcases w with ⟨a1, a2, a3, _⟩ | ⟨a1, _⟩
  · obtain ⟨⟨b1, _⟩, _, a6⟩ := (J i i0 i5).1
    obtain ⟨w0, w⟩ := a6 (σ.2.1 14 i + 1 + τ.2.1 88 y) (by omega) (by omega)
    rw [a3, show -1 - (-1 - σ.2.1 17 (σ.2.1 14 i + 1 + τ.2.1 88 y)) = σ.2.1 17 (σ.2.1 14 i + 1 + τ.2.1 88 y) by omega]
    rcases w with w | ⟨_, w1, _, _, w4⟩
    · exfalso
      have l : 0 ≤ y_lf σ i (τ.2.1 88 y) := by rw [a2]; exact t0.1
      unfold y_lf at l
      rw [if_neg (fun z => z.1 w.2)] at l
      omega
    · rw [w4]; exact w0
  · have := a1.1.1; omega
/-- how far a row is laid out -/
def z_rL (σ τ : S0) (u : Int) : Prop := ∀ k : Int, 0 ≤ k → k < u → 0 ≤ τ.2.1 74 k ∧ (τ.2.1 73 k = -1 ∨ (0 ≤ τ.2.1 73 k ∧ ∃ t : Int, (0 ≤ t ∧ t < σ.1 3) ∧ τ.2.1 71 t = τ.2.1 73 k))
theorem z_rL_s {σ τ υ : S0} {u a b : Int} (h : z_rL σ τ u) (b0 : 0 ≤ b) (g : a = -1 ∨ (0 ≤ a ∧ ∃ t : Int, (0 ≤ t ∧ t < σ.1 3) ∧ τ.2.1 71 t = a)) (e71 : υ.2.1 71 = τ.2.1 71) (e73 : υ.2.1 73 = st (τ.2.1 73) u a) (e74 : υ.2.1 74 = st (τ.2.1 74) u b) : z_rL σ υ (u + 1) := fun k k0 k1 => by
  rw [e71, e73, e74]
  by_cases y : k = u
  · rw [y, st_s, st_s]; exact ⟨b0, g⟩
  · rw [st_n _ _ y, st_n _ _ y]; exact h k k0 (by omega)
set_option maxHeartbeats 8000000 in
theorem K_X13_rowTree {n1 : Int} {σ : S0} (hT : m_T σ) (p1 : 1 ≤ n1 ∧ n1 ≤ 60) (p2 : ∀ k : Int, 0 ≤ k → k < n1 → σ.2.1 103 k < (σ.1 3)) (p3 : z_ty σ) (p4 : ca (σ.2.1 12) ((σ.1 3)) ≤ (σ.1 4)) (p5 : n_J σ) (p6 : m_J σ) (p7 : (σ.1 10) < (σ.1 3)) (p8 : (σ.1 49) = 0 ∨ (y_TT σ σ (σ.1 5) (σ.1 5) ∧ y_Un σ (σ.1 5) (σ.1 48) (σ.2.1 84))) (p9 : (σ.1 51) ≤ 47000) (p10 : (σ.1 52) ≤ 88000) : W_X13_rowTree n1 σ (fun (x : Int) (τ : S0) => (m_T τ) ∧ ((σ.1 51) ≤ (τ.1 51) ∧ (τ.1 51) ≤ (σ.1 51) + 11700) ∧ ((σ.1 52) ≤ (τ.1 52) ∧ (τ.1 52) ≤ (σ.1 52) + 11700) ∧ (∀ y : Int, y < (σ.1 51) → (τ.2.1 86 y = σ.2.1 86 y ∧ τ.2.1 87 y = σ.2.1 87 y) ∧ τ.2.1 88 y = σ.2.1 88 y ∧ τ.2.1 89 y = σ.2.1 89 y ∧ τ.2.1 90 y = σ.2.1 90 y) ∧ (∀ e : Int, e < (σ.1 52) → τ.2.1 91 e = σ.2.1 91 e) ∧ (((τ.1 49) = 0 ∨ (y_TT τ τ (σ.1 5) (σ.1 5) ∧ y_Un τ (σ.1 5) (τ.1 48) (τ.2.1 84)))) ∧ (¬ x = -1 → x = (σ.1 51) ∧ (σ.1 51) < (τ.1 51)) ∧ (¬ x = -1 → ∃ wt : Int → Int, y_TW τ wt (σ.1 51) (τ.1 51)) ∧ (¬ x = -1 → ∀ y : Int, (σ.1 51) ≤ y → y < (τ.1 51) → 0 ≤ τ.2.1 88 y ∧ τ.2.1 88 y ≤ τ.2.1 89 y ∧ τ.2.1 89 y ≤ 59)) := by
  have A8 : ∀ j, 0 ≤ σ.2.1 8 j ∧ σ.2.1 8 j ≤ 1 := fun j => hT.2 8 j
  have A10 : ∀ j, (-1) ≤ σ.2.1 10 j ∧ σ.2.1 10 j ≤ 999 := fun j => hT.2 10 j
  have A12 : ∀ j, 0 ≤ σ.2.1 12 j ∧ σ.2.1 12 j ≤ 1 := fun j => hT.2 12 j
  have A13 : ∀ j, 0 ≤ σ.2.1 13 j ∧ σ.2.1 13 j ≤ 4 := fun j => hT.2 13 j
  have A14 : ∀ j, 0 ≤ σ.2.1 14 j ∧ σ.2.1 14 j ≤ 30000 := fun j => hT.2 14 j
  have A15 : ∀ j, 0 ≤ σ.2.1 15 j ∧ σ.2.1 15 j ≤ 300 := fun j => hT.2 15 j
  have A16 : ∀ j, 0 ≤ σ.2.1 16 j ∧ σ.2.1 16 j ≤ 999 := fun j => hT.2 16 j
  have A17 : ∀ j, (-1) ≤ σ.2.1 17 j ∧ σ.2.1 17 j ≤ 1499 := fun j => hT.2 17 j
  have A18 : ∀ j, 0 ≤ σ.2.1 18 j ∧ σ.2.1 18 j ≤ 90000 := fun j => hT.2 18 j
  have A19 : ∀ j, 0 ≤ σ.2.1 19 j ∧ σ.2.1 19 j ≤ 60 := fun j => hT.2 19 j
  have A20 : ∀ j, 0 ≤ σ.2.1 20 j ∧ σ.2.1 20 j ≤ 1499 := fun j => hT.2 20 j
  have A71 : ∀ j, (-1) ≤ σ.2.1 71 j ∧ σ.2.1 71 j ≤ 99 := fun j => hT.2 71 j
  have A72 : ∀ j, 0 ≤ σ.2.1 72 j ∧ σ.2.1 72 j ≤ 999 := fun j => hT.2 72 j
  have A73 : ∀ j, (-1) ≤ σ.2.1 73 j ∧ σ.2.1 73 j ≤ 99 := fun j => hT.2 73 j
  have A74 : ∀ j, (-1) ≤ σ.2.1 74 j ∧ σ.2.1 74 j ≤ 1499 := fun j => hT.2 74 j
  have A75 : ∀ j, 0 ≤ σ.2.1 75 j ∧ σ.2.1 75 j ≤ 3 := fun j => hT.2 75 j
  have A76 : ∀ j, (-1) ≤ σ.2.1 76 j ∧ σ.2.1 76 j ≤ 1499 := fun j => hT.2 76 j
  have A86 : ∀ j, (-1500) ≤ σ.2.1 86 j ∧ σ.2.1 86 j ≤ 1499 := fun j => hT.2 86 j
  have A87 : ∀ j, 0 ≤ σ.2.1 87 j ∧ σ.2.1 87 j ≤ 120000 := fun j => hT.2 87 j
  have A88 : ∀ j, 0 ≤ σ.2.1 88 j ∧ σ.2.1 88 j ≤ 59 := fun j => hT.2 88 j
  have A89 : ∀ j, 0 ≤ σ.2.1 89 j ∧ σ.2.1 89 j ≤ 59 := fun j => hT.2 89 j
  have A90 : ∀ j, (-1) ≤ σ.2.1 90 j ∧ σ.2.1 90 j ≤ 99 := fun j => hT.2 90 j
  have A91 : ∀ j, 0 ≤ σ.2.1 91 j ∧ σ.2.1 91 j ≤ 60000 := fun j => hT.2 91 j
  have A103 : ∀ j, 0 ≤ σ.2.1 103 j ∧ σ.2.1 103 j ≤ 999 := fun j => hT.2 103 j
  have v3 : 0 ≤ σ.1 3 ∧ σ.1 3 ≤ 1000 := hT.1 3
  have v4 : 0 ≤ σ.1 4 ∧ σ.1 4 ≤ 100 := hT.1 4
  have v5 : 0 ≤ σ.1 5 ∧ σ.1 5 ≤ 1500 := hT.1 5
  have v10 : (-1) ≤ σ.1 10 ∧ σ.1 10 ≤ 999 := hT.1 10
  have v11 : (-1) ≤ σ.1 11 ∧ σ.1 11 ≤ 999 := hT.1 11
  have v45 : 0 ≤ σ.1 45 ∧ σ.1 45 ≤ 59 := hT.1 45
  have v46 : 0 ≤ σ.1 46 ∧ σ.1 46 ≤ 100 := hT.1 46
  have v48 : 0 ≤ σ.1 48 ∧ σ.1 48 ≤ 1500 := hT.1 48
  have v49 : 0 ≤ σ.1 49 ∧ σ.1 49 ≤ 1 := hT.1 49
  have v50 : 0 ≤ σ.1 50 ∧ σ.1 50 ≤ 1500 := hT.1 50
  have v51 : 0 ≤ σ.1 51 ∧ σ.1 51 ≤ 60000 := hT.1 51
  have v52 : 0 ≤ σ.1 52 ∧ σ.1 52 ≤ 120000 := hT.1 52
  have W3 : σ.1 3 = σ.1 3 := rfl
  have W4 : σ.1 4 = σ.1 4 := rfl
  have W5 : σ.1 5 = σ.1 5 := rfl
  have W10 : σ.1 10 = σ.1 10 := rfl
  have W11 : σ.1 11 = σ.1 11 := rfl
  have G8 : σ.2.1 8 = σ.2.1 8 := rfl
  have G10 : σ.2.1 10 = σ.2.1 10 := rfl
  have G12 : σ.2.1 12 = σ.2.1 12 := rfl
  have G13 : σ.2.1 13 = σ.2.1 13 := rfl
  have G14 : σ.2.1 14 = σ.2.1 14 := rfl
  have G15 : σ.2.1 15 = σ.2.1 15 := rfl
  have G16 : σ.2.1 16 = σ.2.1 16 := rfl
  have G17 : σ.2.1 17 = σ.2.1 17 := rfl
  have G18 : σ.2.1 18 = σ.2.1 18 := rfl
  have G19 : σ.2.1 19 = σ.2.1 19 := rfl
  have G20 : σ.2.1 20 = σ.2.1 20 := rfl
  have G103 : σ.2.1 103 = σ.2.1 103 := rfl
  intro P13 P76 h13 h76
  have hTσ := hT
  have l3 : σ.1 3 ≤ 1000 := (hT.1 3).2
  have Y20 : ca (σ.2.1 12) ((σ.1 3)) ≤ (σ.1 4) := p4
  have Y20_0 := Y20
  have l_13 : ∀ (m_13 : Nat) (u2_13 : Int) (τ_13 : S0), 61 - u2_13 < (m_13 : Int) → (m_T τ_13) → (τ_13.1 3 = σ.1 3) → (τ_13.1 4 = σ.1 4) → (τ_13.1 5 = σ.1 5) → (τ_13.1 10 = σ.1 10) → (τ_13.1 11 = σ.1 11) → (τ_13.2.1 8 = σ.2.1 8) → (τ_13.2.1 10 = σ.2.1 10) → (τ_13.2.1 12 = σ.2.1 12) → (τ_13.2.1 13 = σ.2.1 13) → (τ_13.2.1 14 = σ.2.1 14) → (τ_13.2.1 15 = σ.2.1 15) → (τ_13.2.1 16 = σ.2.1 16) → (τ_13.2.1 17 = σ.2.1 17) → (τ_13.2.1 18 = σ.2.1 18) → (τ_13.2.1 19 = σ.2.1 19) → (τ_13.2.1 20 = σ.2.1 20) → (τ_13.2.1 103 = σ.2.1 103) → (y_so (σ.1 3) (σ.1 11) (τ_13.1 46) (σ.2.1 12) (σ.2.1 8) (τ_13.2.1 71)) → (0 ≤ u2_13 ∧ u2_13 ≤ n1 - 1) → ((τ_13.1 45) = n1 - 1) → (n_J τ_13) → (m_J τ_13) → ((τ_13.1 49) = 0 ∨ (y_TT τ_13 τ_13 (σ.1 5) (σ.1 5) ∧ y_Un τ_13 (σ.1 5) (τ_13.1 48) (τ_13.2.1 84))) → (f_r [45, 46] [71, 72, 73, 74] [] σ τ_13) → (z_rL σ τ_13 u2_13) → P13 u2_13 τ_13 := by
    intro m_13
    induction m_13 with
    | zero =>
      intro u2_13 τ_13 hm hT W3 W4 W5 W10 W11 G8 G10 G12 G13 G14 G15 G16 G17 G18 G19 G20 G103 i13_1 i13_2 i13_3 i13_4 i13_5 i13_6 i13_7 i13_8
      have A8 : ∀ j, 0 ≤ τ_13.2.1 8 j ∧ τ_13.2.1 8 j ≤ 1 := fun j => hT.2 8 j
      have A10 : ∀ j, (-1) ≤ τ_13.2.1 10 j ∧ τ_13.2.1 10 j ≤ 999 := fun j => hT.2 10 j
      have A12 : ∀ j, 0 ≤ τ_13.2.1 12 j ∧ τ_13.2.1 12 j ≤ 1 := fun j => hT.2 12 j
      have A13 : ∀ j, 0 ≤ τ_13.2.1 13 j ∧ τ_13.2.1 13 j ≤ 4 := fun j => hT.2 13 j
      have A14 : ∀ j, 0 ≤ τ_13.2.1 14 j ∧ τ_13.2.1 14 j ≤ 30000 := fun j => hT.2 14 j
      have A15 : ∀ j, 0 ≤ τ_13.2.1 15 j ∧ τ_13.2.1 15 j ≤ 300 := fun j => hT.2 15 j
      have A16 : ∀ j, 0 ≤ τ_13.2.1 16 j ∧ τ_13.2.1 16 j ≤ 999 := fun j => hT.2 16 j
      have A17 : ∀ j, (-1) ≤ τ_13.2.1 17 j ∧ τ_13.2.1 17 j ≤ 1499 := fun j => hT.2 17 j
      have A18 : ∀ j, 0 ≤ τ_13.2.1 18 j ∧ τ_13.2.1 18 j ≤ 90000 := fun j => hT.2 18 j
      have A19 : ∀ j, 0 ≤ τ_13.2.1 19 j ∧ τ_13.2.1 19 j ≤ 60 := fun j => hT.2 19 j
      have A20 : ∀ j, 0 ≤ τ_13.2.1 20 j ∧ τ_13.2.1 20 j ≤ 1499 := fun j => hT.2 20 j
      have A71 : ∀ j, (-1) ≤ τ_13.2.1 71 j ∧ τ_13.2.1 71 j ≤ 99 := fun j => hT.2 71 j
      have A72 : ∀ j, 0 ≤ τ_13.2.1 72 j ∧ τ_13.2.1 72 j ≤ 999 := fun j => hT.2 72 j
      have A73 : ∀ j, (-1) ≤ τ_13.2.1 73 j ∧ τ_13.2.1 73 j ≤ 99 := fun j => hT.2 73 j
      have A74 : ∀ j, (-1) ≤ τ_13.2.1 74 j ∧ τ_13.2.1 74 j ≤ 1499 := fun j => hT.2 74 j
      have A75 : ∀ j, 0 ≤ τ_13.2.1 75 j ∧ τ_13.2.1 75 j ≤ 3 := fun j => hT.2 75 j
      have A76 : ∀ j, (-1) ≤ τ_13.2.1 76 j ∧ τ_13.2.1 76 j ≤ 1499 := fun j => hT.2 76 j
      have A86 : ∀ j, (-1500) ≤ τ_13.2.1 86 j ∧ τ_13.2.1 86 j ≤ 1499 := fun j => hT.2 86 j
      have A87 : ∀ j, 0 ≤ τ_13.2.1 87 j ∧ τ_13.2.1 87 j ≤ 120000 := fun j => hT.2 87 j
      have A88 : ∀ j, 0 ≤ τ_13.2.1 88 j ∧ τ_13.2.1 88 j ≤ 59 := fun j => hT.2 88 j
      have A89 : ∀ j, 0 ≤ τ_13.2.1 89 j ∧ τ_13.2.1 89 j ≤ 59 := fun j => hT.2 89 j
      have A90 : ∀ j, (-1) ≤ τ_13.2.1 90 j ∧ τ_13.2.1 90 j ≤ 99 := fun j => hT.2 90 j
      have A91 : ∀ j, 0 ≤ τ_13.2.1 91 j ∧ τ_13.2.1 91 j ≤ 60000 := fun j => hT.2 91 j
      have A103 : ∀ j, 0 ≤ τ_13.2.1 103 j ∧ τ_13.2.1 103 j ≤ 999 := fun j => hT.2 103 j
      have v3 : 0 ≤ τ_13.1 3 ∧ τ_13.1 3 ≤ 1000 := hT.1 3
      have v4 : 0 ≤ τ_13.1 4 ∧ τ_13.1 4 ≤ 100 := hT.1 4
      have v5 : 0 ≤ τ_13.1 5 ∧ τ_13.1 5 ≤ 1500 := hT.1 5
      have v10 : (-1) ≤ τ_13.1 10 ∧ τ_13.1 10 ≤ 999 := hT.1 10
      have v11 : (-1) ≤ τ_13.1 11 ∧ τ_13.1 11 ≤ 999 := hT.1 11
      have v45 : 0 ≤ τ_13.1 45 ∧ τ_13.1 45 ≤ 59 := hT.1 45
      have v46 : 0 ≤ τ_13.1 46 ∧ τ_13.1 46 ≤ 100 := hT.1 46
      have v48 : 0 ≤ τ_13.1 48 ∧ τ_13.1 48 ≤ 1500 := hT.1 48
      have v49 : 0 ≤ τ_13.1 49 ∧ τ_13.1 49 ≤ 1 := hT.1 49
      have v50 : 0 ≤ τ_13.1 50 ∧ τ_13.1 50 ≤ 1500 := hT.1 50
      have v51 : 0 ≤ τ_13.1 51 ∧ τ_13.1 51 ≤ 60000 := hT.1 51
      have v52 : 0 ≤ τ_13.1 52 ∧ τ_13.1 52 ≤ 120000 := hT.1 52
      exfalso; (first | omega | (simp only [st_s] <;> omega) | assumption | omega | fail)
    | succ m_13 ih_13 =>
      intro u2_13 τ_13 hm_13 hT W3 W4 W5 W10 W11 G8 G10 G12 G13 G14 G15 G16 G17 G18 G19 G20 G103 i13_1 i13_2 i13_3 i13_4 i13_5 i13_6 i13_7 i13_8
      have A8 : ∀ j, 0 ≤ τ_13.2.1 8 j ∧ τ_13.2.1 8 j ≤ 1 := fun j => hT.2 8 j
      have A10 : ∀ j, (-1) ≤ τ_13.2.1 10 j ∧ τ_13.2.1 10 j ≤ 999 := fun j => hT.2 10 j
      have A12 : ∀ j, 0 ≤ τ_13.2.1 12 j ∧ τ_13.2.1 12 j ≤ 1 := fun j => hT.2 12 j
      have A13 : ∀ j, 0 ≤ τ_13.2.1 13 j ∧ τ_13.2.1 13 j ≤ 4 := fun j => hT.2 13 j
      have A14 : ∀ j, 0 ≤ τ_13.2.1 14 j ∧ τ_13.2.1 14 j ≤ 30000 := fun j => hT.2 14 j
      have A15 : ∀ j, 0 ≤ τ_13.2.1 15 j ∧ τ_13.2.1 15 j ≤ 300 := fun j => hT.2 15 j
      have A16 : ∀ j, 0 ≤ τ_13.2.1 16 j ∧ τ_13.2.1 16 j ≤ 999 := fun j => hT.2 16 j
      have A17 : ∀ j, (-1) ≤ τ_13.2.1 17 j ∧ τ_13.2.1 17 j ≤ 1499 := fun j => hT.2 17 j
      have A18 : ∀ j, 0 ≤ τ_13.2.1 18 j ∧ τ_13.2.1 18 j ≤ 90000 := fun j => hT.2 18 j
      have A19 : ∀ j, 0 ≤ τ_13.2.1 19 j ∧ τ_13.2.1 19 j ≤ 60 := fun j => hT.2 19 j
      have A20 : ∀ j, 0 ≤ τ_13.2.1 20 j ∧ τ_13.2.1 20 j ≤ 1499 := fun j => hT.2 20 j
      have A71 : ∀ j, (-1) ≤ τ_13.2.1 71 j ∧ τ_13.2.1 71 j ≤ 99 := fun j => hT.2 71 j
      have A72 : ∀ j, 0 ≤ τ_13.2.1 72 j ∧ τ_13.2.1 72 j ≤ 999 := fun j => hT.2 72 j
      have A73 : ∀ j, (-1) ≤ τ_13.2.1 73 j ∧ τ_13.2.1 73 j ≤ 99 := fun j => hT.2 73 j
      have A74 : ∀ j, (-1) ≤ τ_13.2.1 74 j ∧ τ_13.2.1 74 j ≤ 1499 := fun j => hT.2 74 j
      have A75 : ∀ j, 0 ≤ τ_13.2.1 75 j ∧ τ_13.2.1 75 j ≤ 3 := fun j => hT.2 75 j
      have A76 : ∀ j, (-1) ≤ τ_13.2.1 76 j ∧ τ_13.2.1 76 j ≤ 1499 := fun j => hT.2 76 j
      have A86 : ∀ j, (-1500) ≤ τ_13.2.1 86 j ∧ τ_13.2.1 86 j ≤ 1499 := fun j => hT.2 86 j
      have A87 : ∀ j, 0 ≤ τ_13.2.1 87 j ∧ τ_13.2.1 87 j ≤ 120000 := fun j => hT.2 87 j
      have A88 : ∀ j, 0 ≤ τ_13.2.1 88 j ∧ τ_13.2.1 88 j ≤ 59 := fun j => hT.2 88 j
      have A89 : ∀ j, 0 ≤ τ_13.2.1 89 j ∧ τ_13.2.1 89 j ≤ 59 := fun j => hT.2 89 j
      have A90 : ∀ j, (-1) ≤ τ_13.2.1 90 j ∧ τ_13.2.1 90 j ≤ 99 := fun j => hT.2 90 j
      have A91 : ∀ j, 0 ≤ τ_13.2.1 91 j ∧ τ_13.2.1 91 j ≤ 60000 := fun j => hT.2 91 j
      have A103 : ∀ j, 0 ≤ τ_13.2.1 103 j ∧ τ_13.2.1 103 j ≤ 999 := fun j => hT.2 103 j
      have v3 : 0 ≤ τ_13.1 3 ∧ τ_13.1 3 ≤ 1000 := hT.1 3
      have v4 : 0 ≤ τ_13.1 4 ∧ τ_13.1 4 ≤ 100 := hT.1 4
      have v5 : 0 ≤ τ_13.1 5 ∧ τ_13.1 5 ≤ 1500 := hT.1 5
      have v10 : (-1) ≤ τ_13.1 10 ∧ τ_13.1 10 ≤ 999 := hT.1 10
      have v11 : (-1) ≤ τ_13.1 11 ∧ τ_13.1 11 ≤ 999 := hT.1 11
      have v45 : 0 ≤ τ_13.1 45 ∧ τ_13.1 45 ≤ 59 := hT.1 45
      have v46 : 0 ≤ τ_13.1 46 ∧ τ_13.1 46 ≤ 100 := hT.1 46
      have v48 : 0 ≤ τ_13.1 48 ∧ τ_13.1 48 ≤ 1500 := hT.1 48
      have v49 : 0 ≤ τ_13.1 49 ∧ τ_13.1 49 ≤ 1 := hT.1 49
      have v50 : 0 ≤ τ_13.1 50 ∧ τ_13.1 50 ≤ 1500 := hT.1 50
      have v51 : 0 ≤ τ_13.1 51 ∧ τ_13.1 51 ≤ 60000 := hT.1 51
      have v52 : 0 ≤ τ_13.1 52 ∧ τ_13.1 52 ≤ 120000 := hT.1 52
      have Y20 : ca (τ_13.2.1 12) ((τ_13.1 3)) ≤ (τ_13.1 4) := by rw [show (ca (τ_13.2.1 12) ((τ_13.1 3)) ≤ (τ_13.1 4)) = (ca (σ.2.1 12) ((σ.1 3)) ≤ (σ.1 4)) from by rw [W3, W4, G12]]; exact Y20_0
      have e51x : τ_13.1 51 = σ.1 51 := i13_7.1 51 (by decide)
      have e52x : τ_13.1 52 = σ.1 52 := i13_7.1 52 (by decide)
      have l_76 : ∀ (u2_76 : Int) (u3_76 : Int) (k1_76 : Int) (k2_76 : Int) (τ_76 : S0), (m_T τ_76) → (τ_76.1 3 = σ.1 3) → (τ_76.1 4 = σ.1 4) → (τ_76.1 5 = σ.1 5) → (τ_76.1 10 = σ.1 10) → (τ_76.1 11 = σ.1 11) → (τ_76.2.1 8 = σ.2.1 8) → (τ_76.2.1 10 = σ.2.1 10) → (τ_76.2.1 12 = σ.2.1 12) → (τ_76.2.1 13 = σ.2.1 13) → (τ_76.2.1 14 = σ.2.1 14) → (τ_76.2.1 15 = σ.2.1 15) → (τ_76.2.1 16 = σ.2.1 16) → (τ_76.2.1 17 = σ.2.1 17) → (τ_76.2.1 18 = σ.2.1 18) → (τ_76.2.1 19 = σ.2.1 19) → (τ_76.2.1 20 = σ.2.1 20) → (τ_76.2.1 103 = σ.2.1 103) → (y_so (σ.1 3) (σ.1 11) (τ_76.1 46) (σ.2.1 12) (σ.2.1 8) (τ_76.2.1 71)) → (0 ≤ u2_76 ∧ u2_76 ≤ n1 - 1) → ((τ_76.1 45) = n1 - 1) → (n_J τ_76) → (m_J τ_76) → ((τ_76.1 49) = 0 ∨ (y_TT τ_76 τ_76 (σ.1 5) (σ.1 5) ∧ y_Un τ_76 (σ.1 5) (τ_76.1 48) (τ_76.2.1 84))) → (f_r [45, 46] [71, 72, 73, 74] [] σ τ_76) → (z_rL σ τ_76 u2_76) → (u2_76 < n1 - 1) → (0 ≤ u3_76 ∧ u3_76 < 1000) → (k1_76 = u2_76) → (k2_76 = -1 ∨ (0 ≤ k2_76 ∧ ∃ t : Int, (0 ≤ t ∧ t < (σ.1 3)) ∧ τ_76.2.1 71 t = k2_76)) → (-1 ≤ k2_76 ∧ k2_76 ≤ 99) → (61 - u2_76 < (m_13 : Int) + 1) → P76 u2_76 u3_76 k1_76 k2_76 τ_76 := by
        intro u2_76 u3_76 k1_76 k2_76 τ_76 hT W3 W4 W5 W10 W11 G8 G10 G12 G13 G14 G15 G16 G17 G18 G19 G20 G103 i76_1 i76_2 i76_3 i76_4 i76_5 i76_6 i76_7 i76_8 i76_9 i76_10 i76_11 i76_12 i76_13 i76_14
        have A8 : ∀ j, 0 ≤ τ_76.2.1 8 j ∧ τ_76.2.1 8 j ≤ 1 := fun j => hT.2 8 j
        have A10 : ∀ j, (-1) ≤ τ_76.2.1 10 j ∧ τ_76.2.1 10 j ≤ 999 := fun j => hT.2 10 j
        have A12 : ∀ j, 0 ≤ τ_76.2.1 12 j ∧ τ_76.2.1 12 j ≤ 1 := fun j => hT.2 12 j
        have A13 : ∀ j, 0 ≤ τ_76.2.1 13 j ∧ τ_76.2.1 13 j ≤ 4 := fun j => hT.2 13 j
        have A14 : ∀ j, 0 ≤ τ_76.2.1 14 j ∧ τ_76.2.1 14 j ≤ 30000 := fun j => hT.2 14 j
        have A15 : ∀ j, 0 ≤ τ_76.2.1 15 j ∧ τ_76.2.1 15 j ≤ 300 := fun j => hT.2 15 j
        have A16 : ∀ j, 0 ≤ τ_76.2.1 16 j ∧ τ_76.2.1 16 j ≤ 999 := fun j => hT.2 16 j
        have A17 : ∀ j, (-1) ≤ τ_76.2.1 17 j ∧ τ_76.2.1 17 j ≤ 1499 := fun j => hT.2 17 j
        have A18 : ∀ j, 0 ≤ τ_76.2.1 18 j ∧ τ_76.2.1 18 j ≤ 90000 := fun j => hT.2 18 j
        have A19 : ∀ j, 0 ≤ τ_76.2.1 19 j ∧ τ_76.2.1 19 j ≤ 60 := fun j => hT.2 19 j
        have A20 : ∀ j, 0 ≤ τ_76.2.1 20 j ∧ τ_76.2.1 20 j ≤ 1499 := fun j => hT.2 20 j
        have A71 : ∀ j, (-1) ≤ τ_76.2.1 71 j ∧ τ_76.2.1 71 j ≤ 99 := fun j => hT.2 71 j
        have A72 : ∀ j, 0 ≤ τ_76.2.1 72 j ∧ τ_76.2.1 72 j ≤ 999 := fun j => hT.2 72 j
        have A73 : ∀ j, (-1) ≤ τ_76.2.1 73 j ∧ τ_76.2.1 73 j ≤ 99 := fun j => hT.2 73 j
        have A74 : ∀ j, (-1) ≤ τ_76.2.1 74 j ∧ τ_76.2.1 74 j ≤ 1499 := fun j => hT.2 74 j
        have A75 : ∀ j, 0 ≤ τ_76.2.1 75 j ∧ τ_76.2.1 75 j ≤ 3 := fun j => hT.2 75 j
        have A76 : ∀ j, (-1) ≤ τ_76.2.1 76 j ∧ τ_76.2.1 76 j ≤ 1499 := fun j => hT.2 76 j
        have A86 : ∀ j, (-1500) ≤ τ_76.2.1 86 j ∧ τ_76.2.1 86 j ≤ 1499 := fun j => hT.2 86 j
        have A87 : ∀ j, 0 ≤ τ_76.2.1 87 j ∧ τ_76.2.1 87 j ≤ 120000 := fun j => hT.2 87 j
        have A88 : ∀ j, 0 ≤ τ_76.2.1 88 j ∧ τ_76.2.1 88 j ≤ 59 := fun j => hT.2 88 j
        have A89 : ∀ j, 0 ≤ τ_76.2.1 89 j ∧ τ_76.2.1 89 j ≤ 59 := fun j => hT.2 89 j
        have A90 : ∀ j, (-1) ≤ τ_76.2.1 90 j ∧ τ_76.2.1 90 j ≤ 99 := fun j => hT.2 90 j
        have A91 : ∀ j, 0 ≤ τ_76.2.1 91 j ∧ τ_76.2.1 91 j ≤ 60000 := fun j => hT.2 91 j
        have A103 : ∀ j, 0 ≤ τ_76.2.1 103 j ∧ τ_76.2.1 103 j ≤ 999 := fun j => hT.2 103 j
        have v3 : 0 ≤ τ_76.1 3 ∧ τ_76.1 3 ≤ 1000 := hT.1 3
        have v4 : 0 ≤ τ_76.1 4 ∧ τ_76.1 4 ≤ 100 := hT.1 4
        have v5 : 0 ≤ τ_76.1 5 ∧ τ_76.1 5 ≤ 1500 := hT.1 5
        have v10 : (-1) ≤ τ_76.1 10 ∧ τ_76.1 10 ≤ 999 := hT.1 10
        have v11 : (-1) ≤ τ_76.1 11 ∧ τ_76.1 11 ≤ 999 := hT.1 11
        have v45 : 0 ≤ τ_76.1 45 ∧ τ_76.1 45 ≤ 59 := hT.1 45
        have v46 : 0 ≤ τ_76.1 46 ∧ τ_76.1 46 ≤ 100 := hT.1 46
        have v48 : 0 ≤ τ_76.1 48 ∧ τ_76.1 48 ≤ 1500 := hT.1 48
        have v49 : 0 ≤ τ_76.1 49 ∧ τ_76.1 49 ≤ 1 := hT.1 49
        have v50 : 0 ≤ τ_76.1 50 ∧ τ_76.1 50 ≤ 1500 := hT.1 50
        have v51 : 0 ≤ τ_76.1 51 ∧ τ_76.1 51 ≤ 60000 := hT.1 51
        have v52 : 0 ≤ τ_76.1 52 ∧ τ_76.1 52 ≤ 120000 := hT.1 52
        have Y20 : ca (τ_76.2.1 12) ((τ_76.1 3)) ≤ (τ_76.1 4) := by rw [show (ca (τ_76.2.1 12) ((τ_76.1 3)) ≤ (τ_76.1 4)) = (ca (σ.2.1 12) ((σ.1 3)) ≤ (σ.1 4)) from by rw [W3, W4, G12]]; exact Y20_0
        refine h76 u2_76 u3_76 k1_76 k2_76 τ_76 ?_
        refine ⟨(show 0 ≤ k1_76 ∧ k1_76 < 64 from by (first | omega | (simp only [st_s] <;> omega) | assumption | omega | fail)), ?_⟩
        replace hT := mT_a (k := 73) (j := k1_76) hT (show (-1 : Int) ≤ k2_76 ∧ k2_76 ≤ 99 from by (first | omega | (simp only [st_s] <;> omega) | assumption | omega | fail))
        refine ⟨(show 0 ≤ u2_76 ∧ u2_76 < 64 from by (first | omega | (simp only [st_s] <;> omega) | assumption | omega | fail)), ?_⟩
        replace hT := mT_a (k := 74) (j := u2_76) hT (show (-1 : Int) ≤ u3_76 ∧ u3_76 ≤ 1499 from by (first | omega | (simp only [st_s] <;> omega) | assumption | omega | fail))
        refine ⟨(⟨by (first | omega | (simp only [st_s] <;> omega) | assumption | omega | fail), by (first | omega | (simp only [st_s] <;> omega) | assumption | omega | fail)⟩ : rg (u2_76 + 1)), ?_⟩
        exact ih_13 _ _ (show (61 - (u2_76 + 1) : Int) < ((m_13 : Nat) : Int) from by ((first | omega | (simp only [st_s] <;> omega) | assumption | omega | fail))) hT (show τ_76.1 3 = σ.1 3 from by first | exact W3 | omega) (show τ_76.1 4 = σ.1 4 from by first | exact W4 | omega) (show τ_76.1 5 = σ.1 5 from by first | exact W5 | omega) (show τ_76.1 10 = σ.1 10 from by first | exact W10 | omega) (show τ_76.1 11 = σ.1 11 from by first | exact W11 | omega) G8 G10 G12 G13 G14 G15 G16 G17 G18 G19 G20 G103 (show y_so (σ.1 3) (σ.1 11) (τ_76.1 46) (σ.2.1 12) (σ.2.1 8) (τ_76.2.1 71) from by (first | exact q1_1 | exact i76_1 | fail)) (show 0 ≤ (u2_76 + 1) ∧ (u2_76 + 1) ≤ n1 - 1 from by (first | omega | (simp only [st_s] <;> omega) | assumption | omega | fail)) (show (τ_76.1 45) = n1 - 1 from by (first | omega | (simp only [st_s] <;> omega) | assumption | omega | fail)) (show n_J (s_a (s_a τ_76 73 k1_76 k2_76) 74 u2_76 u3_76) from by (first | exact n_J_hh p5 hf1 rfl rfl | exact i76_4 | fail)) (show m_J (s_a (s_a τ_76 73 k1_76 k2_76) 74 u2_76 u3_76) from by (first | exact m_J_f p6 hf1 rfl rfl | exact i76_5 | fail)) (show (τ_76.1 49) = 0 ∨ (y_TT (s_a (s_a τ_76 73 k1_76 k2_76) 74 u2_76 u3_76) (s_a (s_a τ_76 73 k1_76 k2_76) 74 u2_76 u3_76) (σ.1 5) (σ.1 5) ∧ y_Un (s_a (s_a τ_76 73 k1_76 k2_76) 74 u2_76 u3_76) (σ.1 5) (τ_76.1 48) (τ_76.2.1 84)) from by (first | (have q9 := p8; rcases q9 with z | z; (exact Or.inl ((hf1.1 49 (by decide)).trans z)); (exact Or.inr (y_tr_h (y_SD_h hf1 rfl rfl) hf1 rfl rfl z))) | exact i76_6 | fail)) (show f_r [45, 46] [71, 72, 73, 74] [] σ (s_a (s_a τ_76 73 k1_76 k2_76) 74 u2_76 u3_76) from by (first | exact hf1 | exact f_a (f_a i76_7 (by simp)) (by simp) | fail)) (show z_rL σ (s_a (s_a τ_76 73 k1_76 k2_76) 74 u2_76 u3_76) (u2_76 + 1) from by (first | (intro k a b; exfalso; omega) | (rw [i76_11]; exact z_rL_s i76_8 i76_10.1 i76_12 rfl rfl rfl) | (have w := z_rL_s (υ := s_a (s_a τ_76 73 k1_76 k2_76) 74 u2_76 u3_76) i76_8 i76_10.1 i76_12 rfl (by rw [i76_11]; rfl) rfl; exact w) | fail))
      refine h13 u2_13 τ_13 ?_
      refine ⟨fun c5 => ?_, fun c5 => ?_⟩
      ·
        intro x6 r_x6 e_x6
        have b_x6 : 0 ≤ x6 ∧ x6 ≤ 999 := by rw [e_x6]; exact hT.2 103 _
        have b6 : 0 ≤ x6 ∧ x6 ≤ 999 := (by rw [e_x6]; exact hT.2 103 _)
        have l6 : x6 < σ.1 3 := (by rw [e_x6, G103]; exact p2 0 (Int.le_refl _) (by omega))
        refine ⟨_, K_X13_treeSort hT (show 0 ≤ x6 from by (first | omega | (simp only [st_s] <;> omega) | assumption | omega | fail)) (show x6 < 1001 from by (first | omega | (simp only [st_s] <;> omega) | assumption | omega | fail)), ?_⟩
        intro x8 r_x8 hq
        obtain ⟨q7_1, q7_2, q7_3, q7_4⟩ := hq
        replace q7_1 : -1 ≤ x8 ∧ x8 ≤ 99 := q7_1
        replace q7_2 : τ_13.2.1 8 x6 = 0 → ¬ x6 = (τ_13.1 11) → x8 = τ_13.2.1 71 x6 := q7_2
        replace q7_3 : x6 = (τ_13.1 11) → τ_13.2.1 8 x6 = 0 → 0 ≤ (τ_13.1 10) → τ_13.2.1 8 (τ_13.1 10) = 0 → x8 = τ_13.2.1 71 (τ_13.1 10) := q7_3
        replace q7_4 : 0 ≤ x8 → (¬ x6 = (τ_13.1 11) ∧ τ_13.2.1 8 x6 = 0 ∧ x8 = τ_13.2.1 71 x6) ∨ (x6 = (τ_13.1 11) ∧ τ_13.2.1 8 x6 = 0 ∧ 0 ≤ (τ_13.1 10) ∧ τ_13.2.1 8 (τ_13.1 10) = 0 ∧ x8 = τ_13.2.1 71 (τ_13.1 10)) := q7_4
        have hT13 := hT
        have W3k := W3
        refine ⟨_, K_X13_countWays hT (show -1 ≤ x8 ∧ x8 < (τ_13.1 46) from by (refine ⟨by omega, ?_⟩; by_cases z : x8 < 0; (have w := hT13.1 46; have w1 : 0 ≤ τ_13.1 46 := w.1; omega); (rcases q7_4 (by omega) with y | y; (have v := y_soS i13_1 x6 (by omega) l6 (by omega); omega); (have v := y_soS i13_1 (τ_13.1 10) y.2.2.1 (by omega) (by omega); omega)))) (show 0 ≤ (τ_13.1 5) ∧ (τ_13.1 5) ≤ (τ_13.1 5) from by (first | omega | (simp only [st_s] <;> omega) | assumption | omega | fail)) (show (τ_13.1 49) = 0 ∨ (y_TT τ_13 τ_13 (τ_13.1 5) (τ_13.1 5) ∧ y_Un τ_13 (τ_13.1 5) (τ_13.1 48) (τ_13.2.1 84)) from by (rw [W5]; exact i13_6)) (show y_so (τ_13.1 3) (τ_13.1 11) (τ_13.1 46) (τ_13.2.1 12) (τ_13.2.1 8) (τ_13.2.1 71) from by (rw [W3, W11, G12, G8]; exact i13_1)) (show ∀ k : Int, 0 ≤ k → k < (τ_13.1 45) → τ_13.2.1 73 k = -1 ∨ (0 ≤ τ_13.2.1 73 k ∧ ∃ t : Int, (0 ≤ t ∧ t < (τ_13.1 3)) ∧ τ_13.2.1 71 t = τ_13.2.1 73 k) from by (rw [W3]; intro k a b; exact (i13_8 k a (by omega)).2)) (show n_J τ_13 from by exact i13_4) (show m_J τ_13 from by exact i13_5), ?_⟩
        intro x11 τ12 r_x11 hn_τ12 hf_τ12 hq
        obtain ⟨hT, q10_1, q10_2, q10_3, q10_4, q10_5, q10_6⟩ := hq
        replace q10_1 : y_QD τ12 := q10_1
        replace q10_2 : ¬ (τ12.1 49) = 0 := q10_2
        replace q10_3 : (τ12.1 50) = (τ_13.1 5) := q10_3
        replace q10_4 : y_GD τ_13 (τ12.2.1 75) (τ12.2.1 76) (τ_13.1 5) (-1) (0) := q10_4
        replace q10_5 : x8 = -1 ∨ (τ_13.1 45) = 0 → x11 = 0 := q10_5
        replace q10_6 : 0 ≤ x8 → 0 < (τ_13.1 45) → x11 = τ12.2.1 75 ((x8 * 61 + 0) * 61 + (τ_13.1 45)) := q10_6
        have w3_τ12 : τ12.1 3 = τ_13.1 3 := hf_τ12.1 3 (by decide)
        have w4_τ12 : τ12.1 4 = τ_13.1 4 := hf_τ12.1 4 (by decide)
        have w5_τ12 : τ12.1 5 = τ_13.1 5 := hf_τ12.1 5 (by decide)
        have w10_τ12 : τ12.1 10 = τ_13.1 10 := hf_τ12.1 10 (by decide)
        have w11_τ12 : τ12.1 11 = τ_13.1 11 := hf_τ12.1 11 (by decide)
        have w45_τ12 : τ12.1 45 = τ_13.1 45 := hf_τ12.1 45 (by decide)
        have w46_τ12 : τ12.1 46 = τ_13.1 46 := hf_τ12.1 46 (by decide)
        have w51_τ12 : τ12.1 51 = τ_13.1 51 := hf_τ12.1 51 (by decide)
        have w52_τ12 : τ12.1 52 = τ_13.1 52 := hf_τ12.1 52 (by decide)
        have g8_τ12 : τ12.2.1 8 = τ_13.2.1 8 := hf_τ12.2.1 8 (by decide)
        have g10_τ12 : τ12.2.1 10 = τ_13.2.1 10 := hf_τ12.2.1 10 (by decide)
        have g12_τ12 : τ12.2.1 12 = τ_13.2.1 12 := hf_τ12.2.1 12 (by decide)
        have g13_τ12 : τ12.2.1 13 = τ_13.2.1 13 := hf_τ12.2.1 13 (by decide)
        have g14_τ12 : τ12.2.1 14 = τ_13.2.1 14 := hf_τ12.2.1 14 (by decide)
        have g15_τ12 : τ12.2.1 15 = τ_13.2.1 15 := hf_τ12.2.1 15 (by decide)
        have g16_τ12 : τ12.2.1 16 = τ_13.2.1 16 := hf_τ12.2.1 16 (by decide)
        have g17_τ12 : τ12.2.1 17 = τ_13.2.1 17 := hf_τ12.2.1 17 (by decide)
        have g18_τ12 : τ12.2.1 18 = τ_13.2.1 18 := hf_τ12.2.1 18 (by decide)
        have g19_τ12 : τ12.2.1 19 = τ_13.2.1 19 := hf_τ12.2.1 19 (by decide)
        have g20_τ12 : τ12.2.1 20 = τ_13.2.1 20 := hf_τ12.2.1 20 (by decide)
        have g71_τ12 : τ12.2.1 71 = τ_13.2.1 71 := hf_τ12.2.1 71 (by decide)
        have g72_τ12 : τ12.2.1 72 = τ_13.2.1 72 := hf_τ12.2.1 72 (by decide)
        have g73_τ12 : τ12.2.1 73 = τ_13.2.1 73 := hf_τ12.2.1 73 (by decide)
        have g74_τ12 : τ12.2.1 74 = τ_13.2.1 74 := hf_τ12.2.1 74 (by decide)
        have g86_τ12 : τ12.2.1 86 = τ_13.2.1 86 := hf_τ12.2.1 86 (by decide)
        have g87_τ12 : τ12.2.1 87 = τ_13.2.1 87 := hf_τ12.2.1 87 (by decide)
        have g88_τ12 : τ12.2.1 88 = τ_13.2.1 88 := hf_τ12.2.1 88 (by decide)
        have g89_τ12 : τ12.2.1 89 = τ_13.2.1 89 := hf_τ12.2.1 89 (by decide)
        have g90_τ12 : τ12.2.1 90 = τ_13.2.1 90 := hf_τ12.2.1 90 (by decide)
        have g91_τ12 : τ12.2.1 91 = τ_13.2.1 91 := hf_τ12.2.1 91 (by decide)
        have g103_τ12 : τ12.2.1 103 = τ_13.2.1 103 := hf_τ12.2.1 103 (by decide)
        have W3 : τ12.1 3 = σ.1 3 := by first | exact w3_τ12.trans W3 | omega
        have W4 : τ12.1 4 = σ.1 4 := by first | exact w4_τ12.trans W4 | omega
        have W5 : τ12.1 5 = σ.1 5 := by first | exact w5_τ12.trans W5 | omega
        have W10 : τ12.1 10 = σ.1 10 := by first | exact w10_τ12.trans W10 | omega
        have W11 : τ12.1 11 = σ.1 11 := by first | exact w11_τ12.trans W11 | omega
        have G8 : τ12.2.1 8 = σ.2.1 8 := (g8_τ12).trans G8
        have G10 : τ12.2.1 10 = σ.2.1 10 := (g10_τ12).trans G10
        have G12 : τ12.2.1 12 = σ.2.1 12 := (g12_τ12).trans G12
        have G13 : τ12.2.1 13 = σ.2.1 13 := (g13_τ12).trans G13
        have G14 : τ12.2.1 14 = σ.2.1 14 := (g14_τ12).trans G14
        have G15 : τ12.2.1 15 = σ.2.1 15 := (g15_τ12).trans G15
        have G16 : τ12.2.1 16 = σ.2.1 16 := (g16_τ12).trans G16
        have G17 : τ12.2.1 17 = σ.2.1 17 := (g17_τ12).trans G17
        have G18 : τ12.2.1 18 = σ.2.1 18 := (g18_τ12).trans G18
        have G19 : τ12.2.1 19 = σ.2.1 19 := (g19_τ12).trans G19
        have G20 : τ12.2.1 20 = σ.2.1 20 := (g20_τ12).trans G20
        have G103 : τ12.2.1 103 = σ.2.1 103 := (g103_τ12).trans G103
        have Y20 : ca (τ12.2.1 12) ((τ12.1 3)) ≤ (τ12.1 4) := by rw [show (ca (τ12.2.1 12) ((τ12.1 3)) ≤ (τ12.1 4)) = (ca (τ_13.2.1 12) ((τ_13.1 3)) ≤ (τ_13.1 4)) from by rw [w3_τ12, w4_τ12, g12_τ12]]; exact Y20
        have A8 : ∀ j, 0 ≤ τ12.2.1 8 j ∧ τ12.2.1 8 j ≤ 1 := fun j => hT.2 8 j
        have A10 : ∀ j, (-1) ≤ τ12.2.1 10 j ∧ τ12.2.1 10 j ≤ 999 := fun j => hT.2 10 j
        have A12 : ∀ j, 0 ≤ τ12.2.1 12 j ∧ τ12.2.1 12 j ≤ 1 := fun j => hT.2 12 j
        have A13 : ∀ j, 0 ≤ τ12.2.1 13 j ∧ τ12.2.1 13 j ≤ 4 := fun j => hT.2 13 j
        have A14 : ∀ j, 0 ≤ τ12.2.1 14 j ∧ τ12.2.1 14 j ≤ 30000 := fun j => hT.2 14 j
        have A15 : ∀ j, 0 ≤ τ12.2.1 15 j ∧ τ12.2.1 15 j ≤ 300 := fun j => hT.2 15 j
        have A16 : ∀ j, 0 ≤ τ12.2.1 16 j ∧ τ12.2.1 16 j ≤ 999 := fun j => hT.2 16 j
        have A17 : ∀ j, (-1) ≤ τ12.2.1 17 j ∧ τ12.2.1 17 j ≤ 1499 := fun j => hT.2 17 j
        have A18 : ∀ j, 0 ≤ τ12.2.1 18 j ∧ τ12.2.1 18 j ≤ 90000 := fun j => hT.2 18 j
        have A19 : ∀ j, 0 ≤ τ12.2.1 19 j ∧ τ12.2.1 19 j ≤ 60 := fun j => hT.2 19 j
        have A20 : ∀ j, 0 ≤ τ12.2.1 20 j ∧ τ12.2.1 20 j ≤ 1499 := fun j => hT.2 20 j
        have A71 : ∀ j, (-1) ≤ τ12.2.1 71 j ∧ τ12.2.1 71 j ≤ 99 := fun j => hT.2 71 j
        have A72 : ∀ j, 0 ≤ τ12.2.1 72 j ∧ τ12.2.1 72 j ≤ 999 := fun j => hT.2 72 j
        have A73 : ∀ j, (-1) ≤ τ12.2.1 73 j ∧ τ12.2.1 73 j ≤ 99 := fun j => hT.2 73 j
        have A74 : ∀ j, (-1) ≤ τ12.2.1 74 j ∧ τ12.2.1 74 j ≤ 1499 := fun j => hT.2 74 j
        have A75 : ∀ j, 0 ≤ τ12.2.1 75 j ∧ τ12.2.1 75 j ≤ 3 := fun j => hT.2 75 j
        have A76 : ∀ j, (-1) ≤ τ12.2.1 76 j ∧ τ12.2.1 76 j ≤ 1499 := fun j => hT.2 76 j
        have A86 : ∀ j, (-1500) ≤ τ12.2.1 86 j ∧ τ12.2.1 86 j ≤ 1499 := fun j => hT.2 86 j
        have A87 : ∀ j, 0 ≤ τ12.2.1 87 j ∧ τ12.2.1 87 j ≤ 120000 := fun j => hT.2 87 j
        have A88 : ∀ j, 0 ≤ τ12.2.1 88 j ∧ τ12.2.1 88 j ≤ 59 := fun j => hT.2 88 j
        have A89 : ∀ j, 0 ≤ τ12.2.1 89 j ∧ τ12.2.1 89 j ≤ 59 := fun j => hT.2 89 j
        have A90 : ∀ j, (-1) ≤ τ12.2.1 90 j ∧ τ12.2.1 90 j ≤ 99 := fun j => hT.2 90 j
        have A91 : ∀ j, 0 ≤ τ12.2.1 91 j ∧ τ12.2.1 91 j ≤ 60000 := fun j => hT.2 91 j
        have A103 : ∀ j, 0 ≤ τ12.2.1 103 j ∧ τ12.2.1 103 j ≤ 999 := fun j => hT.2 103 j
        have v3 : 0 ≤ τ12.1 3 ∧ τ12.1 3 ≤ 1000 := hT.1 3
        have v4 : 0 ≤ τ12.1 4 ∧ τ12.1 4 ≤ 100 := hT.1 4
        have v5 : 0 ≤ τ12.1 5 ∧ τ12.1 5 ≤ 1500 := hT.1 5
        have v10 : (-1) ≤ τ12.1 10 ∧ τ12.1 10 ≤ 999 := hT.1 10
        have v11 : (-1) ≤ τ12.1 11 ∧ τ12.1 11 ≤ 999 := hT.1 11
        have v45 : 0 ≤ τ12.1 45 ∧ τ12.1 45 ≤ 59 := hT.1 45
        have v46 : 0 ≤ τ12.1 46 ∧ τ12.1 46 ≤ 100 := hT.1 46
        have v48 : 0 ≤ τ12.1 48 ∧ τ12.1 48 ≤ 1500 := hT.1 48
        have v49 : 0 ≤ τ12.1 49 ∧ τ12.1 49 ≤ 1 := hT.1 49
        have v50 : 0 ≤ τ12.1 50 ∧ τ12.1 50 ≤ 1500 := hT.1 50
        have v51 : 0 ≤ τ12.1 51 ∧ τ12.1 51 ≤ 60000 := hT.1 51
        have v52 : 0 ≤ τ12.1 52 ∧ τ12.1 52 ≤ 120000 := hT.1 52
        have TRD12 : τ12.1 49 = 0 ∨ (y_TT τ12 τ12 (σ.1 5) (σ.1 5) ∧ y_Un τ12 (σ.1 5) (τ12.1 48) (τ12.2.1 84)) := Or.inr (by rw [← W5]; exact ⟨q10_1.1, q10_1.2.1⟩)
        refine ⟨fun c13 => ?_, fun c13 => ?_⟩
        ·
          exact ⟨hT, (show (σ.1 51) ≤ (τ12.1 51) ∧ (τ12.1 51) ≤ (σ.1 51) + 11700 from by (first | omega | (simp only [st_s] <;> omega) | assumption | omega | fail)), (show (σ.1 52) ≤ (τ12.1 52) ∧ (τ12.1 52) ≤ (σ.1 52) + 11700 from by (first | omega | (simp only [st_s] <;> omega) | assumption | omega | fail)), (show ∀ y : Int, y < (σ.1 51) → (τ12.2.1 86 y = σ.2.1 86 y ∧ τ12.2.1 87 y = σ.2.1 87 y) ∧ τ12.2.1 88 y = σ.2.1 88 y ∧ τ12.2.1 89 y = σ.2.1 89 y ∧ τ12.2.1 90 y = σ.2.1 90 y from by (first | (intro y a; have w := q14_4 y (by omega); rw [w.1.1, w.1.2, w.2.1, w.2.2.1, w.2.2.2, g86_τ12, g87_τ12, g88_τ12, g89_τ12, g90_τ12]; rw [i13_7.2.1 86 (by decide), i13_7.2.1 87 (by decide), i13_7.2.1 88 (by decide), i13_7.2.1 89 (by decide), i13_7.2.1 90 (by decide)]; exact ⟨⟨rfl, rfl⟩, rfl, rfl, rfl⟩) | (intro y a; rw [g86_τ12, g87_τ12, g88_τ12, g89_τ12, g90_τ12, i13_7.2.1 86 (by decide), i13_7.2.1 87 (by decide), i13_7.2.1 88 (by decide), i13_7.2.1 89 (by decide), i13_7.2.1 90 (by decide)]; exact ⟨⟨rfl, rfl⟩, rfl, rfl, rfl⟩) | fail)), (show ∀ e : Int, e < (σ.1 52) → τ12.2.1 91 e = σ.2.1 91 e from by (first | (intro e a; rw [q14_5 e (by omega), g91_τ12, i13_7.2.1 91 (by decide)]) | (intro e a; rw [g91_τ12, i13_7.2.1 91 (by decide)]) | fail)), (show ((τ12.1 49) = 0 ∨ (y_TT τ12 τ12 (σ.1 5) (σ.1 5) ∧ y_Un τ12 (σ.1 5) (τ12.1 48) (τ12.2.1 84))) from by (first | exact TRD16 | exact TRD12 | fail)), (show ¬ (-1) = -1 → (-1) = (σ.1 51) ∧ (σ.1 51) < (τ12.1 51) from by (first | (intro z; exact absurd rfl z) | exact fun _ => ⟨by omega, by omega⟩ | fail)), (show ¬ (-1) = -1 → ∃ wt : Int → Int, y_TW τ12 wt (σ.1 51) (τ12.1 51) from by (first | (intro z; exact absurd rfl z) | exact fun _ => TW16 | fail)), (show ¬ (-1) = -1 → ∀ y : Int, (σ.1 51) ≤ y → y < (τ12.1 51) → 0 ≤ τ12.2.1 88 y ∧ τ12.2.1 88 y ≤ τ12.2.1 89 y ∧ τ12.2.1 89 y ≤ 59 from by (first | (intro z; exact absurd rfl z) | (intro _ y a b; have w := (c16 y a b).1; have l := (hT.1 45).2; have l2 : τ16.1 45 ≤ 59 := l; omega) | fail))⟩
        ·
          have hT12 := hT
          have c0 : y_c0 τ12 x8 0 (τ12.1 45) := (by have w45 : τ12.1 45 = τ_13.1 45 := (by omega); have x0 : ¬ (x8 = -1 ∨ τ_13.1 45 = 0) := (fun z => by have w := q10_5 z; omega); have p8x : 0 ≤ x8 := (by omega); have l45 : 0 < τ_13.1 45 := (by omega); have ex := q10_6 p8x l45; have es : ∃ t : Int, (0 ≤ t ∧ t < σ.1 3) ∧ τ_13.2.1 71 t = x8 := (by rcases q7_4 p8x with z | z; (exact ⟨x6, ⟨by omega, l6⟩, z.2.2.symm⟩); (exact ⟨τ_13.1 10, ⟨z.2.2.1, by omega⟩, z.2.2.2.2.symm⟩)); obtain ⟨t, t1, t2⟩ := es; refine ⟨⟨Int.le_refl _, by omega, Int.le_refl _⟩, t, by (rw [g71_τ12]; exact t2), ?_, ?_⟩; (refine ⟨⟨t1.1, by (have w := t1.2; omega), by (rw [g71_τ12, t2]; exact p8x)⟩, ?_⟩; rw [g71_τ12, t2, w45, ← ex]; omega); (intro z; have w := z.2; rw [g71_τ12, t2, w45, ← ex] at w; omega))
          have TCx : ∃ ρ : Int → Int → Int → Int, y_TC ρ τ12 := y_TC_mk q10_1 (y_SD_h hf_τ12 rfl rfl) (n_J_hh i13_4 hf_τ12 rfl rfl) (m_J_f i13_5 hf_τ12 rfl rfl) q10_3 (by omega) (by omega) w3_τ12 w45_τ12 g71_τ12 g72_τ12 g73_τ12 q10_4
          obtain ⟨ρ, TC⟩ := TCx
          refine ⟨_, K_X13_makeTree hT (show y_TC ρ τ12 from by exact TC) (show (τ12.1 51) ≤ 47000 from by (first | omega | (simp only [st_s] <;> omega) | assumption | omega | fail)) (show (τ12.1 52) ≤ 88000 from by (first | omega | (simp only [st_s] <;> omega) | assumption | omega | fail)) (show y_c0 τ12 x8 0 (τ12.1 45) from by exact c0) (show ∀ k : Int, 0 ≤ k → k < (τ12.1 45) → ¬ τ12.2.1 73 k = -1 → 0 ≤ τ12.2.1 74 k from by (rw [g73_τ12, g74_τ12]; intro k a b _; exact (i13_8 k a (by omega)).1)), ?_⟩
          intro x15 τ16 r_x15 hn_τ16 hf_τ16 hq
          obtain ⟨hT, q14_1, q14_2, q14_3, q14_4, q14_5, q14_6, q14_7, q14_8⟩ := hq
          replace q14_1 : x15 = (τ12.1 51) := q14_1
          replace q14_2 : (τ12.1 51) < (τ16.1 51) ∧ (τ16.1 51) ≤ (τ12.1 51) + 11700 := q14_2
          replace q14_3 : (τ12.1 52) ≤ (τ16.1 52) ∧ (τ16.1 52) ≤ (τ12.1 52) + 11700 := q14_3
          replace q14_4 : ∀ y : Int, y < (τ12.1 51) → (τ16.2.1 86 y = τ12.2.1 86 y ∧ τ16.2.1 87 y = τ12.2.1 87 y) ∧ τ16.2.1 88 y = τ12.2.1 88 y ∧ τ16.2.1 89 y = τ12.2.1 89 y ∧ τ16.2.1 90 y = τ12.2.1 90 y := q14_4
          replace q14_5 : ∀ e : Int, e < (τ12.1 52) → τ16.2.1 91 e = τ12.2.1 91 e := q14_5
          replace q14_6 : ∀ y : Int, (τ12.1 51) ≤ y → y < (τ16.1 51) → y_c0 τ12 (τ16.2.1 90 y) (τ16.2.1 88 y) (τ16.2.1 89 y) := q14_6
          replace q14_7 : ∀ y : Int, (τ12.1 51) ≤ y → y < (τ16.1 51) → y_nd τ12 (τ16.2.1 86) (τ16.2.1 87) (τ16.2.1 91) (τ16.2.1 88) (τ16.2.1 89) (τ16.2.1 90) y (y + 1) (τ16.1 51) (τ16.1 52) := q14_7
          replace q14_8 : τ16.2.1 90 (τ12.1 51) = x8 ∧ τ16.2.1 88 (τ12.1 51) = 0 ∧ τ16.2.1 89 (τ12.1 51) = (τ12.1 45) := q14_8
          have w3_τ16 : τ16.1 3 = τ12.1 3 := hf_τ16.1 3 (by decide)
          have w4_τ16 : τ16.1 4 = τ12.1 4 := hf_τ16.1 4 (by decide)
          have w5_τ16 : τ16.1 5 = τ12.1 5 := hf_τ16.1 5 (by decide)
          have w10_τ16 : τ16.1 10 = τ12.1 10 := hf_τ16.1 10 (by decide)
          have w11_τ16 : τ16.1 11 = τ12.1 11 := hf_τ16.1 11 (by decide)
          have w45_τ16 : τ16.1 45 = τ12.1 45 := hf_τ16.1 45 (by decide)
          have w46_τ16 : τ16.1 46 = τ12.1 46 := hf_τ16.1 46 (by decide)
          have w48_τ16 : τ16.1 48 = τ12.1 48 := hf_τ16.1 48 (by decide)
          have w49_τ16 : τ16.1 49 = τ12.1 49 := hf_τ16.1 49 (by decide)
          have w50_τ16 : τ16.1 50 = τ12.1 50 := hf_τ16.1 50 (by decide)
          have g8_τ16 : τ16.2.1 8 = τ12.2.1 8 := hf_τ16.2.1 8 (by decide)
          have g10_τ16 : τ16.2.1 10 = τ12.2.1 10 := hf_τ16.2.1 10 (by decide)
          have g12_τ16 : τ16.2.1 12 = τ12.2.1 12 := hf_τ16.2.1 12 (by decide)
          have g13_τ16 : τ16.2.1 13 = τ12.2.1 13 := hf_τ16.2.1 13 (by decide)
          have g14_τ16 : τ16.2.1 14 = τ12.2.1 14 := hf_τ16.2.1 14 (by decide)
          have g15_τ16 : τ16.2.1 15 = τ12.2.1 15 := hf_τ16.2.1 15 (by decide)
          have g16_τ16 : τ16.2.1 16 = τ12.2.1 16 := hf_τ16.2.1 16 (by decide)
          have g17_τ16 : τ16.2.1 17 = τ12.2.1 17 := hf_τ16.2.1 17 (by decide)
          have g18_τ16 : τ16.2.1 18 = τ12.2.1 18 := hf_τ16.2.1 18 (by decide)
          have g19_τ16 : τ16.2.1 19 = τ12.2.1 19 := hf_τ16.2.1 19 (by decide)
          have g20_τ16 : τ16.2.1 20 = τ12.2.1 20 := hf_τ16.2.1 20 (by decide)
          have g71_τ16 : τ16.2.1 71 = τ12.2.1 71 := hf_τ16.2.1 71 (by decide)
          have g72_τ16 : τ16.2.1 72 = τ12.2.1 72 := hf_τ16.2.1 72 (by decide)
          have g73_τ16 : τ16.2.1 73 = τ12.2.1 73 := hf_τ16.2.1 73 (by decide)
          have g74_τ16 : τ16.2.1 74 = τ12.2.1 74 := hf_τ16.2.1 74 (by decide)
          have g75_τ16 : τ16.2.1 75 = τ12.2.1 75 := hf_τ16.2.1 75 (by decide)
          have g76_τ16 : τ16.2.1 76 = τ12.2.1 76 := hf_τ16.2.1 76 (by decide)
          have g103_τ16 : τ16.2.1 103 = τ12.2.1 103 := hf_τ16.2.1 103 (by decide)
          have W3 : τ16.1 3 = σ.1 3 := by first | exact w3_τ16.trans W3 | omega
          have W4 : τ16.1 4 = σ.1 4 := by first | exact w4_τ16.trans W4 | omega
          have W5 : τ16.1 5 = σ.1 5 := by first | exact w5_τ16.trans W5 | omega
          have W10 : τ16.1 10 = σ.1 10 := by first | exact w10_τ16.trans W10 | omega
          have W11 : τ16.1 11 = σ.1 11 := by first | exact w11_τ16.trans W11 | omega
          have G8 : τ16.2.1 8 = σ.2.1 8 := (g8_τ16).trans G8
          have G10 : τ16.2.1 10 = σ.2.1 10 := (g10_τ16).trans G10
          have G12 : τ16.2.1 12 = σ.2.1 12 := (g12_τ16).trans G12
          have G13 : τ16.2.1 13 = σ.2.1 13 := (g13_τ16).trans G13
          have G14 : τ16.2.1 14 = σ.2.1 14 := (g14_τ16).trans G14
          have G15 : τ16.2.1 15 = σ.2.1 15 := (g15_τ16).trans G15
          have G16 : τ16.2.1 16 = σ.2.1 16 := (g16_τ16).trans G16
          have G17 : τ16.2.1 17 = σ.2.1 17 := (g17_τ16).trans G17
          have G18 : τ16.2.1 18 = σ.2.1 18 := (g18_τ16).trans G18
          have G19 : τ16.2.1 19 = σ.2.1 19 := (g19_τ16).trans G19
          have G20 : τ16.2.1 20 = σ.2.1 20 := (g20_τ16).trans G20
          have G103 : τ16.2.1 103 = σ.2.1 103 := (g103_τ16).trans G103
          have Y20 : ca (τ16.2.1 12) ((τ16.1 3)) ≤ (τ16.1 4) := by rw [show (ca (τ16.2.1 12) ((τ16.1 3)) ≤ (τ16.1 4)) = (ca (τ12.2.1 12) ((τ12.1 3)) ≤ (τ12.1 4)) from by rw [w3_τ16, w4_τ16, g12_τ16]]; exact Y20
          have A8 : ∀ j, 0 ≤ τ16.2.1 8 j ∧ τ16.2.1 8 j ≤ 1 := fun j => hT.2 8 j
          have A10 : ∀ j, (-1) ≤ τ16.2.1 10 j ∧ τ16.2.1 10 j ≤ 999 := fun j => hT.2 10 j
          have A12 : ∀ j, 0 ≤ τ16.2.1 12 j ∧ τ16.2.1 12 j ≤ 1 := fun j => hT.2 12 j
          have A13 : ∀ j, 0 ≤ τ16.2.1 13 j ∧ τ16.2.1 13 j ≤ 4 := fun j => hT.2 13 j
          have A14 : ∀ j, 0 ≤ τ16.2.1 14 j ∧ τ16.2.1 14 j ≤ 30000 := fun j => hT.2 14 j
          have A15 : ∀ j, 0 ≤ τ16.2.1 15 j ∧ τ16.2.1 15 j ≤ 300 := fun j => hT.2 15 j
          have A16 : ∀ j, 0 ≤ τ16.2.1 16 j ∧ τ16.2.1 16 j ≤ 999 := fun j => hT.2 16 j
          have A17 : ∀ j, (-1) ≤ τ16.2.1 17 j ∧ τ16.2.1 17 j ≤ 1499 := fun j => hT.2 17 j
          have A18 : ∀ j, 0 ≤ τ16.2.1 18 j ∧ τ16.2.1 18 j ≤ 90000 := fun j => hT.2 18 j
          have A19 : ∀ j, 0 ≤ τ16.2.1 19 j ∧ τ16.2.1 19 j ≤ 60 := fun j => hT.2 19 j
          have A20 : ∀ j, 0 ≤ τ16.2.1 20 j ∧ τ16.2.1 20 j ≤ 1499 := fun j => hT.2 20 j
          have A71 : ∀ j, (-1) ≤ τ16.2.1 71 j ∧ τ16.2.1 71 j ≤ 99 := fun j => hT.2 71 j
          have A72 : ∀ j, 0 ≤ τ16.2.1 72 j ∧ τ16.2.1 72 j ≤ 999 := fun j => hT.2 72 j
          have A73 : ∀ j, (-1) ≤ τ16.2.1 73 j ∧ τ16.2.1 73 j ≤ 99 := fun j => hT.2 73 j
          have A74 : ∀ j, (-1) ≤ τ16.2.1 74 j ∧ τ16.2.1 74 j ≤ 1499 := fun j => hT.2 74 j
          have A75 : ∀ j, 0 ≤ τ16.2.1 75 j ∧ τ16.2.1 75 j ≤ 3 := fun j => hT.2 75 j
          have A76 : ∀ j, (-1) ≤ τ16.2.1 76 j ∧ τ16.2.1 76 j ≤ 1499 := fun j => hT.2 76 j
          have A86 : ∀ j, (-1500) ≤ τ16.2.1 86 j ∧ τ16.2.1 86 j ≤ 1499 := fun j => hT.2 86 j
          have A87 : ∀ j, 0 ≤ τ16.2.1 87 j ∧ τ16.2.1 87 j ≤ 120000 := fun j => hT.2 87 j
          have A88 : ∀ j, 0 ≤ τ16.2.1 88 j ∧ τ16.2.1 88 j ≤ 59 := fun j => hT.2 88 j
          have A89 : ∀ j, 0 ≤ τ16.2.1 89 j ∧ τ16.2.1 89 j ≤ 59 := fun j => hT.2 89 j
          have A90 : ∀ j, (-1) ≤ τ16.2.1 90 j ∧ τ16.2.1 90 j ≤ 99 := fun j => hT.2 90 j
          have A91 : ∀ j, 0 ≤ τ16.2.1 91 j ∧ τ16.2.1 91 j ≤ 60000 := fun j => hT.2 91 j
          have A103 : ∀ j, 0 ≤ τ16.2.1 103 j ∧ τ16.2.1 103 j ≤ 999 := fun j => hT.2 103 j
          have v3 : 0 ≤ τ16.1 3 ∧ τ16.1 3 ≤ 1000 := hT.1 3
          have v4 : 0 ≤ τ16.1 4 ∧ τ16.1 4 ≤ 100 := hT.1 4
          have v5 : 0 ≤ τ16.1 5 ∧ τ16.1 5 ≤ 1500 := hT.1 5
          have v10 : (-1) ≤ τ16.1 10 ∧ τ16.1 10 ≤ 999 := hT.1 10
          have v11 : (-1) ≤ τ16.1 11 ∧ τ16.1 11 ≤ 999 := hT.1 11
          have v45 : 0 ≤ τ16.1 45 ∧ τ16.1 45 ≤ 59 := hT.1 45
          have v46 : 0 ≤ τ16.1 46 ∧ τ16.1 46 ≤ 100 := hT.1 46
          have v48 : 0 ≤ τ16.1 48 ∧ τ16.1 48 ≤ 1500 := hT.1 48
          have v49 : 0 ≤ τ16.1 49 ∧ τ16.1 49 ≤ 1 := hT.1 49
          have v50 : 0 ≤ τ16.1 50 ∧ τ16.1 50 ≤ 1500 := hT.1 50
          have v51 : 0 ≤ τ16.1 51 ∧ τ16.1 51 ≤ 60000 := hT.1 51
          have v52 : 0 ≤ τ16.1 52 ∧ τ16.1 52 ≤ 120000 := hT.1 52
          have TRD16 : τ16.1 49 = 0 ∨ (y_TT τ16 τ16 (σ.1 5) (σ.1 5) ∧ y_Un τ16 (σ.1 5) (τ16.1 48) (τ16.2.1 84)) := (by rcases TRD12 with z | z; (exact Or.inl ((hf_τ16.1 49 (by decide)).trans z)); (exact Or.inr (y_tr_h (y_SD_h hf_τ16 rfl rfl) hf_τ16 rfl rfl z)))
          have TD := y_TD_h hf_τ16 rfl rfl
          obtain ⟨td1, td2, td3, td4⟩ := y_TD_e TD ρ
          have TC16 : y_TC ρ τ16 := y_TC_h TC hf_τ16 rfl rfl (n_J_hh (n_J_hh i13_4 hf_τ12 rfl rfl) hf_τ16 rfl rfl) (m_J_f (m_J_f i13_5 hf_τ12 rfl rfl) hf_τ16 rfl rfl)
          have c16 : ∀ y : Int, τ12.1 51 ≤ y → y < τ16.1 51 → y_c0 τ16 (τ16.2.1 90 y) (τ16.2.1 88 y) (τ16.2.1 89 y) := (fun y a b => by rw [td1]; exact q14_6 y a b)
          have TW16 := y_TW_mk TC16 hT c16 (fun y a b => by rw [td3]; exact q14_7 y a b)
          have e51 : τ12.1 51 = σ.1 51 := by omega
          rw [e51] at c16 TW16
          exact ⟨hT, (show (σ.1 51) ≤ (τ16.1 51) ∧ (τ16.1 51) ≤ (σ.1 51) + 11700 from by (first | omega | (simp only [st_s] <;> omega) | assumption | omega | fail)), (show (σ.1 52) ≤ (τ16.1 52) ∧ (τ16.1 52) ≤ (σ.1 52) + 11700 from by (first | omega | (simp only [st_s] <;> omega) | assumption | omega | fail)), (show ∀ y : Int, y < (σ.1 51) → (τ16.2.1 86 y = σ.2.1 86 y ∧ τ16.2.1 87 y = σ.2.1 87 y) ∧ τ16.2.1 88 y = σ.2.1 88 y ∧ τ16.2.1 89 y = σ.2.1 89 y ∧ τ16.2.1 90 y = σ.2.1 90 y from by (first | (intro y a; have w := q14_4 y (by omega); rw [w.1.1, w.1.2, w.2.1, w.2.2.1, w.2.2.2, g86_τ12, g87_τ12, g88_τ12, g89_τ12, g90_τ12]; rw [i13_7.2.1 86 (by decide), i13_7.2.1 87 (by decide), i13_7.2.1 88 (by decide), i13_7.2.1 89 (by decide), i13_7.2.1 90 (by decide)]; exact ⟨⟨rfl, rfl⟩, rfl, rfl, rfl⟩) | (intro y a; rw [g86_τ12, g87_τ12, g88_τ12, g89_τ12, g90_τ12, i13_7.2.1 86 (by decide), i13_7.2.1 87 (by decide), i13_7.2.1 88 (by decide), i13_7.2.1 89 (by decide), i13_7.2.1 90 (by decide)]; exact ⟨⟨rfl, rfl⟩, rfl, rfl, rfl⟩) | fail)), (show ∀ e : Int, e < (σ.1 52) → τ16.2.1 91 e = σ.2.1 91 e from by (first | (intro e a; rw [q14_5 e (by omega), g91_τ12, i13_7.2.1 91 (by decide)]) | (intro e a; rw [g91_τ12, i13_7.2.1 91 (by decide)]) | fail)), (show ((τ16.1 49) = 0 ∨ (y_TT τ16 τ16 (σ.1 5) (σ.1 5) ∧ y_Un τ16 (σ.1 5) (τ16.1 48) (τ16.2.1 84))) from by (first | exact TRD16 | exact TRD12 | fail)), (show ¬ x15 = -1 → x15 = (σ.1 51) ∧ (σ.1 51) < (τ16.1 51) from by (first | (intro z; exact absurd rfl z) | exact fun _ => ⟨by omega, by omega⟩ | fail)), (show ¬ x15 = -1 → ∃ wt : Int → Int, y_TW τ16 wt (σ.1 51) (τ16.1 51) from by (first | (intro z; exact absurd rfl z) | exact fun _ => TW16 | fail)), (show ¬ x15 = -1 → ∀ y : Int, (σ.1 51) ≤ y → y < (τ16.1 51) → 0 ≤ τ16.2.1 88 y ∧ τ16.2.1 88 y ≤ τ16.2.1 89 y ∧ τ16.2.1 89 y ≤ 59 from by (first | (intro z; exact absurd rfl z) | (intro _ y a b; have w := (c16 y a b).1; have l := (hT.1 45).2; have l2 : τ16.1 45 ≤ 59 := l; omega) | fail))⟩
      ·
        refine ⟨(show 0 ≤ (1 + u2_13) ∧ (1 + u2_13) < 64 from by (first | omega | (simp only [st_s] <;> omega) | assumption | omega | fail)), ?_⟩
        intro x18 r_x18 e_x18
        have b_x18 : 0 ≤ x18 ∧ x18 ≤ 999 := by rw [e_x18]; exact hT.2 103 _
        rw [G103] at e_x18
        have l18 : 0 ≤ x18 ∧ x18 < σ.1 3 := (by rw [e_x18]; exact ⟨(hTσ.2 103 _).1, p2 (1 + u2_13) (by omega) (by omega)⟩)
        refine ⟨(show 0 ≤ u2_13 ∧ u2_13 < 64 from by (first | omega | (simp only [st_s] <;> omega) | assumption | omega | fail)), ?_⟩
        replace hT := mT_a (k := 72) (j := u2_13) hT (show (0 : Int) ≤ x18 ∧ x18 ≤ 999 from by (first | omega | (simp only [st_s] <;> omega) | assumption | omega | fail))
        refine ⟨(show 0 ≤ x18 ∧ x18 < 1001 from by (first | omega | (simp only [st_s] <;> omega) | assumption | omega | fail)), ?_⟩
        intro x21 r_x21 e_x21
        have b_x21 : 0 ≤ x21 ∧ x21 ≤ 1 := by rw [e_x21]; exact hT.2 8 _
        refine ⟨fun c22 => ?_, fun c22 => ?_⟩
        ·
          exact l_76 _ _ _ _ _ hT (show τ_13.1 3 = σ.1 3 from by first | exact W3 | omega) (show τ_13.1 4 = σ.1 4 from by first | exact W4 | omega) (show τ_13.1 5 = σ.1 5 from by first | exact W5 | omega) (show τ_13.1 10 = σ.1 10 from by first | exact W10 | omega) (show τ_13.1 11 = σ.1 11 from by first | exact W11 | omega) G8 G10 G12 G13 G14 G15 G16 G17 G18 G19 G20 G103 (show y_so (σ.1 3) (σ.1 11) (τ_13.1 46) (σ.2.1 12) (σ.2.1 8) (τ_13.2.1 71) from by exact i13_1) (show 0 ≤ u2_13 ∧ u2_13 ≤ n1 - 1 from by (first | omega | (simp only [st_s] <;> omega) | assumption | omega | fail)) (show (τ_13.1 45) = n1 - 1 from by (first | omega | (simp only [st_s] <;> omega) | assumption | omega | fail)) (show n_J (s_a τ_13 72 u2_13 x18) from by exact i13_4) (show m_J (s_a τ_13 72 u2_13 x18) from by exact i13_5) (show (τ_13.1 49) = 0 ∨ (y_TT (s_a τ_13 72 u2_13 x18) (s_a τ_13 72 u2_13 x18) (σ.1 5) (σ.1 5) ∧ y_Un (s_a τ_13 72 u2_13 x18) (σ.1 5) (τ_13.1 48) (τ_13.2.1 84)) from by exact i13_6) (show f_r [45, 46] [71, 72, 73, 74] [] σ (s_a τ_13 72 u2_13 x18) from by exact f_a i13_7 (by simp)) (show z_rL σ (s_a τ_13 72 u2_13 x18) u2_13 from by exact i13_8) (show u2_13 < n1 - 1 from by (first | omega | (simp only [st_s] <;> omega) | assumption | omega | fail)) (show 0 ≤ x18 ∧ x18 < 1000 from by (first | omega | (simp only [st_s] <;> omega) | assumption | omega | fail)) (show u2_13 = u2_13 from by (first | omega | (simp only [st_s] <;> omega) | assumption | omega | fail)) (show (-1) = -1 ∨ (0 ≤ (-1) ∧ ∃ t : Int, (0 ≤ t ∧ t < (σ.1 3)) ∧ τ_13.2.1 71 t = (-1)) from by (first | exact Or.inl rfl | (by_cases z : x27 = -1; (exact Or.inl z); (exact Or.inr ⟨by omega, x25, ⟨by omega, l25⟩, e_x27.symm⟩)) | fail)) (show -1 ≤ (-1) ∧ (-1) ≤ 99 from by (first | omega | (simp only [st_s] <;> omega) | assumption | omega | fail)) (show 61 - u2_13 < (m_13 : Int) + 1 from by (first | omega | (simp only [st_s] <;> omega) | assumption | omega | fail))
        ·
          intro x23 r_x23 e_x23
          have b_x23 : (-1) ≤ x23 ∧ x23 ≤ 999 := by rw [e_x23]; exact hT.2 10 _
          refine ⟨fun c24 => ?_, fun c24 => ?_⟩
          ·
            exact l_76 _ _ _ _ _ hT (show τ_13.1 3 = σ.1 3 from by first | exact W3 | omega) (show τ_13.1 4 = σ.1 4 from by first | exact W4 | omega) (show τ_13.1 5 = σ.1 5 from by first | exact W5 | omega) (show τ_13.1 10 = σ.1 10 from by first | exact W10 | omega) (show τ_13.1 11 = σ.1 11 from by first | exact W11 | omega) G8 G10 G12 G13 G14 G15 G16 G17 G18 G19 G20 G103 (show y_so (σ.1 3) (σ.1 11) (τ_13.1 46) (σ.2.1 12) (σ.2.1 8) (τ_13.2.1 71) from by exact i13_1) (show 0 ≤ u2_13 ∧ u2_13 ≤ n1 - 1 from by (first | omega | (simp only [st_s] <;> omega) | assumption | omega | fail)) (show (τ_13.1 45) = n1 - 1 from by (first | omega | (simp only [st_s] <;> omega) | assumption | omega | fail)) (show n_J (s_a τ_13 72 u2_13 x18) from by exact i13_4) (show m_J (s_a τ_13 72 u2_13 x18) from by exact i13_5) (show (τ_13.1 49) = 0 ∨ (y_TT (s_a τ_13 72 u2_13 x18) (s_a τ_13 72 u2_13 x18) (σ.1 5) (σ.1 5) ∧ y_Un (s_a τ_13 72 u2_13 x18) (σ.1 5) (τ_13.1 48) (τ_13.2.1 84)) from by exact i13_6) (show f_r [45, 46] [71, 72, 73, 74] [] σ (s_a τ_13 72 u2_13 x18) from by exact f_a i13_7 (by simp)) (show z_rL σ (s_a τ_13 72 u2_13 x18) u2_13 from by exact i13_8) (show u2_13 < n1 - 1 from by (first | omega | (simp only [st_s] <;> omega) | assumption | omega | fail)) (show 0 ≤ x18 ∧ x18 < 1000 from by (first | omega | (simp only [st_s] <;> omega) | assumption | omega | fail)) (show u2_13 = u2_13 from by (first | omega | (simp only [st_s] <;> omega) | assumption | omega | fail)) (show (-1) = -1 ∨ (0 ≤ (-1) ∧ ∃ t : Int, (0 ≤ t ∧ t < (σ.1 3)) ∧ τ_13.2.1 71 t = (-1)) from by (first | exact Or.inl rfl | (by_cases z : x27 = -1; (exact Or.inl z); (exact Or.inr ⟨by omega, x25, ⟨by omega, l25⟩, e_x27.symm⟩)) | fail)) (show -1 ≤ (-1) ∧ (-1) ≤ 99 from by (first | omega | (simp only [st_s] <;> omega) | assumption | omega | fail)) (show 61 - u2_13 < (m_13 : Int) + 1 from by (first | omega | (simp only [st_s] <;> omega) | assumption | omega | fail))
          ·
            intro x25 r_x25 e_x25
            have b_x25 : (-1) ≤ x25 ∧ x25 ≤ 999 := by rw [e_x25]; exact hT.2 10 _
            have l25 : x25 < σ.1 3 := (by have w := p3 x18 l18.1 l18.2; rw [e_x25, G10]; exact w)
            refine ⟨(show 0 ≤ x25 ∧ x25 < 1001 from by (first | omega | (simp only [st_s] <;> omega) | assumption | omega | fail)), ?_⟩
            intro x27 r_x27 e_x27
            have b_x27 : (-1) ≤ x27 ∧ x27 ≤ 99 := by rw [e_x27]; exact hT.2 71 _
            exact l_76 _ _ _ _ _ hT (show τ_13.1 3 = σ.1 3 from by first | exact W3 | omega) (show τ_13.1 4 = σ.1 4 from by first | exact W4 | omega) (show τ_13.1 5 = σ.1 5 from by first | exact W5 | omega) (show τ_13.1 10 = σ.1 10 from by first | exact W10 | omega) (show τ_13.1 11 = σ.1 11 from by first | exact W11 | omega) G8 G10 G12 G13 G14 G15 G16 G17 G18 G19 G20 G103 (show y_so (σ.1 3) (σ.1 11) (τ_13.1 46) (σ.2.1 12) (σ.2.1 8) (τ_13.2.1 71) from by exact i13_1) (show 0 ≤ u2_13 ∧ u2_13 ≤ n1 - 1 from by (first | omega | (simp only [st_s] <;> omega) | assumption | omega | fail)) (show (τ_13.1 45) = n1 - 1 from by (first | omega | (simp only [st_s] <;> omega) | assumption | omega | fail)) (show n_J (s_a τ_13 72 u2_13 x18) from by exact i13_4) (show m_J (s_a τ_13 72 u2_13 x18) from by exact i13_5) (show (τ_13.1 49) = 0 ∨ (y_TT (s_a τ_13 72 u2_13 x18) (s_a τ_13 72 u2_13 x18) (σ.1 5) (σ.1 5) ∧ y_Un (s_a τ_13 72 u2_13 x18) (σ.1 5) (τ_13.1 48) (τ_13.2.1 84)) from by exact i13_6) (show f_r [45, 46] [71, 72, 73, 74] [] σ (s_a τ_13 72 u2_13 x18) from by exact f_a i13_7 (by simp)) (show z_rL σ (s_a τ_13 72 u2_13 x18) u2_13 from by exact i13_8) (show u2_13 < n1 - 1 from by (first | omega | (simp only [st_s] <;> omega) | assumption | omega | fail)) (show 0 ≤ x18 ∧ x18 < 1000 from by (first | omega | (simp only [st_s] <;> omega) | assumption | omega | fail)) (show u2_13 = u2_13 from by (first | omega | (simp only [st_s] <;> omega) | assumption | omega | fail)) (show x27 = -1 ∨ (0 ≤ x27 ∧ ∃ t : Int, (0 ≤ t ∧ t < (σ.1 3)) ∧ τ_13.2.1 71 t = x27) from by (first | exact Or.inl rfl | (by_cases z : x27 = -1; (exact Or.inl z); (exact Or.inr ⟨by omega, x25, ⟨by omega, l25⟩, e_x27.symm⟩)) | fail)) (show -1 ≤ x27 ∧ x27 ≤ 99 from by (first | omega | (simp only [st_s] <;> omega) | assumption | omega | fail)) (show 61 - u2_13 < (m_13 : Int) + 1 from by (first | omega | (simp only [st_s] <;> omega) | assumption | omega | fail))
  refine ⟨_, K_X13_findSorts hT (show ca (σ.2.1 12) ((σ.1 3)) ≤ (σ.1 4) from Y20), ?_⟩
  intro τ3 hn_τ3 hf_τ3 hq
  obtain ⟨hT, q1_1⟩ := hq
  replace q1_1 : y_so ((σ.1 3)) (σ.1 11) (τ3.1 46) (σ.2.1 12) (σ.2.1 8) (τ3.2.1 71) := q1_1
  have w3_τ3 : τ3.1 3 = σ.1 3 := hf_τ3.1 3 (by decide)
  have w4_τ3 : τ3.1 4 = σ.1 4 := hf_τ3.1 4 (by decide)
  have w5_τ3 : τ3.1 5 = σ.1 5 := hf_τ3.1 5 (by decide)
  have w10_τ3 : τ3.1 10 = σ.1 10 := hf_τ3.1 10 (by decide)
  have w11_τ3 : τ3.1 11 = σ.1 11 := hf_τ3.1 11 (by decide)
  have w45_τ3 : τ3.1 45 = σ.1 45 := hf_τ3.1 45 (by decide)
  have w48_τ3 : τ3.1 48 = σ.1 48 := hf_τ3.1 48 (by decide)
  have w49_τ3 : τ3.1 49 = σ.1 49 := hf_τ3.1 49 (by decide)
  have w50_τ3 : τ3.1 50 = σ.1 50 := hf_τ3.1 50 (by decide)
  have w51_τ3 : τ3.1 51 = σ.1 51 := hf_τ3.1 51 (by decide)
  have w52_τ3 : τ3.1 52 = σ.1 52 := hf_τ3.1 52 (by decide)
  have g8_τ3 : τ3.2.1 8 = σ.2.1 8 := hf_τ3.2.1 8 (by decide)
  have g10_τ3 : τ3.2.1 10 = σ.2.1 10 := hf_τ3.2.1 10 (by decide)
  have g12_τ3 : τ3.2.1 12 = σ.2.1 12 := hf_τ3.2.1 12 (by decide)
  have g13_τ3 : τ3.2.1 13 = σ.2.1 13 := hf_τ3.2.1 13 (by decide)
  have g14_τ3 : τ3.2.1 14 = σ.2.1 14 := hf_τ3.2.1 14 (by decide)
  have g15_τ3 : τ3.2.1 15 = σ.2.1 15 := hf_τ3.2.1 15 (by decide)
  have g16_τ3 : τ3.2.1 16 = σ.2.1 16 := hf_τ3.2.1 16 (by decide)
  have g17_τ3 : τ3.2.1 17 = σ.2.1 17 := hf_τ3.2.1 17 (by decide)
  have g18_τ3 : τ3.2.1 18 = σ.2.1 18 := hf_τ3.2.1 18 (by decide)
  have g19_τ3 : τ3.2.1 19 = σ.2.1 19 := hf_τ3.2.1 19 (by decide)
  have g20_τ3 : τ3.2.1 20 = σ.2.1 20 := hf_τ3.2.1 20 (by decide)
  have g72_τ3 : τ3.2.1 72 = σ.2.1 72 := hf_τ3.2.1 72 (by decide)
  have g73_τ3 : τ3.2.1 73 = σ.2.1 73 := hf_τ3.2.1 73 (by decide)
  have g74_τ3 : τ3.2.1 74 = σ.2.1 74 := hf_τ3.2.1 74 (by decide)
  have g75_τ3 : τ3.2.1 75 = σ.2.1 75 := hf_τ3.2.1 75 (by decide)
  have g76_τ3 : τ3.2.1 76 = σ.2.1 76 := hf_τ3.2.1 76 (by decide)
  have g86_τ3 : τ3.2.1 86 = σ.2.1 86 := hf_τ3.2.1 86 (by decide)
  have g87_τ3 : τ3.2.1 87 = σ.2.1 87 := hf_τ3.2.1 87 (by decide)
  have g88_τ3 : τ3.2.1 88 = σ.2.1 88 := hf_τ3.2.1 88 (by decide)
  have g89_τ3 : τ3.2.1 89 = σ.2.1 89 := hf_τ3.2.1 89 (by decide)
  have g90_τ3 : τ3.2.1 90 = σ.2.1 90 := hf_τ3.2.1 90 (by decide)
  have g91_τ3 : τ3.2.1 91 = σ.2.1 91 := hf_τ3.2.1 91 (by decide)
  have g103_τ3 : τ3.2.1 103 = σ.2.1 103 := hf_τ3.2.1 103 (by decide)
  have W3 : τ3.1 3 = σ.1 3 := by first | exact w3_τ3.trans W3 | omega
  have W4 : τ3.1 4 = σ.1 4 := by first | exact w4_τ3.trans W4 | omega
  have W5 : τ3.1 5 = σ.1 5 := by first | exact w5_τ3.trans W5 | omega
  have W10 : τ3.1 10 = σ.1 10 := by first | exact w10_τ3.trans W10 | omega
  have W11 : τ3.1 11 = σ.1 11 := by first | exact w11_τ3.trans W11 | omega
  have G8 : τ3.2.1 8 = σ.2.1 8 := (g8_τ3).trans G8
  have G10 : τ3.2.1 10 = σ.2.1 10 := (g10_τ3).trans G10
  have G12 : τ3.2.1 12 = σ.2.1 12 := (g12_τ3).trans G12
  have G13 : τ3.2.1 13 = σ.2.1 13 := (g13_τ3).trans G13
  have G14 : τ3.2.1 14 = σ.2.1 14 := (g14_τ3).trans G14
  have G15 : τ3.2.1 15 = σ.2.1 15 := (g15_τ3).trans G15
  have G16 : τ3.2.1 16 = σ.2.1 16 := (g16_τ3).trans G16
  have G17 : τ3.2.1 17 = σ.2.1 17 := (g17_τ3).trans G17
  have G18 : τ3.2.1 18 = σ.2.1 18 := (g18_τ3).trans G18
  have G19 : τ3.2.1 19 = σ.2.1 19 := (g19_τ3).trans G19
  have G20 : τ3.2.1 20 = σ.2.1 20 := (g20_τ3).trans G20
  have G103 : τ3.2.1 103 = σ.2.1 103 := (g103_τ3).trans G103
  have Y20 : ca (τ3.2.1 12) ((τ3.1 3)) ≤ (τ3.1 4) := by rw [show (ca (τ3.2.1 12) ((τ3.1 3)) ≤ (τ3.1 4)) = (ca (σ.2.1 12) ((σ.1 3)) ≤ (σ.1 4)) from by rw [w3_τ3, w4_τ3, g12_τ3]]; exact Y20
  have A8 : ∀ j, 0 ≤ τ3.2.1 8 j ∧ τ3.2.1 8 j ≤ 1 := fun j => hT.2 8 j
  have A10 : ∀ j, (-1) ≤ τ3.2.1 10 j ∧ τ3.2.1 10 j ≤ 999 := fun j => hT.2 10 j
  have A12 : ∀ j, 0 ≤ τ3.2.1 12 j ∧ τ3.2.1 12 j ≤ 1 := fun j => hT.2 12 j
  have A13 : ∀ j, 0 ≤ τ3.2.1 13 j ∧ τ3.2.1 13 j ≤ 4 := fun j => hT.2 13 j
  have A14 : ∀ j, 0 ≤ τ3.2.1 14 j ∧ τ3.2.1 14 j ≤ 30000 := fun j => hT.2 14 j
  have A15 : ∀ j, 0 ≤ τ3.2.1 15 j ∧ τ3.2.1 15 j ≤ 300 := fun j => hT.2 15 j
  have A16 : ∀ j, 0 ≤ τ3.2.1 16 j ∧ τ3.2.1 16 j ≤ 999 := fun j => hT.2 16 j
  have A17 : ∀ j, (-1) ≤ τ3.2.1 17 j ∧ τ3.2.1 17 j ≤ 1499 := fun j => hT.2 17 j
  have A18 : ∀ j, 0 ≤ τ3.2.1 18 j ∧ τ3.2.1 18 j ≤ 90000 := fun j => hT.2 18 j
  have A19 : ∀ j, 0 ≤ τ3.2.1 19 j ∧ τ3.2.1 19 j ≤ 60 := fun j => hT.2 19 j
  have A20 : ∀ j, 0 ≤ τ3.2.1 20 j ∧ τ3.2.1 20 j ≤ 1499 := fun j => hT.2 20 j
  have A71 : ∀ j, (-1) ≤ τ3.2.1 71 j ∧ τ3.2.1 71 j ≤ 99 := fun j => hT.2 71 j
  have A72 : ∀ j, 0 ≤ τ3.2.1 72 j ∧ τ3.2.1 72 j ≤ 999 := fun j => hT.2 72 j
  have A73 : ∀ j, (-1) ≤ τ3.2.1 73 j ∧ τ3.2.1 73 j ≤ 99 := fun j => hT.2 73 j
  have A74 : ∀ j, (-1) ≤ τ3.2.1 74 j ∧ τ3.2.1 74 j ≤ 1499 := fun j => hT.2 74 j
  have A75 : ∀ j, 0 ≤ τ3.2.1 75 j ∧ τ3.2.1 75 j ≤ 3 := fun j => hT.2 75 j
  have A76 : ∀ j, (-1) ≤ τ3.2.1 76 j ∧ τ3.2.1 76 j ≤ 1499 := fun j => hT.2 76 j
  have A86 : ∀ j, (-1500) ≤ τ3.2.1 86 j ∧ τ3.2.1 86 j ≤ 1499 := fun j => hT.2 86 j
  have A87 : ∀ j, 0 ≤ τ3.2.1 87 j ∧ τ3.2.1 87 j ≤ 120000 := fun j => hT.2 87 j
  have A88 : ∀ j, 0 ≤ τ3.2.1 88 j ∧ τ3.2.1 88 j ≤ 59 := fun j => hT.2 88 j
  have A89 : ∀ j, 0 ≤ τ3.2.1 89 j ∧ τ3.2.1 89 j ≤ 59 := fun j => hT.2 89 j
  have A90 : ∀ j, (-1) ≤ τ3.2.1 90 j ∧ τ3.2.1 90 j ≤ 99 := fun j => hT.2 90 j
  have A91 : ∀ j, 0 ≤ τ3.2.1 91 j ∧ τ3.2.1 91 j ≤ 60000 := fun j => hT.2 91 j
  have A103 : ∀ j, 0 ≤ τ3.2.1 103 j ∧ τ3.2.1 103 j ≤ 999 := fun j => hT.2 103 j
  have v3 : 0 ≤ τ3.1 3 ∧ τ3.1 3 ≤ 1000 := hT.1 3
  have v4 : 0 ≤ τ3.1 4 ∧ τ3.1 4 ≤ 100 := hT.1 4
  have v5 : 0 ≤ τ3.1 5 ∧ τ3.1 5 ≤ 1500 := hT.1 5
  have v10 : (-1) ≤ τ3.1 10 ∧ τ3.1 10 ≤ 999 := hT.1 10
  have v11 : (-1) ≤ τ3.1 11 ∧ τ3.1 11 ≤ 999 := hT.1 11
  have v45 : 0 ≤ τ3.1 45 ∧ τ3.1 45 ≤ 59 := hT.1 45
  have v46 : 0 ≤ τ3.1 46 ∧ τ3.1 46 ≤ 100 := hT.1 46
  have v48 : 0 ≤ τ3.1 48 ∧ τ3.1 48 ≤ 1500 := hT.1 48
  have v49 : 0 ≤ τ3.1 49 ∧ τ3.1 49 ≤ 1 := hT.1 49
  have v50 : 0 ≤ τ3.1 50 ∧ τ3.1 50 ≤ 1500 := hT.1 50
  have v51 : 0 ≤ τ3.1 51 ∧ τ3.1 51 ≤ 60000 := hT.1 51
  have v52 : 0 ≤ τ3.1 52 ∧ τ3.1 52 ≤ 120000 := hT.1 52
  have hf1 : f_r [45, 46] [71, 72, 73, 74] [] σ (s_v τ3 45 (n1 - 1)) := f_v (f_t f_0 hf_τ3 rfl rfl rfl) (by simp)
  refine ⟨(⟨by (first | omega | (simp only [st_s] <;> omega) | assumption | omega | fail), by (first | omega | (simp only [st_s] <;> omega) | assumption | omega | fail)⟩ : rg (n1 - 1)), ?_⟩
  replace hT := mT_v (i := 45) hT (show 0 ≤ (n1 - 1) ∧ (n1 - 1) ≤ 59 from by (first | omega | (simp only [st_s] <;> omega) | assumption | omega | fail))
  exact l_13 ((61 - 0 : Int).toNat + 1) _ _ (show (61 - 0 : Int) < (((61 - 0 : Int).toNat + 1 : Nat) : Int) from by ((first | omega | (simp only [st_s] <;> omega) | assumption | omega | fail))) hT (show τ3.1 3 = σ.1 3 from by first | exact W3 | omega) (show τ3.1 4 = σ.1 4 from by first | exact W4 | omega) (show τ3.1 5 = σ.1 5 from by first | exact W5 | omega) (show τ3.1 10 = σ.1 10 from by first | exact W10 | omega) (show τ3.1 11 = σ.1 11 from by first | exact W11 | omega) G8 G10 G12 G13 G14 G15 G16 G17 G18 G19 G20 G103 (show y_so (σ.1 3) (σ.1 11) (τ3.1 46) (σ.2.1 12) (σ.2.1 8) (τ3.2.1 71) from by (first | exact q1_1 | exact i76_1 | fail)) (show 0 ≤ 0 ∧ 0 ≤ n1 - 1 from by (first | omega | (simp only [st_s] <;> omega) | assumption | omega | fail)) (show ((n1 - 1)) = n1 - 1 from by (first | omega | (simp only [st_s] <;> omega) | assumption | omega | fail)) (show n_J (s_v τ3 45 (n1 - 1)) from by (first | exact n_J_hh p5 hf1 rfl rfl | exact i76_4 | fail)) (show m_J (s_v τ3 45 (n1 - 1)) from by (first | exact m_J_f p6 hf1 rfl rfl | exact i76_5 | fail)) (show (τ3.1 49) = 0 ∨ (y_TT (s_v τ3 45 (n1 - 1)) (s_v τ3 45 (n1 - 1)) (σ.1 5) (σ.1 5) ∧ y_Un (s_v τ3 45 (n1 - 1)) (σ.1 5) (τ3.1 48) (τ3.2.1 84)) from by (first | (have q9 := p8; rcases q9 with z | z; (exact Or.inl ((hf1.1 49 (by decide)).trans z)); (exact Or.inr (y_tr_h (y_SD_h hf1 rfl rfl) hf1 rfl rfl z))) | exact i76_6 | fail)) (show f_r [45, 46] [71, 72, 73, 74] [] σ (s_v τ3 45 (n1 - 1)) from by (first | exact hf1 | exact f_a (f_a i76_7 (by simp)) (by simp) | fail)) (show z_rL σ (s_v τ3 45 (n1 - 1)) 0 from by (first | (intro k a b; exfalso; omega) | (rw [i76_11]; exact z_rL_s i76_8 i76_10.1 i76_12 rfl rfl rfl) | (have w := z_rL_s (υ := s_a (s_a τ_76 73 k1_76 k2_76) 74 u2_76 u3_76) i76_8 i76_10.1 i76_12 rfl (by rw [i76_11]; rfl) rfl; exact w) | fail))
