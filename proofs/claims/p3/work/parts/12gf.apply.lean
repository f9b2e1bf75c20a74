/-- two trees that stand side by side -/
def z_AP (σ τ : S0) (a b : Int) : Prop := ∃ (wt wt2 : Int → Int) (hi hi2 : Int), y_TW τ wt a hi ∧ (0 ≤ a ∧ a < hi ∧ hi ≤ 60000) ∧ y_TW τ wt2 b hi2 ∧ (0 ≤ b ∧ b < hi2 ∧ hi2 ≤ 60000) ∧ (∀ y : Int, b ≤ y → y < hi2 → 0 ≤ τ.2.1 88 y ∧ τ.2.1 88 y ≤ τ.2.1 89 y ∧ τ.2.1 89 y ≤ 59) ∧ ∀ y : Int, a ≤ y → y < hi → τ.2.1 86 y < 0 → τ.2.1 16 (τ.2.1 14 (-1 - τ.2.1 86 y) + 1) < σ.1 3
set_option maxHeartbeats 8000000 in
theorem K_X13_apply {n1 : Int} {σ : S0} (hT : m_T σ) (p1 : -2147483648 ≤ n1 ∧ n1 ≤ 2147483647) (p2 : ca (σ.2.1 12) ((σ.1 3)) ≤ (σ.1 4)) (p3 : (σ.1 10) < (σ.1 3)) (p4 : y_BI σ σ) (p5 : z_ty σ) (p6 : oc (σ.2.1 6) < 4096) (p7 : j_l2 (σ.2.1 6) (σ.1 3)) : W_X13_apply n1 σ (fun (x : Int) (τ : S0) => (m_T τ) ∧ (y_BI σ τ) ∧ ((τ.1 0) = 0 ∧ (τ.1 1) = 0)) := by
  have A6 : ∀ j, (-1) ≤ σ.2.1 6 j ∧ σ.2.1 6 j ≤ 999 := fun j => hT.2 6 j
  have A8 : ∀ j, 0 ≤ σ.2.1 8 j ∧ σ.2.1 8 j ≤ 1 := fun j => hT.2 8 j
  have A10 : ∀ j, (-1) ≤ σ.2.1 10 j ∧ σ.2.1 10 j ≤ 999 := fun j => hT.2 10 j
  have A12 : ∀ j, 0 ≤ σ.2.1 12 j ∧ σ.2.1 12 j ≤ 1 := fun j => hT.2 12 j
  have A13 : ∀ j, 0 ≤ σ.2.1 13 j ∧ σ.2.1 13 j ≤ 4 := fun j => hT.2 13 j
  have A14 : ∀ j, 0 ≤ σ.2.1 14 j ∧ σ.2.1 14 j ≤ 30000 := fun j => hT.2 14 j
  have A15 : ∀ j, 0 ≤ σ.2.1 15 j ∧ σ.2.1 15 j ≤ 300 := fun j => hT.2 15 j
  have A16 : ∀ j, 0 ≤ σ.2.1 16 j ∧ σ.2.1 16 j ≤ 999 := fun j => hT.2 16 j
  have A17 : ∀ j, (-1) ≤ σ.2.1 17 j ∧ σ.2.1 17 j ≤ 1499 := fun j => hT.2 17 j
  have A18 : ∀ j, 0 ≤ σ.2.1 18 j ∧ σ.2.1 18 j ≤ 90000 := fun j => hT.2 18 j
  have A19 : ∀ j, 0 ≤ σ.2.1 19 j ∧ σ.2.1 19 j ≤ 60 := fun j => hT.2 19 j
  have A20 : ∀ j, 0 ≤ σ.2.1 20 j ∧ σ.2.1 20 j ≤ 1499 := fun j => hT.2 20 j
  have A86 : ∀ j, (-1500) ≤ σ.2.1 86 j ∧ σ.2.1 86 j ≤ 1499 := fun j => hT.2 86 j
  have A87 : ∀ j, 0 ≤ σ.2.1 87 j ∧ σ.2.1 87 j ≤ 120000 := fun j => hT.2 87 j
  have A88 : ∀ j, 0 ≤ σ.2.1 88 j ∧ σ.2.1 88 j ≤ 59 := fun j => hT.2 88 j
  have A89 : ∀ j, 0 ≤ σ.2.1 89 j ∧ σ.2.1 89 j ≤ 59 := fun j => hT.2 89 j
  have A90 : ∀ j, (-1) ≤ σ.2.1 90 j ∧ σ.2.1 90 j ≤ 99 := fun j => hT.2 90 j
  have A91 : ∀ j, 0 ≤ σ.2.1 91 j ∧ σ.2.1 91 j ≤ 60000 := fun j => hT.2 91 j
  have A94 : ∀ j, (-1) ≤ σ.2.1 94 j ∧ σ.2.1 94 j ≤ 2 := fun j => hT.2 94 j
  have A95 : ∀ j, (-9) ≤ σ.2.1 95 j ∧ σ.2.1 95 j ≤ 1499 := fun j => hT.2 95 j
  have A103 : ∀ j, 0 ≤ σ.2.1 103 j ∧ σ.2.1 103 j ≤ 999 := fun j => hT.2 103 j
  have A104 : ∀ j, (-1) ≤ σ.2.1 104 j ∧ σ.2.1 104 j ≤ 59 := fun j => hT.2 104 j
  have v0 : 0 ≤ σ.1 0 ∧ σ.1 0 ≤ 60000 := hT.1 0
  have v1 : 0 ≤ σ.1 1 ∧ σ.1 1 ≤ 1 := hT.1 1
  have v3 : 0 ≤ σ.1 3 ∧ σ.1 3 ≤ 1000 := hT.1 3
  have v4 : 0 ≤ σ.1 4 ∧ σ.1 4 ≤ 100 := hT.1 4
  have v5 : 0 ≤ σ.1 5 ∧ σ.1 5 ≤ 1500 := hT.1 5
  have v10 : (-1) ≤ σ.1 10 ∧ σ.1 10 ≤ 999 := hT.1 10
  have v11 : (-1) ≤ σ.1 11 ∧ σ.1 11 ≤ 999 := hT.1 11
  have v45 : 0 ≤ σ.1 45 ∧ σ.1 45 ≤ 59 := hT.1 45
  have v48 : 0 ≤ σ.1 48 ∧ σ.1 48 ≤ 1500 := hT.1 48
  have v49 : 0 ≤ σ.1 49 ∧ σ.1 49 ≤ 1 := hT.1 49
  have v50 : 0 ≤ σ.1 50 ∧ σ.1 50 ≤ 1500 := hT.1 50
  have v51 : 0 ≤ σ.1 51 ∧ σ.1 51 ≤ 60000 := hT.1 51
  have v52 : 0 ≤ σ.1 52 ∧ σ.1 52 ≤ 120000 := hT.1 52
  have W3 : σ.1 3 = σ.1 3 := rfl
  have W4 : σ.1 4 = σ.1 4 := rfl
  have W5 : σ.1 5 = σ.1 5 := rfl
  have W10 : σ.1 10 = σ.1 10 := rfl
  have W11 : σ.1 11 = σ.1 11 := rfl
  have G6 : σ.2.1 6 = σ.2.1 6 := rfl
  have G8 : σ.2.1 8 = σ.2.1 8 := rfl
  have G10 : σ.2.1 10 = σ.2.1 10 := rfl
  have G12 : σ.2.1 12 = σ.2.1 12 := rfl
  have G13 : σ.2.1 13 = σ.2.1 13 := rfl
  have G14 : σ.2.1 14 = σ.2.1 14 := rfl
  have G15 : σ.2.1 15 = σ.2.1 15 := rfl
  have G16 : σ.2.1 16 = σ.2.1 16 := rfl
  have G17 : σ.2.1 17 = σ.2.1 17 := rfl
  have G18 : σ.2.1 18 = σ.2.1 18 := rfl
  have G19 : σ.2.1 19 = σ.2.1 19 := rfl
  have G20 : σ.2.1 20 = σ.2.1 20 := rfl
  have G95 : σ.2.1 95 = σ.2.1 95 := rfl
  intro P103 h103
  have hT0 := hT
  have l3 : σ.1 3 ≤ 1000 := (hT.1 3).2
  have l5 : σ.1 5 ≤ 1500 := (hT.1 5).2
  have Y20 : ca (σ.2.1 12) ((σ.1 3)) ≤ (σ.1 4) := p2
  have Y1 : j_l2 (σ.2.1 6) (σ.1 3) := p7
  have STt : j_l2 (σ.2.1 6) (σ.1 3) := p7
  have STt_0 := STt
  have Y1_0 := Y1
  have Y20_0 := Y20
  have l_103 : ∀ (m_103 : Nat) (u3_103 : Int) (u4_103 : Int) (u5_103 : Int) (τ_103 : S0), 1002 - u5_103 < (m_103 : Int) → (m_T τ_103) → (τ_103.1 3 = σ.1 3) → (τ_103.1 4 = σ.1 4) → (τ_103.1 5 = σ.1 5) → (τ_103.1 10 = σ.1 10) → (τ_103.1 11 = σ.1 11) → (τ_103.2.1 6 = σ.2.1 6) → (τ_103.2.1 8 = σ.2.1 8) → (τ_103.2.1 10 = σ.2.1 10) → (τ_103.2.1 12 = σ.2.1 12) → (τ_103.2.1 13 = σ.2.1 13) → (τ_103.2.1 14 = σ.2.1 14) → (τ_103.2.1 15 = σ.2.1 15) → (τ_103.2.1 16 = σ.2.1 16) → (τ_103.2.1 17 = σ.2.1 17) → (τ_103.2.1 18 = σ.2.1 18) → (τ_103.2.1 19 = σ.2.1 19) → (τ_103.2.1 20 = σ.2.1 20) → (τ_103.2.1 95 = σ.2.1 95) → (y_BI σ τ_103) → ((τ_103.1 0) = 0 ∧ (τ_103.1 1) = 0) → (0 ≤ u5_103 ∧ u5_103 ≤ (σ.1 3)) → (∀ s : Int, 0 ≤ s → s < u5_103 → τ_103.2.1 104 s = -1) → (z_AP σ τ_103 u3_103 u4_103) → (0 ≤ n1 ∧ n1 < 1500) → P103 n1 u3_103 u4_103 u5_103 τ_103 := by
    intro m_103
    induction m_103 with
    | zero =>
      intro u3_103 u4_103 u5_103 τ_103 hm hT W3 W4 W5 W10 W11 G6 G8 G10 G12 G13 G14 G15 G16 G17 G18 G19 G20 G95 i103_1 i103_2 i103_3 i103_4 i103_5 i103_6
      have A6 : ∀ j, (-1) ≤ τ_103.2.1 6 j ∧ τ_103.2.1 6 j ≤ 999 := fun j => hT.2 6 j
      have A8 : ∀ j, 0 ≤ τ_103.2.1 8 j ∧ τ_103.2.1 8 j ≤ 1 := fun j => hT.2 8 j
      have A10 : ∀ j, (-1) ≤ τ_103.2.1 10 j ∧ τ_103.2.1 10 j ≤ 999 := fun j => hT.2 10 j
      have A12 : ∀ j, 0 ≤ τ_103.2.1 12 j ∧ τ_103.2.1 12 j ≤ 1 := fun j => hT.2 12 j
      have A13 : ∀ j, 0 ≤ τ_103.2.1 13 j ∧ τ_103.2.1 13 j ≤ 4 := fun j => hT.2 13 j
      have A14 : ∀ j, 0 ≤ τ_103.2.1 14 j ∧ τ_103.2.1 14 j ≤ 30000 := fun j => hT.2 14 j
      have A15 : ∀ j, 0 ≤ τ_103.2.1 15 j ∧ τ_103.2.1 15 j ≤ 300 := fun j => hT.2 15 j
      have A16 : ∀ j, 0 ≤ τ_103.2.1 16 j ∧ τ_103.2.1 16 j ≤ 999 := fun j => hT.2 16 j
      have A17 : ∀ j, (-1) ≤ τ_103.2.1 17 j ∧ τ_103.2.1 17 j ≤ 1499 := fun j => hT.2 17 j
      have A18 : ∀ j, 0 ≤ τ_103.2.1 18 j ∧ τ_103.2.1 18 j ≤ 90000 := fun j => hT.2 18 j
      have A19 : ∀ j, 0 ≤ τ_103.2.1 19 j ∧ τ_103.2.1 19 j ≤ 60 := fun j => hT.2 19 j
      have A20 : ∀ j, 0 ≤ τ_103.2.1 20 j ∧ τ_103.2.1 20 j ≤ 1499 := fun j => hT.2 20 j
      have A86 : ∀ j, (-1500) ≤ τ_103.2.1 86 j ∧ τ_103.2.1 86 j ≤ 1499 := fun j => hT.2 86 j
      have A87 : ∀ j, 0 ≤ τ_103.2.1 87 j ∧ τ_103.2.1 87 j ≤ 120000 := fun j => hT.2 87 j
      have A88 : ∀ j, 0 ≤ τ_103.2.1 88 j ∧ τ_103.2.1 88 j ≤ 59 := fun j => hT.2 88 j
      have A89 : ∀ j, 0 ≤ τ_103.2.1 89 j ∧ τ_103.2.1 89 j ≤ 59 := fun j => hT.2 89 j
      have A90 : ∀ j, (-1) ≤ τ_103.2.1 90 j ∧ τ_103.2.1 90 j ≤ 99 := fun j => hT.2 90 j
      have A91 : ∀ j, 0 ≤ τ_103.2.1 91 j ∧ τ_103.2.1 91 j ≤ 60000 := fun j => hT.2 91 j
      have A94 : ∀ j, (-1) ≤ τ_103.2.1 94 j ∧ τ_103.2.1 94 j ≤ 2 := fun j => hT.2 94 j
      have A95 : ∀ j, (-9) ≤ τ_103.2.1 95 j ∧ τ_103.2.1 95 j ≤ 1499 := fun j => hT.2 95 j
      have A103 : ∀ j, 0 ≤ τ_103.2.1 103 j ∧ τ_103.2.1 103 j ≤ 999 := fun j => hT.2 103 j
      have A104 : ∀ j, (-1) ≤ τ_103.2.1 104 j ∧ τ_103.2.1 104 j ≤ 59 := fun j => hT.2 104 j
      have v0 : 0 ≤ τ_103.1 0 ∧ τ_103.1 0 ≤ 60000 := hT.1 0
      have v1 : 0 ≤ τ_103.1 1 ∧ τ_103.1 1 ≤ 1 := hT.1 1
      have v3 : 0 ≤ τ_103.1 3 ∧ τ_103.1 3 ≤ 1000 := hT.1 3
      have v4 : 0 ≤ τ_103.1 4 ∧ τ_103.1 4 ≤ 100 := hT.1 4
      have v5 : 0 ≤ τ_103.1 5 ∧ τ_103.1 5 ≤ 1500 := hT.1 5
      have v10 : (-1) ≤ τ_103.1 10 ∧ τ_103.1 10 ≤ 999 := hT.1 10
      have v11 : (-1) ≤ τ_103.1 11 ∧ τ_103.1 11 ≤ 999 := hT.1 11
      have v45 : 0 ≤ τ_103.1 45 ∧ τ_103.1 45 ≤ 59 := hT.1 45
      have v48 : 0 ≤ τ_103.1 48 ∧ τ_103.1 48 ≤ 1500 := hT.1 48
      have v49 : 0 ≤ τ_103.1 49 ∧ τ_103.1 49 ≤ 1 := hT.1 49
      have v50 : 0 ≤ τ_103.1 50 ∧ τ_103.1 50 ≤ 1500 := hT.1 50
      have v51 : 0 ≤ τ_103.1 51 ∧ τ_103.1 51 ≤ 60000 := hT.1 51
      have v52 : 0 ≤ τ_103.1 52 ∧ τ_103.1 52 ≤ 120000 := hT.1 52
      exfalso; (first | omega | (simp only [st_s] <;> omega) | assumption | omega | fail)
    | succ m_103 ih_103 =>
      intro u3_103 u4_103 u5_103 τ_103 hm_103 hT W3 W4 W5 W10 W11 G6 G8 G10 G12 G13 G14 G15 G16 G17 G18 G19 G20 G95 i103_1 i103_2 i103_3 i103_4 i103_5 i103_6
      have A6 : ∀ j, (-1) ≤ τ_103.2.1 6 j ∧ τ_103.2.1 6 j ≤ 999 := fun j => hT.2 6 j
      have A8 : ∀ j, 0 ≤ τ_103.2.1 8 j ∧ τ_103.2.1 8 j ≤ 1 := fun j => hT.2 8 j
      have A10 : ∀ j, (-1) ≤ τ_103.2.1 10 j ∧ τ_103.2.1 10 j ≤ 999 := fun j => hT.2 10 j
      have A12 : ∀ j, 0 ≤ τ_103.2.1 12 j ∧ τ_103.2.1 12 j ≤ 1 := fun j => hT.2 12 j
      have A13 : ∀ j, 0 ≤ τ_103.2.1 13 j ∧ τ_103.2.1 13 j ≤ 4 := fun j => hT.2 13 j
      have A14 : ∀ j, 0 ≤ τ_103.2.1 14 j ∧ τ_103.2.1 14 j ≤ 30000 := fun j => hT.2 14 j
      have A15 : ∀ j, 0 ≤ τ_103.2.1 15 j ∧ τ_103.2.1 15 j ≤ 300 := fun j => hT.2 15 j
      have A16 : ∀ j, 0 ≤ τ_103.2.1 16 j ∧ τ_103.2.1 16 j ≤ 999 := fun j => hT.2 16 j
      have A17 : ∀ j, (-1) ≤ τ_103.2.1 17 j ∧ τ_103.2.1 17 j ≤ 1499 := fun j => hT.2 17 j
      have A18 : ∀ j, 0 ≤ τ_103.2.1 18 j ∧ τ_103.2.1 18 j ≤ 90000 := fun j => hT.2 18 j
      have A19 : ∀ j, 0 ≤ τ_103.2.1 19 j ∧ τ_103.2.1 19 j ≤ 60 := fun j => hT.2 19 j
      have A20 : ∀ j, 0 ≤ τ_103.2.1 20 j ∧ τ_103.2.1 20 j ≤ 1499 := fun j => hT.2 20 j
      have A86 : ∀ j, (-1500) ≤ τ_103.2.1 86 j ∧ τ_103.2.1 86 j ≤ 1499 := fun j => hT.2 86 j
      have A87 : ∀ j, 0 ≤ τ_103.2.1 87 j ∧ τ_103.2.1 87 j ≤ 120000 := fun j => hT.2 87 j
      have A88 : ∀ j, 0 ≤ τ_103.2.1 88 j ∧ τ_103.2.1 88 j ≤ 59 := fun j => hT.2 88 j
      have A89 : ∀ j, 0 ≤ τ_103.2.1 89 j ∧ τ_103.2.1 89 j ≤ 59 := fun j => hT.2 89 j
      have A90 : ∀ j, (-1) ≤ τ_103.2.1 90 j ∧ τ_103.2.1 90 j ≤ 99 := fun j => hT.2 90 j
      have A91 : ∀ j, 0 ≤ τ_103.2.1 91 j ∧ τ_103.2.1 91 j ≤ 60000 := fun j => hT.2 91 j
      have A94 : ∀ j, (-1) ≤ τ_103.2.1 94 j ∧ τ_103.2.1 94 j ≤ 2 := fun j => hT.2 94 j
      have A95 : ∀ j, (-9) ≤ τ_103.2.1 95 j ∧ τ_103.2.1 95 j ≤ 1499 := fun j => hT.2 95 j
      have A103 : ∀ j, 0 ≤ τ_103.2.1 103 j ∧ τ_103.2.1 103 j ≤ 999 := fun j => hT.2 103 j
      have A104 : ∀ j, (-1) ≤ τ_103.2.1 104 j ∧ τ_103.2.1 104 j ≤ 59 := fun j => hT.2 104 j
      have v0 : 0 ≤ τ_103.1 0 ∧ τ_103.1 0 ≤ 60000 := hT.1 0
      have v1 : 0 ≤ τ_103.1 1 ∧ τ_103.1 1 ≤ 1 := hT.1 1
      have v3 : 0 ≤ τ_103.1 3 ∧ τ_103.1 3 ≤ 1000 := hT.1 3
      have v4 : 0 ≤ τ_103.1 4 ∧ τ_103.1 4 ≤ 100 := hT.1 4
      have v5 : 0 ≤ τ_103.1 5 ∧ τ_103.1 5 ≤ 1500 := hT.1 5
      have v10 : (-1) ≤ τ_103.1 10 ∧ τ_103.1 10 ≤ 999 := hT.1 10
      have v11 : (-1) ≤ τ_103.1 11 ∧ τ_103.1 11 ≤ 999 := hT.1 11
      have v45 : 0 ≤ τ_103.1 45 ∧ τ_103.1 45 ≤ 59 := hT.1 45
      have v48 : 0 ≤ τ_103.1 48 ∧ τ_103.1 48 ≤ 1500 := hT.1 48
      have v49 : 0 ≤ τ_103.1 49 ∧ τ_103.1 49 ≤ 1 := hT.1 49
      have v50 : 0 ≤ τ_103.1 50 ∧ τ_103.1 50 ≤ 1500 := hT.1 50
      have v51 : 0 ≤ τ_103.1 51 ∧ τ_103.1 51 ≤ 60000 := hT.1 51
      have v52 : 0 ≤ τ_103.1 52 ∧ τ_103.1 52 ≤ 120000 := hT.1 52
      have o6_τ_103 := congrArg oc G6
      have Y20 : ca (τ_103.2.1 12) ((τ_103.1 3)) ≤ (τ_103.1 4) := by rw [show (ca (τ_103.2.1 12) ((τ_103.1 3)) ≤ (τ_103.1 4)) = (ca (σ.2.1 12) ((σ.1 3)) ≤ (σ.1 4)) from by rw [W3, W4, G12]]; exact Y20_0
      have Y1 : j_l2 (τ_103.2.1 6) (τ_103.1 3) := by rw [show (j_l2 (τ_103.2.1 6) (τ_103.1 3)) = (j_l2 (σ.2.1 6) (σ.1 3)) from by rw [W3, G6]]; exact Y1_0
      have STt : j_l2 (τ_103.2.1 6) (τ_103.1 3) := by rw [show (j_l2 (τ_103.2.1 6) (τ_103.1 3)) = (j_l2 (σ.2.1 6) (σ.1 3)) from by rw [W3, G6]]; exact STt_0
      refine h103 n1 u3_103 u4_103 u5_103 τ_103 ?_
      refine ⟨fun c35 => ?_, fun c35 => ?_⟩
      ·
        obtain ⟨wt, wt2, hi, hi2, ap1, ap2, ap3, ap4, ap5, ap6⟩ := i103_5
        obtain ⟨lo, elo⟩ : ∃ z : Int, z = u3_103 := ⟨_, rfl⟩
        obtain ⟨lo2, elo2⟩ : ∃ z : Int, z = u4_103 := ⟨_, rfl⟩
        have hTf := hT
        rw [← elo] at ap1 ap2 ap6
        rw [← elo2] at ap3 ap4 ap5
        refine ⟨_, K_X13_fits hT (show y_TW τ_103 wt lo hi from by exact ap1) (show lo ≤ u3_103 ∧ u3_103 < hi from by exact ⟨by omega, by omega⟩) (show 0 ≤ lo ∧ hi ≤ 60000 from by (first | omega | (simp only [st_s] <;> omega) | assumption | omega | fail)) (show y_TW τ_103 wt2 lo2 hi2 from by exact ap3) (show lo2 ≤ u4_103 ∧ u4_103 < hi2 from by exact ⟨by omega, by omega⟩) (show 0 ≤ lo2 ∧ hi2 ≤ 60000 from by (first | omega | (simp only [st_s] <;> omega) | assumption | omega | fail)) (show ∀ y : Int, lo2 ≤ y → y < hi2 → 0 ≤ τ_103.2.1 88 y ∧ τ_103.2.1 88 y ≤ τ_103.2.1 89 y ∧ τ_103.2.1 89 y ≤ 59 from by exact ap5) (show ∀ y : Int, lo ≤ y → y < hi → τ_103.2.1 86 y < 0 → τ_103.2.1 16 (τ_103.2.1 14 (-1 - τ_103.2.1 86 y) + 1) < (τ_103.1 3) from by (intro y a b c; have w := ap6 y a b c; omega)) (show z_bd τ_103 τ_103 from by (intro s a b; exact Or.inl (i103_4 s a (by omega)))), ?_⟩
        intro x37 τ38 r_x37 hn_τ38 hf_τ38 hq
        obtain ⟨hT, q36_1⟩ := hq
        replace q36_1 : x37 = 0 ∨ x37 = 1 := q36_1
        have w0_τ38 : τ38.1 0 = τ_103.1 0 := hf_τ38.1 0 (by decide)
        have w1_τ38 : τ38.1 1 = τ_103.1 1 := hf_τ38.1 1 (by decide)
        have w3_τ38 : τ38.1 3 = τ_103.1 3 := hf_τ38.1 3 (by decide)
        have w4_τ38 : τ38.1 4 = τ_103.1 4 := hf_τ38.1 4 (by decide)
        have w5_τ38 : τ38.1 5 = τ_103.1 5 := hf_τ38.1 5 (by decide)
        have w10_τ38 : τ38.1 10 = τ_103.1 10 := hf_τ38.1 10 (by decide)
        have w11_τ38 : τ38.1 11 = τ_103.1 11 := hf_τ38.1 11 (by decide)
        have w45_τ38 : τ38.1 45 = τ_103.1 45 := hf_τ38.1 45 (by decide)
        have w48_τ38 : τ38.1 48 = τ_103.1 48 := hf_τ38.1 48 (by decide)
        have w49_τ38 : τ38.1 49 = τ_103.1 49 := hf_τ38.1 49 (by decide)
        have w50_τ38 : τ38.1 50 = τ_103.1 50 := hf_τ38.1 50 (by decide)
        have w51_τ38 : τ38.1 51 = τ_103.1 51 := hf_τ38.1 51 (by decide)
        have w52_τ38 : τ38.1 52 = τ_103.1 52 := hf_τ38.1 52 (by decide)
        have g6_τ38 : τ38.2.1 6 = τ_103.2.1 6 := hf_τ38.2.1 6 (by decide)
        have g8_τ38 : τ38.2.1 8 = τ_103.2.1 8 := hf_τ38.2.1 8 (by decide)
        have g10_τ38 : τ38.2.1 10 = τ_103.2.1 10 := hf_τ38.2.1 10 (by decide)
        have g12_τ38 : τ38.2.1 12 = τ_103.2.1 12 := hf_τ38.2.1 12 (by decide)
        have g13_τ38 : τ38.2.1 13 = τ_103.2.1 13 := hf_τ38.2.1 13 (by decide)
        have g14_τ38 : τ38.2.1 14 = τ_103.2.1 14 := hf_τ38.2.1 14 (by decide)
        have g15_τ38 : τ38.2.1 15 = τ_103.2.1 15 := hf_τ38.2.1 15 (by decide)
        have g16_τ38 : τ38.2.1 16 = τ_103.2.1 16 := hf_τ38.2.1 16 (by decide)
        have g17_τ38 : τ38.2.1 17 = τ_103.2.1 17 := hf_τ38.2.1 17 (by decide)
        have g18_τ38 : τ38.2.1 18 = τ_103.2.1 18 := hf_τ38.2.1 18 (by decide)
        have g19_τ38 : τ38.2.1 19 = τ_103.2.1 19 := hf_τ38.2.1 19 (by decide)
        have g20_τ38 : τ38.2.1 20 = τ_103.2.1 20 := hf_τ38.2.1 20 (by decide)
        have g86_τ38 : τ38.2.1 86 = τ_103.2.1 86 := hf_τ38.2.1 86 (by decide)
        have g87_τ38 : τ38.2.1 87 = τ_103.2.1 87 := hf_τ38.2.1 87 (by decide)
        have g88_τ38 : τ38.2.1 88 = τ_103.2.1 88 := hf_τ38.2.1 88 (by decide)
        have g89_τ38 : τ38.2.1 89 = τ_103.2.1 89 := hf_τ38.2.1 89 (by decide)
        have g90_τ38 : τ38.2.1 90 = τ_103.2.1 90 := hf_τ38.2.1 90 (by decide)
        have g91_τ38 : τ38.2.1 91 = τ_103.2.1 91 := hf_τ38.2.1 91 (by decide)
        have g94_τ38 : τ38.2.1 94 = τ_103.2.1 94 := hf_τ38.2.1 94 (by decide)
        have g95_τ38 : τ38.2.1 95 = τ_103.2.1 95 := hf_τ38.2.1 95 (by decide)
        have g103_τ38 : τ38.2.1 103 = τ_103.2.1 103 := hf_τ38.2.1 103 (by decide)
        first | (have o6_τ38 := congrArg oc g6_τ38) | skip
        have W3 : τ38.1 3 = σ.1 3 := by first | exact w3_τ38.trans W3 | omega
        have W4 : τ38.1 4 = σ.1 4 := by first | exact w4_τ38.trans W4 | omega
        have W5 : τ38.1 5 = σ.1 5 := by first | exact w5_τ38.trans W5 | omega
        have W10 : τ38.1 10 = σ.1 10 := by first | exact w10_τ38.trans W10 | omega
        have W11 : τ38.1 11 = σ.1 11 := by first | exact w11_τ38.trans W11 | omega
        have G6 : τ38.2.1 6 = σ.2.1 6 := (g6_τ38).trans G6
        have G8 : τ38.2.1 8 = σ.2.1 8 := (g8_τ38).trans G8
        have G10 : τ38.2.1 10 = σ.2.1 10 := (g10_τ38).trans G10
        have G12 : τ38.2.1 12 = σ.2.1 12 := (g12_τ38).trans G12
        have G13 : τ38.2.1 13 = σ.2.1 13 := (g13_τ38).trans G13
        have G14 : τ38.2.1 14 = σ.2.1 14 := (g14_τ38).trans G14
        have G15 : τ38.2.1 15 = σ.2.1 15 := (g15_τ38).trans G15
        have G16 : τ38.2.1 16 = σ.2.1 16 := (g16_τ38).trans G16
        have G17 : τ38.2.1 17 = σ.2.1 17 := (g17_τ38).trans G17
        have G18 : τ38.2.1 18 = σ.2.1 18 := (g18_τ38).trans G18
        have G19 : τ38.2.1 19 = σ.2.1 19 := (g19_τ38).trans G19
        have G20 : τ38.2.1 20 = σ.2.1 20 := (g20_τ38).trans G20
        have G95 : τ38.2.1 95 = σ.2.1 95 := (g95_τ38).trans G95
        have Y20 : ca (τ38.2.1 12) ((τ38.1 3)) ≤ (τ38.1 4) := by rw [show (ca (τ38.2.1 12) ((τ38.1 3)) ≤ (τ38.1 4)) = (ca (τ_103.2.1 12) ((τ_103.1 3)) ≤ (τ_103.1 4)) from by rw [w3_τ38, w4_τ38, g12_τ38]]; exact Y20
        have Y1 : j_l2 (τ38.2.1 6) (τ38.1 3) := by rw [show (j_l2 (τ38.2.1 6) (τ38.1 3)) = (j_l2 (τ_103.2.1 6) (τ_103.1 3)) from by rw [w3_τ38, g6_τ38]]; exact Y1
        have STt : j_l2 (τ38.2.1 6) (τ38.1 3) := by rw [show (j_l2 (τ38.2.1 6) (τ38.1 3)) = (j_l2 (τ_103.2.1 6) (τ_103.1 3)) from by rw [w3_τ38, g6_τ38]]; exact STt
        have A6 : ∀ j, (-1) ≤ τ38.2.1 6 j ∧ τ38.2.1 6 j ≤ 999 := fun j => hT.2 6 j
        have A8 : ∀ j, 0 ≤ τ38.2.1 8 j ∧ τ38.2.1 8 j ≤ 1 := fun j => hT.2 8 j
        have A10 : ∀ j, (-1) ≤ τ38.2.1 10 j ∧ τ38.2.1 10 j ≤ 999 := fun j => hT.2 10 j
        have A12 : ∀ j, 0 ≤ τ38.2.1 12 j ∧ τ38.2.1 12 j ≤ 1 := fun j => hT.2 12 j
        have A13 : ∀ j, 0 ≤ τ38.2.1 13 j ∧ τ38.2.1 13 j ≤ 4 := fun j => hT.2 13 j
        have A14 : ∀ j, 0 ≤ τ38.2.1 14 j ∧ τ38.2.1 14 j ≤ 30000 := fun j => hT.2 14 j
        have A15 : ∀ j, 0 ≤ τ38.2.1 15 j ∧ τ38.2.1 15 j ≤ 300 := fun j => hT.2 15 j
        have A16 : ∀ j, 0 ≤ τ38.2.1 16 j ∧ τ38.2.1 16 j ≤ 999 := fun j => hT.2 16 j
        have A17 : ∀ j, (-1) ≤ τ38.2.1 17 j ∧ τ38.2.1 17 j ≤ 1499 := fun j => hT.2 17 j
        have A18 : ∀ j, 0 ≤ τ38.2.1 18 j ∧ τ38.2.1 18 j ≤ 90000 := fun j => hT.2 18 j
        have A19 : ∀ j, 0 ≤ τ38.2.1 19 j ∧ τ38.2.1 19 j ≤ 60 := fun j => hT.2 19 j
        have A20 : ∀ j, 0 ≤ τ38.2.1 20 j ∧ τ38.2.1 20 j ≤ 1499 := fun j => hT.2 20 j
        have A86 : ∀ j, (-1500) ≤ τ38.2.1 86 j ∧ τ38.2.1 86 j ≤ 1499 := fun j => hT.2 86 j
        have A87 : ∀ j, 0 ≤ τ38.2.1 87 j ∧ τ38.2.1 87 j ≤ 120000 := fun j => hT.2 87 j
        have A88 : ∀ j, 0 ≤ τ38.2.1 88 j ∧ τ38.2.1 88 j ≤ 59 := fun j => hT.2 88 j
        have A89 : ∀ j, 0 ≤ τ38.2.1 89 j ∧ τ38.2.1 89 j ≤ 59 := fun j => hT.2 89 j
        have A90 : ∀ j, (-1) ≤ τ38.2.1 90 j ∧ τ38.2.1 90 j ≤ 99 := fun j => hT.2 90 j
        have A91 : ∀ j, 0 ≤ τ38.2.1 91 j ∧ τ38.2.1 91 j ≤ 60000 := fun j => hT.2 91 j
        have A94 : ∀ j, (-1) ≤ τ38.2.1 94 j ∧ τ38.2.1 94 j ≤ 2 := fun j => hT.2 94 j
        have A95 : ∀ j, (-9) ≤ τ38.2.1 95 j ∧ τ38.2.1 95 j ≤ 1499 := fun j => hT.2 95 j
        have A103 : ∀ j, 0 ≤ τ38.2.1 103 j ∧ τ38.2.1 103 j ≤ 999 := fun j => hT.2 103 j
        have A104 : ∀ j, (-1) ≤ τ38.2.1 104 j ∧ τ38.2.1 104 j ≤ 59 := fun j => hT.2 104 j
        have v0 : 0 ≤ τ38.1 0 ∧ τ38.1 0 ≤ 60000 := hT.1 0
        have v1 : 0 ≤ τ38.1 1 ∧ τ38.1 1 ≤ 1 := hT.1 1
        have v3 : 0 ≤ τ38.1 3 ∧ τ38.1 3 ≤ 1000 := hT.1 3
        have v4 : 0 ≤ τ38.1 4 ∧ τ38.1 4 ≤ 100 := hT.1 4
        have v5 : 0 ≤ τ38.1 5 ∧ τ38.1 5 ≤ 1500 := hT.1 5
        have v10 : (-1) ≤ τ38.1 10 ∧ τ38.1 10 ≤ 999 := hT.1 10
        have v11 : (-1) ≤ τ38.1 11 ∧ τ38.1 11 ≤ 999 := hT.1 11
        have v45 : 0 ≤ τ38.1 45 ∧ τ38.1 45 ≤ 59 := hT.1 45
        have v48 : 0 ≤ τ38.1 48 ∧ τ38.1 48 ≤ 1500 := hT.1 48
        have v49 : 0 ≤ τ38.1 49 ∧ τ38.1 49 ≤ 1 := hT.1 49
        have v50 : 0 ≤ τ38.1 50 ∧ τ38.1 50 ≤ 1500 := hT.1 50
        have v51 : 0 ≤ τ38.1 51 ∧ τ38.1 51 ≤ 60000 := hT.1 51
        have v52 : 0 ≤ τ38.1 52 ∧ τ38.1 52 ≤ 120000 := hT.1 52
        have BI38 := y_BI_g i103_1 hTf hf_τ38 rfl rfl rfl
        refine ⟨fun c39 => ?_, fun c39 => ?_⟩
        ·
          have hT38 := hT
          refine ⟨_, K_X13_tellHyps hT (show 0 ≤ n1 from by (first | omega | (simp only [st_s] <;> omega) | assumption | omega | fail)) (show n1 < 1500 from by (first | omega | (simp only [st_s] <;> omega) | assumption | omega | fail)), ?_⟩
          intro x41 τ42 r_x41 hn_τ42 hf_τ42 hq
          replace hT := hq
          have w0_τ42 : τ42.1 0 = τ38.1 0 := hf_τ42.1 0 (by decide)
          have w1_τ42 : τ42.1 1 = τ38.1 1 := hf_τ42.1 1 (by decide)
          have w3_τ42 : τ42.1 3 = τ38.1 3 := hf_τ42.1 3 (by decide)
          have w4_τ42 : τ42.1 4 = τ38.1 4 := hf_τ42.1 4 (by decide)
          have w5_τ42 : τ42.1 5 = τ38.1 5 := hf_τ42.1 5 (by decide)
          have w10_τ42 : τ42.1 10 = τ38.1 10 := hf_τ42.1 10 (by decide)
          have w11_τ42 : τ42.1 11 = τ38.1 11 := hf_τ42.1 11 (by decide)
          have w45_τ42 : τ42.1 45 = τ38.1 45 := hf_τ42.1 45 (by decide)
          have w48_τ42 : τ42.1 48 = τ38.1 48 := hf_τ42.1 48 (by decide)
          have w49_τ42 : τ42.1 49 = τ38.1 49 := hf_τ42.1 49 (by decide)
          have w50_τ42 : τ42.1 50 = τ38.1 50 := hf_τ42.1 50 (by decide)
          have w51_τ42 : τ42.1 51 = τ38.1 51 := hf_τ42.1 51 (by decide)
          have w52_τ42 : τ42.1 52 = τ38.1 52 := hf_τ42.1 52 (by decide)
          have g6_τ42 : τ42.2.1 6 = τ38.2.1 6 := hf_τ42.2.1 6 (by decide)
          have g8_τ42 : τ42.2.1 8 = τ38.2.1 8 := hf_τ42.2.1 8 (by decide)
          have g10_τ42 : τ42.2.1 10 = τ38.2.1 10 := hf_τ42.2.1 10 (by decide)
          have g12_τ42 : τ42.2.1 12 = τ38.2.1 12 := hf_τ42.2.1 12 (by decide)
          have g13_τ42 : τ42.2.1 13 = τ38.2.1 13 := hf_τ42.2.1 13 (by decide)
          have g14_τ42 : τ42.2.1 14 = τ38.2.1 14 := hf_τ42.2.1 14 (by decide)
          have g15_τ42 : τ42.2.1 15 = τ38.2.1 15 := hf_τ42.2.1 15 (by decide)
          have g16_τ42 : τ42.2.1 16 = τ38.2.1 16 := hf_τ42.2.1 16 (by decide)
          have g17_τ42 : τ42.2.1 17 = τ38.2.1 17 := hf_τ42.2.1 17 (by decide)
          have g18_τ42 : τ42.2.1 18 = τ38.2.1 18 := hf_τ42.2.1 18 (by decide)
          have g19_τ42 : τ42.2.1 19 = τ38.2.1 19 := hf_τ42.2.1 19 (by decide)
          have g20_τ42 : τ42.2.1 20 = τ38.2.1 20 := hf_τ42.2.1 20 (by decide)
          have g86_τ42 : τ42.2.1 86 = τ38.2.1 86 := hf_τ42.2.1 86 (by decide)
          have g87_τ42 : τ42.2.1 87 = τ38.2.1 87 := hf_τ42.2.1 87 (by decide)
          have g88_τ42 : τ42.2.1 88 = τ38.2.1 88 := hf_τ42.2.1 88 (by decide)
          have g89_τ42 : τ42.2.1 89 = τ38.2.1 89 := hf_τ42.2.1 89 (by decide)
          have g90_τ42 : τ42.2.1 90 = τ38.2.1 90 := hf_τ42.2.1 90 (by decide)
          have g91_τ42 : τ42.2.1 91 = τ38.2.1 91 := hf_τ42.2.1 91 (by decide)
          have g94_τ42 : τ42.2.1 94 = τ38.2.1 94 := hf_τ42.2.1 94 (by decide)
          have g95_τ42 : τ42.2.1 95 = τ38.2.1 95 := hf_τ42.2.1 95 (by decide)
          have g103_τ42 : τ42.2.1 103 = τ38.2.1 103 := hf_τ42.2.1 103 (by decide)
          have g104_τ42 : τ42.2.1 104 = τ38.2.1 104 := hf_τ42.2.1 104 (by decide)
          first | (have o6_τ42 := congrArg oc g6_τ42) | skip
          have W3 : τ42.1 3 = σ.1 3 := by first | exact w3_τ42.trans W3 | omega
          have W4 : τ42.1 4 = σ.1 4 := by first | exact w4_τ42.trans W4 | omega
          have W5 : τ42.1 5 = σ.1 5 := by first | exact w5_τ42.trans W5 | omega
          have W10 : τ42.1 10 = σ.1 10 := by first | exact w10_τ42.trans W10 | omega
          have W11 : τ42.1 11 = σ.1 11 := by first | exact w11_τ42.trans W11 | omega
          have G6 : τ42.2.1 6 = σ.2.1 6 := (g6_τ42).trans G6
          have G8 : τ42.2.1 8 = σ.2.1 8 := (g8_τ42).trans G8
          have G10 : τ42.2.1 10 = σ.2.1 10 := (g10_τ42).trans G10
          have G12 : τ42.2.1 12 = σ.2.1 12 := (g12_τ42).trans G12
          have G13 : τ42.2.1 13 = σ.2.1 13 := (g13_τ42).trans G13
          have G14 : τ42.2.1 14 = σ.2.1 14 := (g14_τ42).trans G14
          have G15 : τ42.2.1 15 = σ.2.1 15 := (g15_τ42).trans G15
          have G16 : τ42.2.1 16 = σ.2.1 16 := (g16_τ42).trans G16
          have G17 : τ42.2.1 17 = σ.2.1 17 := (g17_τ42).trans G17
          have G18 : τ42.2.1 18 = σ.2.1 18 := (g18_τ42).trans G18
          have G19 : τ42.2.1 19 = σ.2.1 19 := (g19_τ42).trans G19
          have G20 : τ42.2.1 20 = σ.2.1 20 := (g20_τ42).trans G20
          have G95 : τ42.2.1 95 = σ.2.1 95 := (g95_τ42).trans G95
          have Y20 : ca (τ42.2.1 12) ((τ42.1 3)) ≤ (τ42.1 4) := by rw [show (ca (τ42.2.1 12) ((τ42.1 3)) ≤ (τ42.1 4)) = (ca (τ38.2.1 12) ((τ38.1 3)) ≤ (τ38.1 4)) from by rw [w3_τ42, w4_τ42, g12_τ42]]; exact Y20
          have Y1 : j_l2 (τ42.2.1 6) (τ42.1 3) := by rw [show (j_l2 (τ42.2.1 6) (τ42.1 3)) = (j_l2 (τ38.2.1 6) (τ38.1 3)) from by rw [w3_τ42, g6_τ42]]; exact Y1
          have STt : j_l2 (τ42.2.1 6) (τ42.1 3) := by rw [show (j_l2 (τ42.2.1 6) (τ42.1 3)) = (j_l2 (τ38.2.1 6) (τ38.1 3)) from by rw [w3_τ42, g6_τ42]]; exact STt
          have A6 : ∀ j, (-1) ≤ τ42.2.1 6 j ∧ τ42.2.1 6 j ≤ 999 := fun j => hT.2 6 j
          have A8 : ∀ j, 0 ≤ τ42.2.1 8 j ∧ τ42.2.1 8 j ≤ 1 := fun j => hT.2 8 j
          have A10 : ∀ j, (-1) ≤ τ42.2.1 10 j ∧ τ42.2.1 10 j ≤ 999 := fun j => hT.2 10 j
          have A12 : ∀ j, 0 ≤ τ42.2.1 12 j ∧ τ42.2.1 12 j ≤ 1 := fun j => hT.2 12 j
          have A13 : ∀ j, 0 ≤ τ42.2.1 13 j ∧ τ42.2.1 13 j ≤ 4 := fun j => hT.2 13 j
          have A14 : ∀ j, 0 ≤ τ42.2.1 14 j ∧ τ42.2.1 14 j ≤ 30000 := fun j => hT.2 14 j
          have A15 : ∀ j, 0 ≤ τ42.2.1 15 j ∧ τ42.2.1 15 j ≤ 300 := fun j => hT.2 15 j
          have A16 : ∀ j, 0 ≤ τ42.2.1 16 j ∧ τ42.2.1 16 j ≤ 999 := fun j => hT.2 16 j
          have A17 : ∀ j, (-1) ≤ τ42.2.1 17 j ∧ τ42.2.1 17 j ≤ 1499 := fun j => hT.2 17 j
          have A18 : ∀ j, 0 ≤ τ42.2.1 18 j ∧ τ42.2.1 18 j ≤ 90000 := fun j => hT.2 18 j
          have A19 : ∀ j, 0 ≤ τ42.2.1 19 j ∧ τ42.2.1 19 j ≤ 60 := fun j => hT.2 19 j
          have A20 : ∀ j, 0 ≤ τ42.2.1 20 j ∧ τ42.2.1 20 j ≤ 1499 := fun j => hT.2 20 j
          have A86 : ∀ j, (-1500) ≤ τ42.2.1 86 j ∧ τ42.2.1 86 j ≤ 1499 := fun j => hT.2 86 j
          have A87 : ∀ j, 0 ≤ τ42.2.1 87 j ∧ τ42.2.1 87 j ≤ 120000 := fun j => hT.2 87 j
          have A88 : ∀ j, 0 ≤ τ42.2.1 88 j ∧ τ42.2.1 88 j ≤ 59 := fun j => hT.2 88 j
          have A89 : ∀ j, 0 ≤ τ42.2.1 89 j ∧ τ42.2.1 89 j ≤ 59 := fun j => hT.2 89 j
          have A90 : ∀ j, (-1) ≤ τ42.2.1 90 j ∧ τ42.2.1 90 j ≤ 99 := fun j => hT.2 90 j
          have A91 : ∀ j, 0 ≤ τ42.2.1 91 j ∧ τ42.2.1 91 j ≤ 60000 := fun j => hT.2 91 j
          have A94 : ∀ j, (-1) ≤ τ42.2.1 94 j ∧ τ42.2.1 94 j ≤ 2 := fun j => hT.2 94 j
          have A95 : ∀ j, (-9) ≤ τ42.2.1 95 j ∧ τ42.2.1 95 j ≤ 1499 := fun j => hT.2 95 j
          have A103 : ∀ j, 0 ≤ τ42.2.1 103 j ∧ τ42.2.1 103 j ≤ 999 := fun j => hT.2 103 j
          have A104 : ∀ j, (-1) ≤ τ42.2.1 104 j ∧ τ42.2.1 104 j ≤ 59 := fun j => hT.2 104 j
          have v0 : 0 ≤ τ42.1 0 ∧ τ42.1 0 ≤ 60000 := hT.1 0
          have v1 : 0 ≤ τ42.1 1 ∧ τ42.1 1 ≤ 1 := hT.1 1
          have v3 : 0 ≤ τ42.1 3 ∧ τ42.1 3 ≤ 1000 := hT.1 3
          have v4 : 0 ≤ τ42.1 4 ∧ τ42.1 4 ≤ 100 := hT.1 4
          have v5 : 0 ≤ τ42.1 5 ∧ τ42.1 5 ≤ 1500 := hT.1 5
          have v10 : (-1) ≤ τ42.1 10 ∧ τ42.1 10 ≤ 999 := hT.1 10
          have v11 : (-1) ≤ τ42.1 11 ∧ τ42.1 11 ≤ 999 := hT.1 11
          have v45 : 0 ≤ τ42.1 45 ∧ τ42.1 45 ≤ 59 := hT.1 45
          have v48 : 0 ≤ τ42.1 48 ∧ τ42.1 48 ≤ 1500 := hT.1 48
          have v49 : 0 ≤ τ42.1 49 ∧ τ42.1 49 ≤ 1 := hT.1 49
          have v50 : 0 ≤ τ42.1 50 ∧ τ42.1 50 ≤ 1500 := hT.1 50
          have v51 : 0 ≤ τ42.1 51 ∧ τ42.1 51 ≤ 60000 := hT.1 51
          have v52 : 0 ≤ τ42.1 52 ∧ τ42.1 52 ≤ 120000 := hT.1 52
          have BI42 := y_BI_g BI38 hT38 hf_τ42 rfl rfl rfl
          refine ⟨fun c43 => ?_, fun c43 => ?_⟩
          ·
            have hT42 := hT
            refine ⟨_, K_X13_keepDraft hT, ?_⟩
            intro x45 τ46 r_x45 hn_τ46 hf_τ46 hq
            replace hT := hq
            have w0_τ46 : τ46.1 0 = τ42.1 0 := hf_τ46.1 0 (by decide)
            have w1_τ46 : τ46.1 1 = τ42.1 1 := hf_τ46.1 1 (by decide)
            have w3_τ46 : τ46.1 3 = τ42.1 3 := hf_τ46.1 3 (by decide)
            have w4_τ46 : τ46.1 4 = τ42.1 4 := hf_τ46.1 4 (by decide)
            have w5_τ46 : τ46.1 5 = τ42.1 5 := hf_τ46.1 5 (by decide)
            have w10_τ46 : τ46.1 10 = τ42.1 10 := hf_τ46.1 10 (by decide)
            have w11_τ46 : τ46.1 11 = τ42.1 11 := hf_τ46.1 11 (by decide)
            have w45_τ46 : τ46.1 45 = τ42.1 45 := hf_τ46.1 45 (by decide)
            have w48_τ46 : τ46.1 48 = τ42.1 48 := hf_τ46.1 48 (by decide)
            have w49_τ46 : τ46.1 49 = τ42.1 49 := hf_τ46.1 49 (by decide)
            have w50_τ46 : τ46.1 50 = τ42.1 50 := hf_τ46.1 50 (by decide)
            have w51_τ46 : τ46.1 51 = τ42.1 51 := hf_τ46.1 51 (by decide)
            have w52_τ46 : τ46.1 52 = τ42.1 52 := hf_τ46.1 52 (by decide)
            have g6_τ46 : τ46.2.1 6 = τ42.2.1 6 := hf_τ46.2.1 6 (by decide)
            have g8_τ46 : τ46.2.1 8 = τ42.2.1 8 := hf_τ46.2.1 8 (by decide)
            have g10_τ46 : τ46.2.1 10 = τ42.2.1 10 := hf_τ46.2.1 10 (by decide)
            have g12_τ46 : τ46.2.1 12 = τ42.2.1 12 := hf_τ46.2.1 12 (by decide)
            have g13_τ46 : τ46.2.1 13 = τ42.2.1 13 := hf_τ46.2.1 13 (by decide)
            have g14_τ46 : τ46.2.1 14 = τ42.2.1 14 := hf_τ46.2.1 14 (by decide)
            have g15_τ46 : τ46.2.1 15 = τ42.2.1 15 := hf_τ46.2.1 15 (by decide)
            have g16_τ46 : τ46.2.1 16 = τ42.2.1 16 := hf_τ46.2.1 16 (by decide)
            have g17_τ46 : τ46.2.1 17 = τ42.2.1 17 := hf_τ46.2.1 17 (by decide)
            have g18_τ46 : τ46.2.1 18 = τ42.2.1 18 := hf_τ46.2.1 18 (by decide)
            have g19_τ46 : τ46.2.1 19 = τ42.2.1 19 := hf_τ46.2.1 19 (by decide)
            have g20_τ46 : τ46.2.1 20 = τ42.2.1 20 := hf_τ46.2.1 20 (by decide)
            have g86_τ46 : τ46.2.1 86 = τ42.2.1 86 := hf_τ46.2.1 86 (by decide)
            have g87_τ46 : τ46.2.1 87 = τ42.2.1 87 := hf_τ46.2.1 87 (by decide)
            have g88_τ46 : τ46.2.1 88 = τ42.2.1 88 := hf_τ46.2.1 88 (by decide)
            have g89_τ46 : τ46.2.1 89 = τ42.2.1 89 := hf_τ46.2.1 89 (by decide)
            have g90_τ46 : τ46.2.1 90 = τ42.2.1 90 := hf_τ46.2.1 90 (by decide)
            have g91_τ46 : τ46.2.1 91 = τ42.2.1 91 := hf_τ46.2.1 91 (by decide)
            have g94_τ46 : τ46.2.1 94 = τ42.2.1 94 := hf_τ46.2.1 94 (by decide)
            have g95_τ46 : τ46.2.1 95 = τ42.2.1 95 := hf_τ46.2.1 95 (by decide)
            have g103_τ46 : τ46.2.1 103 = τ42.2.1 103 := hf_τ46.2.1 103 (by decide)
            have g104_τ46 : τ46.2.1 104 = τ42.2.1 104 := hf_τ46.2.1 104 (by decide)
            first | (have o6_τ46 := congrArg oc g6_τ46) | skip
            have W3 : τ46.1 3 = σ.1 3 := by first | exact w3_τ46.trans W3 | omega
            have W4 : τ46.1 4 = σ.1 4 := by first | exact w4_τ46.trans W4 | omega
            have W5 : τ46.1 5 = σ.1 5 := by first | exact w5_τ46.trans W5 | omega
            have W10 : τ46.1 10 = σ.1 10 := by first | exact w10_τ46.trans W10 | omega
            have W11 : τ46.1 11 = σ.1 11 := by first | exact w11_τ46.trans W11 | omega
            have G6 : τ46.2.1 6 = σ.2.1 6 := (g6_τ46).trans G6
            have G8 : τ46.2.1 8 = σ.2.1 8 := (g8_τ46).trans G8
            have G10 : τ46.2.1 10 = σ.2.1 10 := (g10_τ46).trans G10
            have G12 : τ46.2.1 12 = σ.2.1 12 := (g12_τ46).trans G12
            have G13 : τ46.2.1 13 = σ.2.1 13 := (g13_τ46).trans G13
            have G14 : τ46.2.1 14 = σ.2.1 14 := (g14_τ46).trans G14
            have G15 : τ46.2.1 15 = σ.2.1 15 := (g15_τ46).trans G15
            have G16 : τ46.2.1 16 = σ.2.1 16 := (g16_τ46).trans G16
            have G17 : τ46.2.1 17 = σ.2.1 17 := (g17_τ46).trans G17
            have G18 : τ46.2.1 18 = σ.2.1 18 := (g18_τ46).trans G18
            have G19 : τ46.2.1 19 = σ.2.1 19 := (g19_τ46).trans G19
            have G20 : τ46.2.1 20 = σ.2.1 20 := (g20_τ46).trans G20
            have G95 : τ46.2.1 95 = σ.2.1 95 := (g95_τ46).trans G95
            have Y20 : ca (τ46.2.1 12) ((τ46.1 3)) ≤ (τ46.1 4) := by rw [show (ca (τ46.2.1 12) ((τ46.1 3)) ≤ (τ46.1 4)) = (ca (τ42.2.1 12) ((τ42.1 3)) ≤ (τ42.1 4)) from by rw [w3_τ46, w4_τ46, g12_τ46]]; exact Y20
            have Y1 : j_l2 (τ46.2.1 6) (τ46.1 3) := by rw [show (j_l2 (τ46.2.1 6) (τ46.1 3)) = (j_l2 (τ42.2.1 6) (τ42.1 3)) from by rw [w3_τ46, g6_τ46]]; exact Y1
            have STt : j_l2 (τ46.2.1 6) (τ46.1 3) := by rw [show (j_l2 (τ46.2.1 6) (τ46.1 3)) = (j_l2 (τ42.2.1 6) (τ42.1 3)) from by rw [w3_τ46, g6_τ46]]; exact STt
            have A6 : ∀ j, (-1) ≤ τ46.2.1 6 j ∧ τ46.2.1 6 j ≤ 999 := fun j => hT.2 6 j
            have A8 : ∀ j, 0 ≤ τ46.2.1 8 j ∧ τ46.2.1 8 j ≤ 1 := fun j => hT.2 8 j
            have A10 : ∀ j, (-1) ≤ τ46.2.1 10 j ∧ τ46.2.1 10 j ≤ 999 := fun j => hT.2 10 j
            have A12 : ∀ j, 0 ≤ τ46.2.1 12 j ∧ τ46.2.1 12 j ≤ 1 := fun j => hT.2 12 j
            have A13 : ∀ j, 0 ≤ τ46.2.1 13 j ∧ τ46.2.1 13 j ≤ 4 := fun j => hT.2 13 j
            have A14 : ∀ j, 0 ≤ τ46.2.1 14 j ∧ τ46.2.1 14 j ≤ 30000 := fun j => hT.2 14 j
            have A15 : ∀ j, 0 ≤ τ46.2.1 15 j ∧ τ46.2.1 15 j ≤ 300 := fun j => hT.2 15 j
            have A16 : ∀ j, 0 ≤ τ46.2.1 16 j ∧ τ46.2.1 16 j ≤ 999 := fun j => hT.2 16 j
            have A17 : ∀ j, (-1) ≤ τ46.2.1 17 j ∧ τ46.2.1 17 j ≤ 1499 := fun j => hT.2 17 j
            have A18 : ∀ j, 0 ≤ τ46.2.1 18 j ∧ τ46.2.1 18 j ≤ 90000 := fun j => hT.2 18 j
            have A19 : ∀ j, 0 ≤ τ46.2.1 19 j ∧ τ46.2.1 19 j ≤ 60 := fun j => hT.2 19 j
            have A20 : ∀ j, 0 ≤ τ46.2.1 20 j ∧ τ46.2.1 20 j ≤ 1499 := fun j => hT.2 20 j
            have A86 : ∀ j, (-1500) ≤ τ46.2.1 86 j ∧ τ46.2.1 86 j ≤ 1499 := fun j => hT.2 86 j
            have A87 : ∀ j, 0 ≤ τ46.2.1 87 j ∧ τ46.2.1 87 j ≤ 120000 := fun j => hT.2 87 j
            have A88 : ∀ j, 0 ≤ τ46.2.1 88 j ∧ τ46.2.1 88 j ≤ 59 := fun j => hT.2 88 j
            have A89 : ∀ j, 0 ≤ τ46.2.1 89 j ∧ τ46.2.1 89 j ≤ 59 := fun j => hT.2 89 j
            have A90 : ∀ j, (-1) ≤ τ46.2.1 90 j ∧ τ46.2.1 90 j ≤ 99 := fun j => hT.2 90 j
            have A91 : ∀ j, 0 ≤ τ46.2.1 91 j ∧ τ46.2.1 91 j ≤ 60000 := fun j => hT.2 91 j
            have A94 : ∀ j, (-1) ≤ τ46.2.1 94 j ∧ τ46.2.1 94 j ≤ 2 := fun j => hT.2 94 j
            have A95 : ∀ j, (-9) ≤ τ46.2.1 95 j ∧ τ46.2.1 95 j ≤ 1499 := fun j => hT.2 95 j
            have A103 : ∀ j, 0 ≤ τ46.2.1 103 j ∧ τ46.2.1 103 j ≤ 999 := fun j => hT.2 103 j
            have A104 : ∀ j, (-1) ≤ τ46.2.1 104 j ∧ τ46.2.1 104 j ≤ 59 := fun j => hT.2 104 j
            have v0 : 0 ≤ τ46.1 0 ∧ τ46.1 0 ≤ 60000 := hT.1 0
            have v1 : 0 ≤ τ46.1 1 ∧ τ46.1 1 ≤ 1 := hT.1 1
            have v3 : 0 ≤ τ46.1 3 ∧ τ46.1 3 ≤ 1000 := hT.1 3
            have v4 : 0 ≤ τ46.1 4 ∧ τ46.1 4 ≤ 100 := hT.1 4
            have v5 : 0 ≤ τ46.1 5 ∧ τ46.1 5 ≤ 1500 := hT.1 5
            have v10 : (-1) ≤ τ46.1 10 ∧ τ46.1 10 ≤ 999 := hT.1 10
            have v11 : (-1) ≤ τ46.1 11 ∧ τ46.1 11 ≤ 999 := hT.1 11
            have v45 : 0 ≤ τ46.1 45 ∧ τ46.1 45 ≤ 59 := hT.1 45
            have v48 : 0 ≤ τ46.1 48 ∧ τ46.1 48 ≤ 1500 := hT.1 48
            have v49 : 0 ≤ τ46.1 49 ∧ τ46.1 49 ≤ 1 := hT.1 49
            have v50 : 0 ≤ τ46.1 50 ∧ τ46.1 50 ≤ 1500 := hT.1 50
            have v51 : 0 ≤ τ46.1 51 ∧ τ46.1 51 ≤ 60000 := hT.1 51
            have v52 : 0 ≤ τ46.1 52 ∧ τ46.1 52 ≤ 120000 := hT.1 52
            have BI46 := y_BI_g BI42 hT42 hf_τ46 rfl rfl rfl
            refine ⟨fun c47 => ?_, fun c47 => ?_⟩
            ·
              exact ⟨hT, (show y_BI σ τ46 from by (first | exact BI6 | exact BI18 | exact BI26 | exact BI33 | exact BI38 | exact BI42 | exact BI46 | fail)), (show (τ46.1 0) = 0 ∧ (τ46.1 1) = 0 from by (first | omega | (simp only [st_s] <;> omega) | assumption | omega | fail))⟩
            ·
              exact ⟨hT, (show y_BI σ τ46 from by (first | exact BI6 | exact BI18 | exact BI26 | exact BI33 | exact BI38 | exact BI42 | exact BI46 | fail)), (show (τ46.1 0) = 0 ∧ (τ46.1 1) = 0 from by (first | omega | (simp only [st_s] <;> omega) | assumption | omega | fail))⟩
          ·
            exact ⟨hT, (show y_BI σ τ42 from by (first | exact BI6 | exact BI18 | exact BI26 | exact BI33 | exact BI38 | exact BI42 | exact BI46 | fail)), (show (τ42.1 0) = 0 ∧ (τ42.1 1) = 0 from by (first | omega | (simp only [st_s] <;> omega) | assumption | omega | fail))⟩
        ·
          exact ⟨hT, (show y_BI σ τ38 from by (first | exact BI6 | exact BI18 | exact BI26 | exact BI33 | exact BI38 | exact BI42 | exact BI46 | fail)), (show (τ38.1 0) = 0 ∧ (τ38.1 1) = 0 from by (first | omega | (simp only [st_s] <;> omega) | assumption | omega | fail))⟩
      ·
        have hTk := hT
        refine ⟨(show 0 ≤ u5_103 ∧ u5_103 < 1001 from by (first | omega | (simp only [st_s] <;> omega) | assumption | omega | fail)), ?_⟩
        replace hT := mT_a (k := 104) (j := u5_103) hT (show (-1 : Int) ≤ (-1) ∧ (-1) ≤ 59 from by (first | omega | (simp only [st_s] <;> omega) | assumption | omega | fail))
        refine ⟨(⟨by (first | omega | (simp only [st_s] <;> omega) | assumption | omega | fail), by (first | omega | (simp only [st_s] <;> omega) | assumption | omega | fail)⟩ : rg (u5_103 + 1)), ?_⟩
        exact ih_103 _ _ _ _ (show (1002 - (u5_103 + 1) : Int) < ((m_103 : Nat) : Int) from by ((first | omega | (simp only [st_s] <;> omega) | assumption | omega | fail))) hT (show τ_103.1 3 = σ.1 3 from by first | exact W3 | omega) (show τ_103.1 4 = σ.1 4 from by first | exact W4 | omega) (show τ_103.1 5 = σ.1 5 from by first | exact W5 | omega) (show τ_103.1 10 = σ.1 10 from by first | exact W10 | omega) (show τ_103.1 11 = σ.1 11 from by first | exact W11 | omega) G6 G8 G10 G12 G13 G14 G15 G16 G17 G18 G19 G20 G95 (show y_BI σ (s_a τ_103 104 u5_103 (-1)) from by (first | exact BI33 | exact y_BI_g i103_1 hTk (f_a f_0 (by simp) : f_r [] [104] [] _ _) rfl rfl rfl | fail)) (show (τ_103.1 0) = 0 ∧ (τ_103.1 1) = 0 from by (first | omega | (simp only [st_s] <;> omega) | assumption | omega | fail)) (show 0 ≤ (u5_103 + 1) ∧ (u5_103 + 1) ≤ (σ.1 3) from by (first | omega | (simp only [st_s] <;> omega) | assumption | omega | fail)) (show ∀ s : Int, 0 ≤ s → s < (u5_103 + 1) → (st (τ_103.2.1 104) u5_103 (-1)) s = -1 from by (first | (intro s a b; exfalso; omega) | (intro s a b; rcases (by omega : s < u5_103 ∨ s = u5_103) with y | y; (rw [st_n _ _ (by omega)]; exact i103_4 s a y); (rw [y, st_s])) | fail)) (show z_AP σ (s_a τ_103 104 u5_103 (-1)) u3_103 u4_103 from by (first | exact AP33 (by assumption) | exact i103_5 | fail)) (show 0 ≤ n1 ∧ n1 < 1500 from by (first | omega | (simp only [st_s] <;> omega) | assumption | omega | fail))
  refine ⟨_, K_X13_takeRow hT (show oc (σ.2.1 6) < 4096 from by (first | omega | (simp only [st_s] <;> omega) | assumption | omega | fail)) (show j_l2 (σ.2.1 6) (σ.1 3) from STt), ?_⟩
  intro x2 τ3 r_x2 hn_τ3 hf_τ3 hq
  obtain ⟨hT, q1_1, q1_2⟩ := hq
  replace q1_1 : x2 = -1 ∨ (1 ≤ x2 ∧ x2 ≤ 60000) := q1_1
  replace q1_2 : x2 = -1 ∨ ∀ k : Int, 0 ≤ k → k < x2 → k < 60 → τ3.2.1 103 k < (σ.1 3) := q1_2
  have w0_τ3 : τ3.1 0 = σ.1 0 := hf_τ3.1 0 (by decide)
  have w1_τ3 : τ3.1 1 = σ.1 1 := hf_τ3.1 1 (by decide)
  have w3_τ3 : τ3.1 3 = σ.1 3 := hf_τ3.1 3 (by decide)
  have w4_τ3 : τ3.1 4 = σ.1 4 := hf_τ3.1 4 (by decide)
  have w5_τ3 : τ3.1 5 = σ.1 5 := hf_τ3.1 5 (by decide)
  have w10_τ3 : τ3.1 10 = σ.1 10 := hf_τ3.1 10 (by decide)
  have w11_τ3 : τ3.1 11 = σ.1 11 := hf_τ3.1 11 (by decide)
  have w45_τ3 : τ3.1 45 = σ.1 45 := hf_τ3.1 45 (by decide)
  have w48_τ3 : τ3.1 48 = σ.1 48 := hf_τ3.1 48 (by decide)
  have w49_τ3 : τ3.1 49 = σ.1 49 := hf_τ3.1 49 (by decide)
  have w50_τ3 : τ3.1 50 = σ.1 50 := hf_τ3.1 50 (by decide)
  have w51_τ3 : τ3.1 51 = σ.1 51 := hf_τ3.1 51 (by decide)
  have w52_τ3 : τ3.1 52 = σ.1 52 := hf_τ3.1 52 (by decide)
  have g6_τ3 : τ3.2.1 6 = σ.2.1 6 := hf_τ3.2.1 6 (by decide)
  have g8_τ3 : τ3.2.1 8 = σ.2.1 8 := hf_τ3.2.1 8 (by decide)
  have g10_τ3 : τ3.2.1 10 = σ.2.1 10 := hf_τ3.2.1 10 (by decide)
  have g12_τ3 : τ3.2.1 12 = σ.2.1 12 := hf_τ3.2.1 12 (by decide)
  have g13_τ3 : τ3.2.1 13 = σ.2.1 13 := hf_τ3.2.1 13 (by decide)
  have g14_τ3 : τ3.2.1 14 = σ.2.1 14 := hf_τ3.2.1 14 (by decide)
  have g15_τ3 : τ3.2.1 15 = σ.2.1 15 := hf_τ3.2.1 15 (by decide)
  have g16_τ3 : τ3.2.1 16 = σ.2.1 16 := hf_τ3.2.1 16 (by decide)
  have g17_τ3 : τ3.2.1 17 = σ.2.1 17 := hf_τ3.2.1 17 (by decide)
  have g18_τ3 : τ3.2.1 18 = σ.2.1 18 := hf_τ3.2.1 18 (by decide)
  have g19_τ3 : τ3.2.1 19 = σ.2.1 19 := hf_τ3.2.1 19 (by decide)
  have g20_τ3 : τ3.2.1 20 = σ.2.1 20 := hf_τ3.2.1 20 (by decide)
  have g86_τ3 : τ3.2.1 86 = σ.2.1 86 := hf_τ3.2.1 86 (by decide)
  have g87_τ3 : τ3.2.1 87 = σ.2.1 87 := hf_τ3.2.1 87 (by decide)
  have g88_τ3 : τ3.2.1 88 = σ.2.1 88 := hf_τ3.2.1 88 (by decide)
  have g89_τ3 : τ3.2.1 89 = σ.2.1 89 := hf_τ3.2.1 89 (by decide)
  have g90_τ3 : τ3.2.1 90 = σ.2.1 90 := hf_τ3.2.1 90 (by decide)
  have g91_τ3 : τ3.2.1 91 = σ.2.1 91 := hf_τ3.2.1 91 (by decide)
  have g94_τ3 : τ3.2.1 94 = σ.2.1 94 := hf_τ3.2.1 94 (by decide)
  have g95_τ3 : τ3.2.1 95 = σ.2.1 95 := hf_τ3.2.1 95 (by decide)
  have g104_τ3 : τ3.2.1 104 = σ.2.1 104 := hf_τ3.2.1 104 (by decide)
  first | (have o6_τ3 := congrArg oc g6_τ3) | skip
  have W3 : τ3.1 3 = σ.1 3 := by first | exact w3_τ3.trans W3 | omega
  have W4 : τ3.1 4 = σ.1 4 := by first | exact w4_τ3.trans W4 | omega
  have W5 : τ3.1 5 = σ.1 5 := by first | exact w5_τ3.trans W5 | omega
  have W10 : τ3.1 10 = σ.1 10 := by first | exact w10_τ3.trans W10 | omega
  have W11 : τ3.1 11 = σ.1 11 := by first | exact w11_τ3.trans W11 | omega
  have G6 : τ3.2.1 6 = σ.2.1 6 := (g6_τ3).trans G6
  have G8 : τ3.2.1 8 = σ.2.1 8 := (g8_τ3).trans G8
  have G10 : τ3.2.1 10 = σ.2.1 10 := (g10_τ3).trans G10
  have G12 : τ3.2.1 12 = σ.2.1 12 := (g12_τ3).trans G12
  have G13 : τ3.2.1 13 = σ.2.1 13 := (g13_τ3).trans G13
  have G14 : τ3.2.1 14 = σ.2.1 14 := (g14_τ3).trans G14
  have G15 : τ3.2.1 15 = σ.2.1 15 := (g15_τ3).trans G15
  have G16 : τ3.2.1 16 = σ.2.1 16 := (g16_τ3).trans G16
  have G17 : τ3.2.1 17 = σ.2.1 17 := (g17_τ3).trans G17
  have G18 : τ3.2.1 18 = σ.2.1 18 := (g18_τ3).trans G18
  have G19 : τ3.2.1 19 = σ.2.1 19 := (g19_τ3).trans G19
  have G20 : τ3.2.1 20 = σ.2.1 20 := (g20_τ3).trans G20
  have G95 : τ3.2.1 95 = σ.2.1 95 := (g95_τ3).trans G95
  have Y20 : ca (τ3.2.1 12) ((τ3.1 3)) ≤ (τ3.1 4) := by rw [show (ca (τ3.2.1 12) ((τ3.1 3)) ≤ (τ3.1 4)) = (ca (σ.2.1 12) ((σ.1 3)) ≤ (σ.1 4)) from by rw [w3_τ3, w4_τ3, g12_τ3]]; exact Y20
  have Y1 : j_l2 (τ3.2.1 6) (τ3.1 3) := by rw [show (j_l2 (τ3.2.1 6) (τ3.1 3)) = (j_l2 (σ.2.1 6) (σ.1 3)) from by rw [w3_τ3, g6_τ3]]; exact Y1
  have STt : j_l2 (τ3.2.1 6) (τ3.1 3) := by rw [show (j_l2 (τ3.2.1 6) (τ3.1 3)) = (j_l2 (σ.2.1 6) (σ.1 3)) from by rw [w3_τ3, g6_τ3]]; exact STt
  have A6 : ∀ j, (-1) ≤ τ3.2.1 6 j ∧ τ3.2.1 6 j ≤ 999 := fun j => hT.2 6 j
  have A8 : ∀ j, 0 ≤ τ3.2.1 8 j ∧ τ3.2.1 8 j ≤ 1 := fun j => hT.2 8 j
  have A10 : ∀ j, (-1) ≤ τ3.2.1 10 j ∧ τ3.2.1 10 j ≤ 999 := fun j => hT.2 10 j
  have A12 : ∀ j, 0 ≤ τ3.2.1 12 j ∧ τ3.2.1 12 j ≤ 1 := fun j => hT.2 12 j
  have A13 : ∀ j, 0 ≤ τ3.2.1 13 j ∧ τ3.2.1 13 j ≤ 4 := fun j => hT.2 13 j
  have A14 : ∀ j, 0 ≤ τ3.2.1 14 j ∧ τ3.2.1 14 j ≤ 30000 := fun j => hT.2 14 j
  have A15 : ∀ j, 0 ≤ τ3.2.1 15 j ∧ τ3.2.1 15 j ≤ 300 := fun j => hT.2 15 j
  have A16 : ∀ j, 0 ≤ τ3.2.1 16 j ∧ τ3.2.1 16 j ≤ 999 := fun j => hT.2 16 j
  have A17 : ∀ j, (-1) ≤ τ3.2.1 17 j ∧ τ3.2.1 17 j ≤ 1499 := fun j => hT.2 17 j
  have A18 : ∀ j, 0 ≤ τ3.2.1 18 j ∧ τ3.2.1 18 j ≤ 90000 := fun j => hT.2 18 j
  have A19 : ∀ j, 0 ≤ τ3.2.1 19 j ∧ τ3.2.1 19 j ≤ 60 := fun j => hT.2 19 j
  have A20 : ∀ j, 0 ≤ τ3.2.1 20 j ∧ τ3.2.1 20 j ≤ 1499 := fun j => hT.2 20 j
  have A86 : ∀ j, (-1500) ≤ τ3.2.1 86 j ∧ τ3.2.1 86 j ≤ 1499 := fun j => hT.2 86 j
  have A87 : ∀ j, 0 ≤ τ3.2.1 87 j ∧ τ3.2.1 87 j ≤ 120000 := fun j => hT.2 87 j
  have A88 : ∀ j, 0 ≤ τ3.2.1 88 j ∧ τ3.2.1 88 j ≤ 59 := fun j => hT.2 88 j
  have A89 : ∀ j, 0 ≤ τ3.2.1 89 j ∧ τ3.2.1 89 j ≤ 59 := fun j => hT.2 89 j
  have A90 : ∀ j, (-1) ≤ τ3.2.1 90 j ∧ τ3.2.1 90 j ≤ 99 := fun j => hT.2 90 j
  have A91 : ∀ j, 0 ≤ τ3.2.1 91 j ∧ τ3.2.1 91 j ≤ 60000 := fun j => hT.2 91 j
  have A94 : ∀ j, (-1) ≤ τ3.2.1 94 j ∧ τ3.2.1 94 j ≤ 2 := fun j => hT.2 94 j
  have A95 : ∀ j, (-9) ≤ τ3.2.1 95 j ∧ τ3.2.1 95 j ≤ 1499 := fun j => hT.2 95 j
  have A103 : ∀ j, 0 ≤ τ3.2.1 103 j ∧ τ3.2.1 103 j ≤ 999 := fun j => hT.2 103 j
  have A104 : ∀ j, (-1) ≤ τ3.2.1 104 j ∧ τ3.2.1 104 j ≤ 59 := fun j => hT.2 104 j
  have v0 : 0 ≤ τ3.1 0 ∧ τ3.1 0 ≤ 60000 := hT.1 0
  have v1 : 0 ≤ τ3.1 1 ∧ τ3.1 1 ≤ 1 := hT.1 1
  have v3 : 0 ≤ τ3.1 3 ∧ τ3.1 3 ≤ 1000 := hT.1 3
  have v4 : 0 ≤ τ3.1 4 ∧ τ3.1 4 ≤ 100 := hT.1 4
  have v5 : 0 ≤ τ3.1 5 ∧ τ3.1 5 ≤ 1500 := hT.1 5
  have v10 : (-1) ≤ τ3.1 10 ∧ τ3.1 10 ≤ 999 := hT.1 10
  have v11 : (-1) ≤ τ3.1 11 ∧ τ3.1 11 ≤ 999 := hT.1 11
  have v45 : 0 ≤ τ3.1 45 ∧ τ3.1 45 ≤ 59 := hT.1 45
  have v48 : 0 ≤ τ3.1 48 ∧ τ3.1 48 ≤ 1500 := hT.1 48
  have v49 : 0 ≤ τ3.1 49 ∧ τ3.1 49 ≤ 1 := hT.1 49
  have v50 : 0 ≤ τ3.1 50 ∧ τ3.1 50 ≤ 1500 := hT.1 50
  have v51 : 0 ≤ τ3.1 51 ∧ τ3.1 51 ≤ 60000 := hT.1 51
  have v52 : 0 ≤ τ3.1 52 ∧ τ3.1 52 ≤ 120000 := hT.1 52
  have hT3 := hT
  refine ⟨_, K_X13_useTape hT, ?_⟩
  intro τ6 hn_τ6 hf_τ6 hq
  obtain ⟨hT, q4_1, q4_2⟩ := hq
  replace q4_1 : (τ6.1 0) = 0 := q4_1
  replace q4_2 : (τ6.1 1) = 0 := q4_2
  have w3_τ6 : τ6.1 3 = τ3.1 3 := hf_τ6.1 3 (by decide)
  have w4_τ6 : τ6.1 4 = τ3.1 4 := hf_τ6.1 4 (by decide)
  have w5_τ6 : τ6.1 5 = τ3.1 5 := hf_τ6.1 5 (by decide)
  have w10_τ6 : τ6.1 10 = τ3.1 10 := hf_τ6.1 10 (by decide)
  have w11_τ6 : τ6.1 11 = τ3.1 11 := hf_τ6.1 11 (by decide)
  have w45_τ6 : τ6.1 45 = τ3.1 45 := hf_τ6.1 45 (by decide)
  have w48_τ6 : τ6.1 48 = τ3.1 48 := hf_τ6.1 48 (by decide)
  have w49_τ6 : τ6.1 49 = τ3.1 49 := hf_τ6.1 49 (by decide)
  have w50_τ6 : τ6.1 50 = τ3.1 50 := hf_τ6.1 50 (by decide)
  have w51_τ6 : τ6.1 51 = τ3.1 51 := hf_τ6.1 51 (by decide)
  have w52_τ6 : τ6.1 52 = τ3.1 52 := hf_τ6.1 52 (by decide)
  have g6_τ6 : τ6.2.1 6 = τ3.2.1 6 := hf_τ6.2.1 6 (by decide)
  have g8_τ6 : τ6.2.1 8 = τ3.2.1 8 := hf_τ6.2.1 8 (by decide)
  have g10_τ6 : τ6.2.1 10 = τ3.2.1 10 := hf_τ6.2.1 10 (by decide)
  have g12_τ6 : τ6.2.1 12 = τ3.2.1 12 := hf_τ6.2.1 12 (by decide)
  have g13_τ6 : τ6.2.1 13 = τ3.2.1 13 := hf_τ6.2.1 13 (by decide)
  have g14_τ6 : τ6.2.1 14 = τ3.2.1 14 := hf_τ6.2.1 14 (by decide)
  have g15_τ6 : τ6.2.1 15 = τ3.2.1 15 := hf_τ6.2.1 15 (by decide)
  have g16_τ6 : τ6.2.1 16 = τ3.2.1 16 := hf_τ6.2.1 16 (by decide)
  have g17_τ6 : τ6.2.1 17 = τ3.2.1 17 := hf_τ6.2.1 17 (by decide)
  have g18_τ6 : τ6.2.1 18 = τ3.2.1 18 := hf_τ6.2.1 18 (by decide)
  have g19_τ6 : τ6.2.1 19 = τ3.2.1 19 := hf_τ6.2.1 19 (by decide)
  have g20_τ6 : τ6.2.1 20 = τ3.2.1 20 := hf_τ6.2.1 20 (by decide)
  have g86_τ6 : τ6.2.1 86 = τ3.2.1 86 := hf_τ6.2.1 86 (by decide)
  have g87_τ6 : τ6.2.1 87 = τ3.2.1 87 := hf_τ6.2.1 87 (by decide)
  have g88_τ6 : τ6.2.1 88 = τ3.2.1 88 := hf_τ6.2.1 88 (by decide)
  have g89_τ6 : τ6.2.1 89 = τ3.2.1 89 := hf_τ6.2.1 89 (by decide)
  have g90_τ6 : τ6.2.1 90 = τ3.2.1 90 := hf_τ6.2.1 90 (by decide)
  have g91_τ6 : τ6.2.1 91 = τ3.2.1 91 := hf_τ6.2.1 91 (by decide)
  have g94_τ6 : τ6.2.1 94 = τ3.2.1 94 := hf_τ6.2.1 94 (by decide)
  have g95_τ6 : τ6.2.1 95 = τ3.2.1 95 := hf_τ6.2.1 95 (by decide)
  have g103_τ6 : τ6.2.1 103 = τ3.2.1 103 := hf_τ6.2.1 103 (by decide)
  have g104_τ6 : τ6.2.1 104 = τ3.2.1 104 := hf_τ6.2.1 104 (by decide)
  first | (have o6_τ6 := congrArg oc g6_τ6) | skip
  have W3 : τ6.1 3 = σ.1 3 := by first | exact w3_τ6.trans W3 | omega
  have W4 : τ6.1 4 = σ.1 4 := by first | exact w4_τ6.trans W4 | omega
  have W5 : τ6.1 5 = σ.1 5 := by first | exact w5_τ6.trans W5 | omega
  have W10 : τ6.1 10 = σ.1 10 := by first | exact w10_τ6.trans W10 | omega
  have W11 : τ6.1 11 = σ.1 11 := by first | exact w11_τ6.trans W11 | omega
  have G6 : τ6.2.1 6 = σ.2.1 6 := (g6_τ6).trans G6
  have G8 : τ6.2.1 8 = σ.2.1 8 := (g8_τ6).trans G8
  have G10 : τ6.2.1 10 = σ.2.1 10 := (g10_τ6).trans G10
  have G12 : τ6.2.1 12 = σ.2.1 12 := (g12_τ6).trans G12
  have G13 : τ6.2.1 13 = σ.2.1 13 := (g13_τ6).trans G13
  have G14 : τ6.2.1 14 = σ.2.1 14 := (g14_τ6).trans G14
  have G15 : τ6.2.1 15 = σ.2.1 15 := (g15_τ6).trans G15
  have G16 : τ6.2.1 16 = σ.2.1 16 := (g16_τ6).trans G16
  have G17 : τ6.2.1 17 = σ.2.1 17 := (g17_τ6).trans G17
  have G18 : τ6.2.1 18 = σ.2.1 18 := (g18_τ6).trans G18
  have G19 : τ6.2.1 19 = σ.2.1 19 := (g19_τ6).trans G19
  have G20 : τ6.2.1 20 = σ.2.1 20 := (g20_τ6).trans G20
  have G95 : τ6.2.1 95 = σ.2.1 95 := (g95_τ6).trans G95
  have Y20 : ca (τ6.2.1 12) ((τ6.1 3)) ≤ (τ6.1 4) := by rw [show (ca (τ6.2.1 12) ((τ6.1 3)) ≤ (τ6.1 4)) = (ca (τ3.2.1 12) ((τ3.1 3)) ≤ (τ3.1 4)) from by rw [w3_τ6, w4_τ6, g12_τ6]]; exact Y20
  have Y1 : j_l2 (τ6.2.1 6) (τ6.1 3) := by rw [show (j_l2 (τ6.2.1 6) (τ6.1 3)) = (j_l2 (τ3.2.1 6) (τ3.1 3)) from by rw [w3_τ6, g6_τ6]]; exact Y1
  have STt : j_l2 (τ6.2.1 6) (τ6.1 3) := by rw [show (j_l2 (τ6.2.1 6) (τ6.1 3)) = (j_l2 (τ3.2.1 6) (τ3.1 3)) from by rw [w3_τ6, g6_τ6]]; exact STt
  have A6 : ∀ j, (-1) ≤ τ6.2.1 6 j ∧ τ6.2.1 6 j ≤ 999 := fun j => hT.2 6 j
  have A8 : ∀ j, 0 ≤ τ6.2.1 8 j ∧ τ6.2.1 8 j ≤ 1 := fun j => hT.2 8 j
  have A10 : ∀ j, (-1) ≤ τ6.2.1 10 j ∧ τ6.2.1 10 j ≤ 999 := fun j => hT.2 10 j
  have A12 : ∀ j, 0 ≤ τ6.2.1 12 j ∧ τ6.2.1 12 j ≤ 1 := fun j => hT.2 12 j
  have A13 : ∀ j, 0 ≤ τ6.2.1 13 j ∧ τ6.2.1 13 j ≤ 4 := fun j => hT.2 13 j
  have A14 : ∀ j, 0 ≤ τ6.2.1 14 j ∧ τ6.2.1 14 j ≤ 30000 := fun j => hT.2 14 j
  have A15 : ∀ j, 0 ≤ τ6.2.1 15 j ∧ τ6.2.1 15 j ≤ 300 := fun j => hT.2 15 j
  have A16 : ∀ j, 0 ≤ τ6.2.1 16 j ∧ τ6.2.1 16 j ≤ 999 := fun j => hT.2 16 j
  have A17 : ∀ j, (-1) ≤ τ6.2.1 17 j ∧ τ6.2.1 17 j ≤ 1499 := fun j => hT.2 17 j
  have A18 : ∀ j, 0 ≤ τ6.2.1 18 j ∧ τ6.2.1 18 j ≤ 90000 := fun j => hT.2 18 j
  have A19 : ∀ j, 0 ≤ τ6.2.1 19 j ∧ τ6.2.1 19 j ≤ 60 := fun j => hT.2 19 j
  have A20 : ∀ j, 0 ≤ τ6.2.1 20 j ∧ τ6.2.1 20 j ≤ 1499 := fun j => hT.2 20 j
  have A86 : ∀ j, (-1500) ≤ τ6.2.1 86 j ∧ τ6.2.1 86 j ≤ 1499 := fun j => hT.2 86 j
  have A87 : ∀ j, 0 ≤ τ6.2.1 87 j ∧ τ6.2.1 87 j ≤ 120000 := fun j => hT.2 87 j
  have A88 : ∀ j, 0 ≤ τ6.2.1 88 j ∧ τ6.2.1 88 j ≤ 59 := fun j => hT.2 88 j
  have A89 : ∀ j, 0 ≤ τ6.2.1 89 j ∧ τ6.2.1 89 j ≤ 59 := fun j => hT.2 89 j
  have A90 : ∀ j, (-1) ≤ τ6.2.1 90 j ∧ τ6.2.1 90 j ≤ 99 := fun j => hT.2 90 j
  have A91 : ∀ j, 0 ≤ τ6.2.1 91 j ∧ τ6.2.1 91 j ≤ 60000 := fun j => hT.2 91 j
  have A94 : ∀ j, (-1) ≤ τ6.2.1 94 j ∧ τ6.2.1 94 j ≤ 2 := fun j => hT.2 94 j
  have A95 : ∀ j, (-9) ≤ τ6.2.1 95 j ∧ τ6.2.1 95 j ≤ 1499 := fun j => hT.2 95 j
  have A103 : ∀ j, 0 ≤ τ6.2.1 103 j ∧ τ6.2.1 103 j ≤ 999 := fun j => hT.2 103 j
  have A104 : ∀ j, (-1) ≤ τ6.2.1 104 j ∧ τ6.2.1 104 j ≤ 59 := fun j => hT.2 104 j
  have v0 : 0 ≤ τ6.1 0 ∧ τ6.1 0 ≤ 60000 := hT.1 0
  have v1 : 0 ≤ τ6.1 1 ∧ τ6.1 1 ≤ 1 := hT.1 1
  have v3 : 0 ≤ τ6.1 3 ∧ τ6.1 3 ≤ 1000 := hT.1 3
  have v4 : 0 ≤ τ6.1 4 ∧ τ6.1 4 ≤ 100 := hT.1 4
  have v5 : 0 ≤ τ6.1 5 ∧ τ6.1 5 ≤ 1500 := hT.1 5
  have v10 : (-1) ≤ τ6.1 10 ∧ τ6.1 10 ≤ 999 := hT.1 10
  have v11 : (-1) ≤ τ6.1 11 ∧ τ6.1 11 ≤ 999 := hT.1 11
  have v45 : 0 ≤ τ6.1 45 ∧ τ6.1 45 ≤ 59 := hT.1 45
  have v48 : 0 ≤ τ6.1 48 ∧ τ6.1 48 ≤ 1500 := hT.1 48
  have v49 : 0 ≤ τ6.1 49 ∧ τ6.1 49 ≤ 1 := hT.1 49
  have v50 : 0 ≤ τ6.1 50 ∧ τ6.1 50 ≤ 1500 := hT.1 50
  have v51 : 0 ≤ τ6.1 51 ∧ τ6.1 51 ≤ 60000 := hT.1 51
  have v52 : 0 ≤ τ6.1 52 ∧ τ6.1 52 ≤ 120000 := hT.1 52
  have BI6 := y_BI_g (y_BI_g p4 hT0 hf_τ3 rfl rfl rfl) hT3 hf_τ6 rfl rfl rfl
  refine ⟨_, K_X13_isAssertion hT (show -2147483648 ≤ n1 ∧ n1 ≤ 2147483647 from by (first | omega | (simp only [st_s] <;> omega) | assumption | omega | fail)), ?_⟩
  intro x8 r_x8 hq
  obtain ⟨q7_1, q7_2⟩ := hq
  replace q7_1 : 0 ≤ x8 ∧ x8 ≤ 1 := q7_1
  replace q7_2 : ¬ x8 = 0 → 0 ≤ n1 ∧ n1 < (τ6.1 5) ∧ 2 ≤ τ6.2.1 13 n1 := q7_2
  refine ⟨fun c10 => ?_, fun c10 => ?_⟩
  ·
    exact ⟨hT, (show y_BI σ τ6 from by (first | exact BI6 | exact BI18 | exact BI26 | exact BI33 | exact BI38 | exact BI42 | exact BI46 | fail)), (show (τ6.1 0) = 0 ∧ (τ6.1 1) = 0 from by (first | omega | (simp only [st_s] <;> omega) | assumption | omega | fail))⟩
  ·
    refine ⟨fun c11 => ?_, fun c11 => ?_⟩
    ·
      refine ⟨fun c12 => ?_, fun c12 => ?_⟩
      ·
        exact ⟨hT, (show y_BI σ τ6 from by (first | exact BI6 | exact BI18 | exact BI26 | exact BI33 | exact BI38 | exact BI42 | exact BI46 | fail)), (show (τ6.1 0) = 0 ∧ (τ6.1 1) = 0 from by (first | omega | (simp only [st_s] <;> omega) | assumption | omega | fail))⟩
      ·
        refine ⟨(show 0 ≤ n1 ∧ n1 < 1501 from by (first | omega | (simp only [st_s] <;> omega) | assumption | omega | fail)), ?_⟩
        intro x14 r_x14 e_x14
        have b_x14 : 0 ≤ x14 ∧ x14 ≤ 300 := by rw [e_x14]; exact hT.2 15 _
        refine ⟨fun c15 => ?_, fun c15 => ?_⟩
        ·
          have hT6 := hT
          have as8 := q7_2 (by omega)
          refine ⟨_, K_X13_beginTrees hT, ?_⟩
          intro τ18 hn_τ18 hf_τ18 hq
          obtain ⟨hT, q16_1, q16_2⟩ := hq
          replace q16_1 : (τ18.1 51) = 0 := q16_1
          replace q16_2 : (τ18.1 52) = 0 := q16_2
          have w0_τ18 : τ18.1 0 = τ6.1 0 := hf_τ18.1 0 (by decide)
          have w1_τ18 : τ18.1 1 = τ6.1 1 := hf_τ18.1 1 (by decide)
          have w3_τ18 : τ18.1 3 = τ6.1 3 := hf_τ18.1 3 (by decide)
          have w4_τ18 : τ18.1 4 = τ6.1 4 := hf_τ18.1 4 (by decide)
          have w5_τ18 : τ18.1 5 = τ6.1 5 := hf_τ18.1 5 (by decide)
          have w10_τ18 : τ18.1 10 = τ6.1 10 := hf_τ18.1 10 (by decide)
          have w11_τ18 : τ18.1 11 = τ6.1 11 := hf_τ18.1 11 (by decide)
          have w45_τ18 : τ18.1 45 = τ6.1 45 := hf_τ18.1 45 (by decide)
          have w48_τ18 : τ18.1 48 = τ6.1 48 := hf_τ18.1 48 (by decide)
          have w49_τ18 : τ18.1 49 = τ6.1 49 := hf_τ18.1 49 (by decide)
          have w50_τ18 : τ18.1 50 = τ6.1 50 := hf_τ18.1 50 (by decide)
          have g6_τ18 : τ18.2.1 6 = τ6.2.1 6 := hf_τ18.2.1 6 (by decide)
          have g8_τ18 : τ18.2.1 8 = τ6.2.1 8 := hf_τ18.2.1 8 (by decide)
          have g10_τ18 : τ18.2.1 10 = τ6.2.1 10 := hf_τ18.2.1 10 (by decide)
          have g12_τ18 : τ18.2.1 12 = τ6.2.1 12 := hf_τ18.2.1 12 (by decide)
          have g13_τ18 : τ18.2.1 13 = τ6.2.1 13 := hf_τ18.2.1 13 (by decide)
          have g14_τ18 : τ18.2.1 14 = τ6.2.1 14 := hf_τ18.2.1 14 (by decide)
          have g15_τ18 : τ18.2.1 15 = τ6.2.1 15 := hf_τ18.2.1 15 (by decide)
          have g16_τ18 : τ18.2.1 16 = τ6.2.1 16 := hf_τ18.2.1 16 (by decide)
          have g17_τ18 : τ18.2.1 17 = τ6.2.1 17 := hf_τ18.2.1 17 (by decide)
          have g18_τ18 : τ18.2.1 18 = τ6.2.1 18 := hf_τ18.2.1 18 (by decide)
          have g19_τ18 : τ18.2.1 19 = τ6.2.1 19 := hf_τ18.2.1 19 (by decide)
          have g20_τ18 : τ18.2.1 20 = τ6.2.1 20 := hf_τ18.2.1 20 (by decide)
          have g86_τ18 : τ18.2.1 86 = τ6.2.1 86 := hf_τ18.2.1 86 (by decide)
          have g87_τ18 : τ18.2.1 87 = τ6.2.1 87 := hf_τ18.2.1 87 (by decide)
          have g88_τ18 : τ18.2.1 88 = τ6.2.1 88 := hf_τ18.2.1 88 (by decide)
          have g89_τ18 : τ18.2.1 89 = τ6.2.1 89 := hf_τ18.2.1 89 (by decide)
          have g90_τ18 : τ18.2.1 90 = τ6.2.1 90 := hf_τ18.2.1 90 (by decide)
          have g91_τ18 : τ18.2.1 91 = τ6.2.1 91 := hf_τ18.2.1 91 (by decide)
          have g94_τ18 : τ18.2.1 94 = τ6.2.1 94 := hf_τ18.2.1 94 (by decide)
          have g95_τ18 : τ18.2.1 95 = τ6.2.1 95 := hf_τ18.2.1 95 (by decide)
          have g103_τ18 : τ18.2.1 103 = τ6.2.1 103 := hf_τ18.2.1 103 (by decide)
          have g104_τ18 : τ18.2.1 104 = τ6.2.1 104 := hf_τ18.2.1 104 (by decide)
          first | (have o6_τ18 := congrArg oc g6_τ18) | skip
          have W3 : τ18.1 3 = σ.1 3 := by first | exact w3_τ18.trans W3 | omega
          have W4 : τ18.1 4 = σ.1 4 := by first | exact w4_τ18.trans W4 | omega
          have W5 : τ18.1 5 = σ.1 5 := by first | exact w5_τ18.trans W5 | omega
          have W10 : τ18.1 10 = σ.1 10 := by first | exact w10_τ18.trans W10 | omega
          have W11 : τ18.1 11 = σ.1 11 := by first | exact w11_τ18.trans W11 | omega
          have G6 : τ18.2.1 6 = σ.2.1 6 := (g6_τ18).trans G6
          have G8 : τ18.2.1 8 = σ.2.1 8 := (g8_τ18).trans G8
          have G10 : τ18.2.1 10 = σ.2.1 10 := (g10_τ18).trans G10
          have G12 : τ18.2.1 12 = σ.2.1 12 := (g12_τ18).trans G12
          have G13 : τ18.2.1 13 = σ.2.1 13 := (g13_τ18).trans G13
          have G14 : τ18.2.1 14 = σ.2.1 14 := (g14_τ18).trans G14
          have G15 : τ18.2.1 15 = σ.2.1 15 := (g15_τ18).trans G15
          have G16 : τ18.2.1 16 = σ.2.1 16 := (g16_τ18).trans G16
          have G17 : τ18.2.1 17 = σ.2.1 17 := (g17_τ18).trans G17
          have G18 : τ18.2.1 18 = σ.2.1 18 := (g18_τ18).trans G18
          have G19 : τ18.2.1 19 = σ.2.1 19 := (g19_τ18).trans G19
          have G20 : τ18.2.1 20 = σ.2.1 20 := (g20_τ18).trans G20
          have G95 : τ18.2.1 95 = σ.2.1 95 := (g95_τ18).trans G95
          have Y20 : ca (τ18.2.1 12) ((τ18.1 3)) ≤ (τ18.1 4) := by rw [show (ca (τ18.2.1 12) ((τ18.1 3)) ≤ (τ18.1 4)) = (ca (τ6.2.1 12) ((τ6.1 3)) ≤ (τ6.1 4)) from by rw [w3_τ18, w4_τ18, g12_τ18]]; exact Y20
          have Y1 : j_l2 (τ18.2.1 6) (τ18.1 3) := by rw [show (j_l2 (τ18.2.1 6) (τ18.1 3)) = (j_l2 (τ6.2.1 6) (τ6.1 3)) from by rw [w3_τ18, g6_τ18]]; exact Y1
          have STt : j_l2 (τ18.2.1 6) (τ18.1 3) := by rw [show (j_l2 (τ18.2.1 6) (τ18.1 3)) = (j_l2 (τ6.2.1 6) (τ6.1 3)) from by rw [w3_τ18, g6_τ18]]; exact STt
          have A6 : ∀ j, (-1) ≤ τ18.2.1 6 j ∧ τ18.2.1 6 j ≤ 999 := fun j => hT.2 6 j
          have A8 : ∀ j, 0 ≤ τ18.2.1 8 j ∧ τ18.2.1 8 j ≤ 1 := fun j => hT.2 8 j
          have A10 : ∀ j, (-1) ≤ τ18.2.1 10 j ∧ τ18.2.1 10 j ≤ 999 := fun j => hT.2 10 j
          have A12 : ∀ j, 0 ≤ τ18.2.1 12 j ∧ τ18.2.1 12 j ≤ 1 := fun j => hT.2 12 j
          have A13 : ∀ j, 0 ≤ τ18.2.1 13 j ∧ τ18.2.1 13 j ≤ 4 := fun j => hT.2 13 j
          have A14 : ∀ j, 0 ≤ τ18.2.1 14 j ∧ τ18.2.1 14 j ≤ 30000 := fun j => hT.2 14 j
          have A15 : ∀ j, 0 ≤ τ18.2.1 15 j ∧ τ18.2.1 15 j ≤ 300 := fun j => hT.2 15 j
          have A16 : ∀ j, 0 ≤ τ18.2.1 16 j ∧ τ18.2.1 16 j ≤ 999 := fun j => hT.2 16 j
          have A17 : ∀ j, (-1) ≤ τ18.2.1 17 j ∧ τ18.2.1 17 j ≤ 1499 := fun j => hT.2 17 j
          have A18 : ∀ j, 0 ≤ τ18.2.1 18 j ∧ τ18.2.1 18 j ≤ 90000 := fun j => hT.2 18 j
          have A19 : ∀ j, 0 ≤ τ18.2.1 19 j ∧ τ18.2.1 19 j ≤ 60 := fun j => hT.2 19 j
          have A20 : ∀ j, 0 ≤ τ18.2.1 20 j ∧ τ18.2.1 20 j ≤ 1499 := fun j => hT.2 20 j
          have A86 : ∀ j, (-1500) ≤ τ18.2.1 86 j ∧ τ18.2.1 86 j ≤ 1499 := fun j => hT.2 86 j
          have A87 : ∀ j, 0 ≤ τ18.2.1 87 j ∧ τ18.2.1 87 j ≤ 120000 := fun j => hT.2 87 j
          have A88 : ∀ j, 0 ≤ τ18.2.1 88 j ∧ τ18.2.1 88 j ≤ 59 := fun j => hT.2 88 j
          have A89 : ∀ j, 0 ≤ τ18.2.1 89 j ∧ τ18.2.1 89 j ≤ 59 := fun j => hT.2 89 j
          have A90 : ∀ j, (-1) ≤ τ18.2.1 90 j ∧ τ18.2.1 90 j ≤ 99 := fun j => hT.2 90 j
          have A91 : ∀ j, 0 ≤ τ18.2.1 91 j ∧ τ18.2.1 91 j ≤ 60000 := fun j => hT.2 91 j
          have A94 : ∀ j, (-1) ≤ τ18.2.1 94 j ∧ τ18.2.1 94 j ≤ 2 := fun j => hT.2 94 j
          have A95 : ∀ j, (-9) ≤ τ18.2.1 95 j ∧ τ18.2.1 95 j ≤ 1499 := fun j => hT.2 95 j
          have A103 : ∀ j, 0 ≤ τ18.2.1 103 j ∧ τ18.2.1 103 j ≤ 999 := fun j => hT.2 103 j
          have A104 : ∀ j, (-1) ≤ τ18.2.1 104 j ∧ τ18.2.1 104 j ≤ 59 := fun j => hT.2 104 j
          have v0 : 0 ≤ τ18.1 0 ∧ τ18.1 0 ≤ 60000 := hT.1 0
          have v1 : 0 ≤ τ18.1 1 ∧ τ18.1 1 ≤ 1 := hT.1 1
          have v3 : 0 ≤ τ18.1 3 ∧ τ18.1 3 ≤ 1000 := hT.1 3
          have v4 : 0 ≤ τ18.1 4 ∧ τ18.1 4 ≤ 100 := hT.1 4
          have v5 : 0 ≤ τ18.1 5 ∧ τ18.1 5 ≤ 1500 := hT.1 5
          have v10 : (-1) ≤ τ18.1 10 ∧ τ18.1 10 ≤ 999 := hT.1 10
          have v11 : (-1) ≤ τ18.1 11 ∧ τ18.1 11 ≤ 999 := hT.1 11
          have v45 : 0 ≤ τ18.1 45 ∧ τ18.1 45 ≤ 59 := hT.1 45
          have v48 : 0 ≤ τ18.1 48 ∧ τ18.1 48 ≤ 1500 := hT.1 48
          have v49 : 0 ≤ τ18.1 49 ∧ τ18.1 49 ≤ 1 := hT.1 49
          have v50 : 0 ≤ τ18.1 50 ∧ τ18.1 50 ≤ 1500 := hT.1 50
          have v51 : 0 ≤ τ18.1 51 ∧ τ18.1 51 ≤ 60000 := hT.1 51
          have v52 : 0 ≤ τ18.1 52 ∧ τ18.1 52 ≤ 120000 := hT.1 52
          have BI18 := y_BI_b BI6 hT6 hf_τ18 ⟨by omega, by omega⟩ rfl rfl rfl
          intro x19 r_x19 e_x19
          have b_x19 : 0 ≤ x19 ∧ x19 ≤ 999 := by rw [e_x19]; exact hT.2 103 _
          intro x20 r_x20 e_x20
          have b_x20 : 0 ≤ x20 ∧ x20 ≤ 30000 := by rw [e_x20]; exact hT.2 14 _
          refine ⟨(show 0 ≤ x20 ∧ x20 < 30400 from by (first | omega | (simp only [st_s] <;> omega) | assumption | omega | fail)), ?_⟩
          intro x22 r_x22 e_x22
          have b_x22 : 0 ≤ x22 ∧ x22 ≤ 999 := by rw [e_x22]; exact hT.2 16 _
          refine ⟨fun c23 => ?_, fun c23 => ?_⟩
          ·
            exact ⟨hT, (show y_BI σ τ18 from by (first | exact BI6 | exact BI18 | exact BI26 | exact BI33 | exact BI38 | exact BI42 | exact BI46 | fail)), (show (τ18.1 0) = 0 ∧ (τ18.1 1) = 0 from by (first | omega | (simp only [st_s] <;> omega) | assumption | omega | fail))⟩
          ·
            have hT18 := hT
            refine ⟨_, K_X13_countTrees hT (show 0 ≤ n1 from by (first | omega | (simp only [st_s] <;> omega) | assumption | omega | fail)) (show n1 < (τ18.1 5) from by (first | omega | (simp only [st_s] <;> omega) | assumption | omega | fail)) (show τ18.2.1 15 n1 ≤ 60 from by (rw [G15]; have e := e_x14; rw [g15_τ6, g15_τ3] at e; omega)) (show ca (τ18.2.1 12) ((τ18.1 3)) ≤ (τ18.1 4) from Y20) (show n_J τ18 from by exact BI18.2.2.1) (show m_J τ18 from by exact BI18.2.2.2.1) (show (τ18.1 10) < (τ18.1 3) from by (first | omega | (simp only [st_s] <;> omega) | assumption | omega | fail)) (show (τ18.1 49) = 0 ∨ (y_TT τ18 τ18 (τ18.1 5) (τ18.1 5) ∧ y_Un τ18 (τ18.1 5) (τ18.1 48) (τ18.2.1 84)) from by (rw [W5]; exact BI18.2.1)) (show (τ18.1 51) ≤ 47000 from by (have w := BI18.2.2.2.2; omega)) (show (τ18.1 52) ≤ 88000 from by (have w := BI18.2.2.2.2; omega)) (show y_CT τ18 from by exact BI18.1.1), ?_⟩
            intro x25 τ26 r_x25 hn_τ26 hf_τ26 hq
            obtain ⟨hT, q24_1, q24_2, q24_3, q24_4, q24_5, q24_6, q24_7, q24_8, q24_9⟩ := hq
            replace q24_1 : y_CT τ26 := q24_1
            replace q24_2 : τ26.2.1 94 n1 = x25 ∧ 0 ≤ x25 ∧ x25 ≤ 2 := q24_2
            replace q24_3 : ((τ26.1 49) = 0 ∨ (y_TT τ26 τ26 (τ18.1 5) (τ18.1 5) ∧ y_Un τ26 (τ18.1 5) (τ26.1 48) (τ26.2.1 84))) := q24_3
            replace q24_4 : (τ26.1 51) = (τ18.1 51) ∧ (τ26.1 52) = (τ18.1 52) := q24_4
            replace q24_5 : ∀ y : Int, y < (τ18.1 51) → (τ26.2.1 86 y = τ18.2.1 86 y ∧ τ26.2.1 87 y = τ18.2.1 87 y) ∧ τ26.2.1 88 y = τ18.2.1 88 y ∧ τ26.2.1 89 y = τ18.2.1 89 y ∧ τ26.2.1 90 y = τ18.2.1 90 y := q24_5
            replace q24_6 : ∀ e : Int, e < (τ18.1 52) → τ26.2.1 91 e = τ18.2.1 91 e := q24_6
            replace q24_7 : ∀ k : Int, ¬ (24 * n1 ≤ k ∧ k < 24 * n1 + 24) → τ26.2.2 7 k = τ18.2.2 7 k := q24_7
            replace q24_8 : ∀ i : Int, ¬ i = n1 → τ26.2.1 94 i = τ18.2.1 94 i := q24_8
            replace q24_9 : ¬ τ18.2.1 94 n1 = -1 → τ26 = τ18 := q24_9
            have w0_τ26 : τ26.1 0 = τ18.1 0 := hf_τ26.1 0 (by decide)
            have w1_τ26 : τ26.1 1 = τ18.1 1 := hf_τ26.1 1 (by decide)
            have w3_τ26 : τ26.1 3 = τ18.1 3 := hf_τ26.1 3 (by decide)
            have w4_τ26 : τ26.1 4 = τ18.1 4 := hf_τ26.1 4 (by decide)
            have w5_τ26 : τ26.1 5 = τ18.1 5 := hf_τ26.1 5 (by decide)
            have w10_τ26 : τ26.1 10 = τ18.1 10 := hf_τ26.1 10 (by decide)
            have w11_τ26 : τ26.1 11 = τ18.1 11 := hf_τ26.1 11 (by decide)
            have g6_τ26 : τ26.2.1 6 = τ18.2.1 6 := hf_τ26.2.1 6 (by decide)
            have g8_τ26 : τ26.2.1 8 = τ18.2.1 8 := hf_τ26.2.1 8 (by decide)
            have g10_τ26 : τ26.2.1 10 = τ18.2.1 10 := hf_τ26.2.1 10 (by decide)
            have g12_τ26 : τ26.2.1 12 = τ18.2.1 12 := hf_τ26.2.1 12 (by decide)
            have g13_τ26 : τ26.2.1 13 = τ18.2.1 13 := hf_τ26.2.1 13 (by decide)
            have g14_τ26 : τ26.2.1 14 = τ18.2.1 14 := hf_τ26.2.1 14 (by decide)
            have g15_τ26 : τ26.2.1 15 = τ18.2.1 15 := hf_τ26.2.1 15 (by decide)
            have g16_τ26 : τ26.2.1 16 = τ18.2.1 16 := hf_τ26.2.1 16 (by decide)
            have g17_τ26 : τ26.2.1 17 = τ18.2.1 17 := hf_τ26.2.1 17 (by decide)
            have g18_τ26 : τ26.2.1 18 = τ18.2.1 18 := hf_τ26.2.1 18 (by decide)
            have g19_τ26 : τ26.2.1 19 = τ18.2.1 19 := hf_τ26.2.1 19 (by decide)
            have g20_τ26 : τ26.2.1 20 = τ18.2.1 20 := hf_τ26.2.1 20 (by decide)
            have g95_τ26 : τ26.2.1 95 = τ18.2.1 95 := hf_τ26.2.1 95 (by decide)
            have g103_τ26 : τ26.2.1 103 = τ18.2.1 103 := hf_τ26.2.1 103 (by decide)
            have g104_τ26 : τ26.2.1 104 = τ18.2.1 104 := hf_τ26.2.1 104 (by decide)
            first | (have o6_τ26 := congrArg oc g6_τ26) | skip
            have W3 : τ26.1 3 = σ.1 3 := by first | exact w3_τ26.trans W3 | omega
            have W4 : τ26.1 4 = σ.1 4 := by first | exact w4_τ26.trans W4 | omega
            have W5 : τ26.1 5 = σ.1 5 := by first | exact w5_τ26.trans W5 | omega
            have W10 : τ26.1 10 = σ.1 10 := by first | exact w10_τ26.trans W10 | omega
            have W11 : τ26.1 11 = σ.1 11 := by first | exact w11_τ26.trans W11 | omega
            have G6 : τ26.2.1 6 = σ.2.1 6 := (g6_τ26).trans G6
            have G8 : τ26.2.1 8 = σ.2.1 8 := (g8_τ26).trans G8
            have G10 : τ26.2.1 10 = σ.2.1 10 := (g10_τ26).trans G10
            have G12 : τ26.2.1 12 = σ.2.1 12 := (g12_τ26).trans G12
            have G13 : τ26.2.1 13 = σ.2.1 13 := (g13_τ26).trans G13
            have G14 : τ26.2.1 14 = σ.2.1 14 := (g14_τ26).trans G14
            have G15 : τ26.2.1 15 = σ.2.1 15 := (g15_τ26).trans G15
            have G16 : τ26.2.1 16 = σ.2.1 16 := (g16_τ26).trans G16
            have G17 : τ26.2.1 17 = σ.2.1 17 := (g17_τ26).trans G17
            have G18 : τ26.2.1 18 = σ.2.1 18 := (g18_τ26).trans G18
            have G19 : τ26.2.1 19 = σ.2.1 19 := (g19_τ26).trans G19
            have G20 : τ26.2.1 20 = σ.2.1 20 := (g20_τ26).trans G20
            have G95 : τ26.2.1 95 = σ.2.1 95 := (g95_τ26).trans G95
            have Y20 : ca (τ26.2.1 12) ((τ26.1 3)) ≤ (τ26.1 4) := by rw [show (ca (τ26.2.1 12) ((τ26.1 3)) ≤ (τ26.1 4)) = (ca (τ18.2.1 12) ((τ18.1 3)) ≤ (τ18.1 4)) from by rw [w3_τ26, w4_τ26, g12_τ26]]; exact Y20
            have Y1 : j_l2 (τ26.2.1 6) (τ26.1 3) := by rw [show (j_l2 (τ26.2.1 6) (τ26.1 3)) = (j_l2 (τ18.2.1 6) (τ18.1 3)) from by rw [w3_τ26, g6_τ26]]; exact Y1
            have STt : j_l2 (τ26.2.1 6) (τ26.1 3) := by rw [show (j_l2 (τ26.2.1 6) (τ26.1 3)) = (j_l2 (τ18.2.1 6) (τ18.1 3)) from by rw [w3_τ26, g6_τ26]]; exact STt
            have A6 : ∀ j, (-1) ≤ τ26.2.1 6 j ∧ τ26.2.1 6 j ≤ 999 := fun j => hT.2 6 j
            have A8 : ∀ j, 0 ≤ τ26.2.1 8 j ∧ τ26.2.1 8 j ≤ 1 := fun j => hT.2 8 j
            have A10 : ∀ j, (-1) ≤ τ26.2.1 10 j ∧ τ26.2.1 10 j ≤ 999 := fun j => hT.2 10 j
            have A12 : ∀ j, 0 ≤ τ26.2.1 12 j ∧ τ26.2.1 12 j ≤ 1 := fun j => hT.2 12 j
            have A13 : ∀ j, 0 ≤ τ26.2.1 13 j ∧ τ26.2.1 13 j ≤ 4 := fun j => hT.2 13 j
            have A14 : ∀ j, 0 ≤ τ26.2.1 14 j ∧ τ26.2.1 14 j ≤ 30000 := fun j => hT.2 14 j
            have A15 : ∀ j, 0 ≤ τ26.2.1 15 j ∧ τ26.2.1 15 j ≤ 300 := fun j => hT.2 15 j
            have A16 : ∀ j, 0 ≤ τ26.2.1 16 j ∧ τ26.2.1 16 j ≤ 999 := fun j => hT.2 16 j
            have A17 : ∀ j, (-1) ≤ τ26.2.1 17 j ∧ τ26.2.1 17 j ≤ 1499 := fun j => hT.2 17 j
            have A18 : ∀ j, 0 ≤ τ26.2.1 18 j ∧ τ26.2.1 18 j ≤ 90000 := fun j => hT.2 18 j
            have A19 : ∀ j, 0 ≤ τ26.2.1 19 j ∧ τ26.2.1 19 j ≤ 60 := fun j => hT.2 19 j
            have A20 : ∀ j, 0 ≤ τ26.2.1 20 j ∧ τ26.2.1 20 j ≤ 1499 := fun j => hT.2 20 j
            have A86 : ∀ j, (-1500) ≤ τ26.2.1 86 j ∧ τ26.2.1 86 j ≤ 1499 := fun j => hT.2 86 j
            have A87 : ∀ j, 0 ≤ τ26.2.1 87 j ∧ τ26.2.1 87 j ≤ 120000 := fun j => hT.2 87 j
            have A88 : ∀ j, 0 ≤ τ26.2.1 88 j ∧ τ26.2.1 88 j ≤ 59 := fun j => hT.2 88 j
            have A89 : ∀ j, 0 ≤ τ26.2.1 89 j ∧ τ26.2.1 89 j ≤ 59 := fun j => hT.2 89 j
            have A90 : ∀ j, (-1) ≤ τ26.2.1 90 j ∧ τ26.2.1 90 j ≤ 99 := fun j => hT.2 90 j
            have A91 : ∀ j, 0 ≤ τ26.2.1 91 j ∧ τ26.2.1 91 j ≤ 60000 := fun j => hT.2 91 j
            have A94 : ∀ j, (-1) ≤ τ26.2.1 94 j ∧ τ26.2.1 94 j ≤ 2 := fun j => hT.2 94 j
            have A95 : ∀ j, (-9) ≤ τ26.2.1 95 j ∧ τ26.2.1 95 j ≤ 1499 := fun j => hT.2 95 j
            have A103 : ∀ j, 0 ≤ τ26.2.1 103 j ∧ τ26.2.1 103 j ≤ 999 := fun j => hT.2 103 j
            have A104 : ∀ j, (-1) ≤ τ26.2.1 104 j ∧ τ26.2.1 104 j ≤ 59 := fun j => hT.2 104 j
            have v0 : 0 ≤ τ26.1 0 ∧ τ26.1 0 ≤ 60000 := hT.1 0
            have v1 : 0 ≤ τ26.1 1 ∧ τ26.1 1 ≤ 1 := hT.1 1
            have v3 : 0 ≤ τ26.1 3 ∧ τ26.1 3 ≤ 1000 := hT.1 3
            have v4 : 0 ≤ τ26.1 4 ∧ τ26.1 4 ≤ 100 := hT.1 4
            have v5 : 0 ≤ τ26.1 5 ∧ τ26.1 5 ≤ 1500 := hT.1 5
            have v10 : (-1) ≤ τ26.1 10 ∧ τ26.1 10 ≤ 999 := hT.1 10
            have v11 : (-1) ≤ τ26.1 11 ∧ τ26.1 11 ≤ 999 := hT.1 11
            have v45 : 0 ≤ τ26.1 45 ∧ τ26.1 45 ≤ 59 := hT.1 45
            have v48 : 0 ≤ τ26.1 48 ∧ τ26.1 48 ≤ 1500 := hT.1 48
            have v49 : 0 ≤ τ26.1 49 ∧ τ26.1 49 ≤ 1 := hT.1 49
            have v50 : 0 ≤ τ26.1 50 ∧ τ26.1 50 ≤ 1500 := hT.1 50
            have v51 : 0 ≤ τ26.1 51 ∧ τ26.1 51 ≤ 60000 := hT.1 51
            have v52 : 0 ≤ τ26.1 52 ∧ τ26.1 52 ≤ 120000 := hT.1 52
            have SF26 := y_SF_h hf_τ26 rfl rfl
            have KC26 := y_KC_c q24_7 q24_8 q24_9
            have DT26 := y_DT_k BI18.1.2.2.2.1 hT18 SF26 KC26 (hf_τ26.2.1 95 (by decide))
            have BI26 := y_BI_r BI18 hf_τ26 q24_1 q24_3 ⟨by omega, by omega⟩ KC26 DT26 rfl rfl
            refine ⟨fun c27 => ?_, fun c27 => ?_⟩
            ·
              have hT26 := hT
              refine ⟨_, K_X13_treeOf hT (show 0 ≤ n1 from by (first | omega | (simp only [st_s] <;> omega) | assumption | omega | fail)) (show n1 < (τ26.1 5) from by (first | omega | (simp only [st_s] <;> omega) | assumption | omega | fail)) (show τ26.2.1 15 n1 ≤ 60 from by (rw [G15]; have e := e_x14; rw [g15_τ6, g15_τ3] at e; omega)) (show ca (τ26.2.1 12) ((τ26.1 3)) ≤ (τ26.1 4) from Y20) (show n_J τ26 from by exact BI26.2.2.1) (show m_J τ26 from by exact BI26.2.2.2.1) (show (τ26.1 10) < (τ26.1 3) from by (first | omega | (simp only [st_s] <;> omega) | assumption | omega | fail)) (show (τ26.1 49) = 0 ∨ (y_TT τ26 τ26 (τ26.1 5) (τ26.1 5) ∧ y_Un τ26 (τ26.1 5) (τ26.1 48) (τ26.2.1 84)) from by (rw [W5]; exact BI26.2.1)) (show (τ26.1 51) ≤ 47000 from by (have w := BI26.2.2.2.2; omega)) (show (τ26.1 52) ≤ 88000 from by (have w := BI26.2.2.2.2; omega)), ?_⟩
              intro x29 τ30 r_x29 hn_τ30 hf_τ30 hq
              obtain ⟨hT, q28_1, q28_2, q28_3, q28_4, q28_5, q28_6, q28_7, q28_8, q28_9, q28_10, q28_11, q28_12, q28_13, q28_14, q28_15⟩ := hq
              replace q28_1 : ∃ c : Int, τ30.2.1 94 = st (τ26.2.1 94) n1 c ∧ y_Ti τ26 n1 c ∧ (x29 = -1 ↔ ¬ c = 1) := q28_1
              replace q28_2 : ¬ (τ30.1 49) = 0 ∧ y_TT τ30 τ30 (τ26.1 5) (τ26.1 5) ∧ y_Un τ30 (τ26.1 5) (τ30.1 48) (τ30.2.1 84) := q28_2
              replace q28_3 : (τ26.1 51) ≤ (τ30.1 51) ∧ (τ30.1 51) ≤ (τ26.1 51) + 11700 := q28_3
              replace q28_4 : (τ26.1 52) ≤ (τ30.1 52) ∧ (τ30.1 52) ≤ (τ26.1 52) + 11700 := q28_4
              replace q28_5 : ∀ y : Int, y < (τ26.1 51) → (τ30.2.1 86 y = τ26.2.1 86 y ∧ τ30.2.1 87 y = τ26.2.1 87 y) ∧ τ30.2.1 88 y = τ26.2.1 88 y ∧ τ30.2.1 89 y = τ26.2.1 89 y ∧ τ30.2.1 90 y = τ26.2.1 90 y := q28_5
              replace q28_6 : ∀ e : Int, e < (τ26.1 52) → τ30.2.1 91 e = τ26.2.1 91 e := q28_6
              replace q28_7 : x29 = -1 → (τ30.1 51) = (τ26.1 51) ∧ (τ30.1 52) = (τ26.1 52) := q28_7
              replace q28_8 : ¬ x29 = -1 → x29 = (τ26.1 51) ∧ (τ26.1 51) < (τ30.1 51) := q28_8
              replace q28_9 : ¬ x29 = -1 → ∃ ρ : Int → Int → Int → Int, y_TC ρ τ30 := q28_9
              replace q28_10 : ¬ x29 = -1 → ∀ y : Int, (τ26.1 51) ≤ y → y < (τ30.1 51) → y_c0 τ30 (τ30.2.1 90 y) (τ30.2.1 88 y) (τ30.2.1 89 y) := q28_10
              replace q28_11 : ¬ x29 = -1 → ∀ y : Int, (τ26.1 51) ≤ y → y < (τ30.1 51) → y_nd τ30 (τ30.2.1 86) (τ30.2.1 87) (τ30.2.1 91) (τ30.2.1 88) (τ30.2.1 89) (τ30.2.1 90) y (y + 1) (τ30.1 51) (τ30.1 52) := q28_11
              replace q28_12 : ¬ x29 = -1 → τ30.2.1 90 (τ26.1 51) = τ30.2.1 71 (y_rt τ26 n1) ∧ τ30.2.1 88 (τ26.1 51) = 0 ∧ τ30.2.1 89 (τ26.1 51) = τ26.2.1 15 n1 - 1 := q28_12
              replace q28_13 : ¬ x29 = -1 → 0 ≤ y_rt τ26 n1 ∧ y_rt τ26 n1 < (τ26.1 3) := q28_13
              replace q28_14 : ¬ x29 = -1 → (τ30.1 50) = n1 ∧ (τ30.1 45) = τ26.2.1 15 n1 - 1 ∧ 1 < τ26.2.1 15 n1 := q28_14
              replace q28_15 : ¬ x29 = -1 → ∀ k : Int, 0 ≤ k → k < (τ26.2.1 15 n1 - 1) → τ30.2.1 72 k = τ26.2.1 16 (τ26.2.1 14 n1 + 1 + k) ∧ τ30.2.1 74 k = τ26.2.1 17 (τ26.2.1 14 n1 + 1 + k) ∧ ((τ26.2.1 17 (τ26.2.1 14 n1 + 1 + k) = -1 ∧ τ30.2.1 73 k = -1) ∨ (¬ τ26.2.1 17 (τ26.2.1 14 n1 + 1 + k) = -1 ∧ τ30.2.1 73 k = τ30.2.1 71 (τ26.2.1 16 (τ26.2.1 14 (τ26.2.1 17 (τ26.2.1 14 n1 + 1 + k)))))) := q28_15
              have w0_τ30 : τ30.1 0 = τ26.1 0 := hf_τ30.1 0 (by decide)
              have w1_τ30 : τ30.1 1 = τ26.1 1 := hf_τ30.1 1 (by decide)
              have w3_τ30 : τ30.1 3 = τ26.1 3 := hf_τ30.1 3 (by decide)
              have w4_τ30 : τ30.1 4 = τ26.1 4 := hf_τ30.1 4 (by decide)
              have w5_τ30 : τ30.1 5 = τ26.1 5 := hf_τ30.1 5 (by decide)
              have w10_τ30 : τ30.1 10 = τ26.1 10 := hf_τ30.1 10 (by decide)
              have w11_τ30 : τ30.1 11 = τ26.1 11 := hf_τ30.1 11 (by decide)
              have g6_τ30 : τ30.2.1 6 = τ26.2.1 6 := hf_τ30.2.1 6 (by decide)
              have g8_τ30 : τ30.2.1 8 = τ26.2.1 8 := hf_τ30.2.1 8 (by decide)
              have g10_τ30 : τ30.2.1 10 = τ26.2.1 10 := hf_τ30.2.1 10 (by decide)
              have g12_τ30 : τ30.2.1 12 = τ26.2.1 12 := hf_τ30.2.1 12 (by decide)
              have g13_τ30 : τ30.2.1 13 = τ26.2.1 13 := hf_τ30.2.1 13 (by decide)
              have g14_τ30 : τ30.2.1 14 = τ26.2.1 14 := hf_τ30.2.1 14 (by decide)
              have g15_τ30 : τ30.2.1 15 = τ26.2.1 15 := hf_τ30.2.1 15 (by decide)
              have g16_τ30 : τ30.2.1 16 = τ26.2.1 16 := hf_τ30.2.1 16 (by decide)
              have g17_τ30 : τ30.2.1 17 = τ26.2.1 17 := hf_τ30.2.1 17 (by decide)
              have g18_τ30 : τ30.2.1 18 = τ26.2.1 18 := hf_τ30.2.1 18 (by decide)
              have g19_τ30 : τ30.2.1 19 = τ26.2.1 19 := hf_τ30.2.1 19 (by decide)
              have g20_τ30 : τ30.2.1 20 = τ26.2.1 20 := hf_τ30.2.1 20 (by decide)
              have g95_τ30 : τ30.2.1 95 = τ26.2.1 95 := hf_τ30.2.1 95 (by decide)
              have g103_τ30 : τ30.2.1 103 = τ26.2.1 103 := hf_τ30.2.1 103 (by decide)
              have g104_τ30 : τ30.2.1 104 = τ26.2.1 104 := hf_τ30.2.1 104 (by decide)
              first | (have o6_τ30 := congrArg oc g6_τ30) | skip
              have W3 : τ30.1 3 = σ.1 3 := by first | exact w3_τ30.trans W3 | omega
              have W4 : τ30.1 4 = σ.1 4 := by first | exact w4_τ30.trans W4 | omega
              have W5 : τ30.1 5 = σ.1 5 := by first | exact w5_τ30.trans W5 | omega
              have W10 : τ30.1 10 = σ.1 10 := by first | exact w10_τ30.trans W10 | omega
              have W11 : τ30.1 11 = σ.1 11 := by first | exact w11_τ30.trans W11 | omega
              have G6 : τ30.2.1 6 = σ.2.1 6 := (g6_τ30).trans G6
              have G8 : τ30.2.1 8 = σ.2.1 8 := (g8_τ30).trans G8
              have G10 : τ30.2.1 10 = σ.2.1 10 := (g10_τ30).trans G10
              have G12 : τ30.2.1 12 = σ.2.1 12 := (g12_τ30).trans G12
              have G13 : τ30.2.1 13 = σ.2.1 13 := (g13_τ30).trans G13
              have G14 : τ30.2.1 14 = σ.2.1 14 := (g14_τ30).trans G14
              have G15 : τ30.2.1 15 = σ.2.1 15 := (g15_τ30).trans G15
              have G16 : τ30.2.1 16 = σ.2.1 16 := (g16_τ30).trans G16
              have G17 : τ30.2.1 17 = σ.2.1 17 := (g17_τ30).trans G17
              have G18 : τ30.2.1 18 = σ.2.1 18 := (g18_τ30).trans G18
              have G19 : τ30.2.1 19 = σ.2.1 19 := (g19_τ30).trans G19
              have G20 : τ30.2.1 20 = σ.2.1 20 := (g20_τ30).trans G20
              have G95 : τ30.2.1 95 = σ.2.1 95 := (g95_τ30).trans G95
              have Y20 : ca (τ30.2.1 12) ((τ30.1 3)) ≤ (τ30.1 4) := by rw [show (ca (τ30.2.1 12) ((τ30.1 3)) ≤ (τ30.1 4)) = (ca (τ26.2.1 12) ((τ26.1 3)) ≤ (τ26.1 4)) from by rw [w3_τ30, w4_τ30, g12_τ30]]; exact Y20
              have Y1 : j_l2 (τ30.2.1 6) (τ30.1 3) := by rw [show (j_l2 (τ30.2.1 6) (τ30.1 3)) = (j_l2 (τ26.2.1 6) (τ26.1 3)) from by rw [w3_τ30, g6_τ30]]; exact Y1
              have STt : j_l2 (τ30.2.1 6) (τ30.1 3) := by rw [show (j_l2 (τ30.2.1 6) (τ30.1 3)) = (j_l2 (τ26.2.1 6) (τ26.1 3)) from by rw [w3_τ30, g6_τ30]]; exact STt
              have A6 : ∀ j, (-1) ≤ τ30.2.1 6 j ∧ τ30.2.1 6 j ≤ 999 := fun j => hT.2 6 j
              have A8 : ∀ j, 0 ≤ τ30.2.1 8 j ∧ τ30.2.1 8 j ≤ 1 := fun j => hT.2 8 j
              have A10 : ∀ j, (-1) ≤ τ30.2.1 10 j ∧ τ30.2.1 10 j ≤ 999 := fun j => hT.2 10 j
              have A12 : ∀ j, 0 ≤ τ30.2.1 12 j ∧ τ30.2.1 12 j ≤ 1 := fun j => hT.2 12 j
              have A13 : ∀ j, 0 ≤ τ30.2.1 13 j ∧ τ30.2.1 13 j ≤ 4 := fun j => hT.2 13 j
              have A14 : ∀ j, 0 ≤ τ30.2.1 14 j ∧ τ30.2.1 14 j ≤ 30000 := fun j => hT.2 14 j
              have A15 : ∀ j, 0 ≤ τ30.2.1 15 j ∧ τ30.2.1 15 j ≤ 300 := fun j => hT.2 15 j
              have A16 : ∀ j, 0 ≤ τ30.2.1 16 j ∧ τ30.2.1 16 j ≤ 999 := fun j => hT.2 16 j
              have A17 : ∀ j, (-1) ≤ τ30.2.1 17 j ∧ τ30.2.1 17 j ≤ 1499 := fun j => hT.2 17 j
              have A18 : ∀ j, 0 ≤ τ30.2.1 18 j ∧ τ30.2.1 18 j ≤ 90000 := fun j => hT.2 18 j
              have A19 : ∀ j, 0 ≤ τ30.2.1 19 j ∧ τ30.2.1 19 j ≤ 60 := fun j => hT.2 19 j
              have A20 : ∀ j, 0 ≤ τ30.2.1 20 j ∧ τ30.2.1 20 j ≤ 1499 := fun j => hT.2 20 j
              have A86 : ∀ j, (-1500) ≤ τ30.2.1 86 j ∧ τ30.2.1 86 j ≤ 1499 := fun j => hT.2 86 j
              have A87 : ∀ j, 0 ≤ τ30.2.1 87 j ∧ τ30.2.1 87 j ≤ 120000 := fun j => hT.2 87 j
              have A88 : ∀ j, 0 ≤ τ30.2.1 88 j ∧ τ30.2.1 88 j ≤ 59 := fun j => hT.2 88 j
              have A89 : ∀ j, 0 ≤ τ30.2.1 89 j ∧ τ30.2.1 89 j ≤ 59 := fun j => hT.2 89 j
              have A90 : ∀ j, (-1) ≤ τ30.2.1 90 j ∧ τ30.2.1 90 j ≤ 99 := fun j => hT.2 90 j
              have A91 : ∀ j, 0 ≤ τ30.2.1 91 j ∧ τ30.2.1 91 j ≤ 60000 := fun j => hT.2 91 j
              have A94 : ∀ j, (-1) ≤ τ30.2.1 94 j ∧ τ30.2.1 94 j ≤ 2 := fun j => hT.2 94 j
              have A95 : ∀ j, (-9) ≤ τ30.2.1 95 j ∧ τ30.2.1 95 j ≤ 1499 := fun j => hT.2 95 j
              have A103 : ∀ j, 0 ≤ τ30.2.1 103 j ∧ τ30.2.1 103 j ≤ 999 := fun j => hT.2 103 j
              have A104 : ∀ j, (-1) ≤ τ30.2.1 104 j ∧ τ30.2.1 104 j ≤ 59 := fun j => hT.2 104 j
              have v0 : 0 ≤ τ30.1 0 ∧ τ30.1 0 ≤ 60000 := hT.1 0
              have v1 : 0 ≤ τ30.1 1 ∧ τ30.1 1 ≤ 1 := hT.1 1
              have v3 : 0 ≤ τ30.1 3 ∧ τ30.1 3 ≤ 1000 := hT.1 3
              have v4 : 0 ≤ τ30.1 4 ∧ τ30.1 4 ≤ 100 := hT.1 4
              have v5 : 0 ≤ τ30.1 5 ∧ τ30.1 5 ≤ 1500 := hT.1 5
              have v10 : (-1) ≤ τ30.1 10 ∧ τ30.1 10 ≤ 999 := hT.1 10
              have v11 : (-1) ≤ τ30.1 11 ∧ τ30.1 11 ≤ 999 := hT.1 11
              have v45 : 0 ≤ τ30.1 45 ∧ τ30.1 45 ≤ 59 := hT.1 45
              have v48 : 0 ≤ τ30.1 48 ∧ τ30.1 48 ≤ 1500 := hT.1 48
              have v49 : 0 ≤ τ30.1 49 ∧ τ30.1 49 ≤ 1 := hT.1 49
              have v50 : 0 ≤ τ30.1 50 ∧ τ30.1 50 ≤ 1500 := hT.1 50
              have v51 : 0 ≤ τ30.1 51 ∧ τ30.1 51 ≤ 60000 := hT.1 51
              have v52 : 0 ≤ τ30.1 52 ∧ τ30.1 52 ≤ 120000 := hT.1 52
              have TO30 : y_TO τ26 τ30 n1 x29 := ⟨q28_1, q28_2, q28_3, q28_4, q28_5, q28_6, fun z => ⟨q28_8 z, q28_9 z, q28_10 z, q28_11 z, q28_12 z, q28_13 z, q28_14 z, q28_15 z⟩⟩
              obtain ⟨⟨BI30, KC30, SF30⟩, nx, ex29, TR30⟩ := y_BI_o BI26 hT26 hf_τ30 TO30 (by omega) (by omega) (by omega) (by omega) (by omega) rfl rfl rfl
              clear q28_1 q28_2 q28_7 q28_8 q28_9 q28_10 q28_11 q28_12 q28_13 q28_14 q28_15
              obtain ⟨wt, TW⟩ := y_TW_o TO30 hT nx
              have l29 : x29 < τ30.1 51 := TR30.2.2.2.2.1.1
              have l51 : τ30.1 51 ≤ 60000 := (hT.1 51).2
              have LF30 := (fun (y : Int) (a : x29 ≤ y) (b : y < τ30.1 51) (c : τ30.2.1 86 y < 0) => z_lf BI26.2.2.1 hT26 hT (by omega) (by omega) TR30 a b c)
              have n30 : τ30.1 51 ≤ 11700 ∧ τ30.1 52 ≤ 11700 := ⟨by (have w := TO30.2.2.1; omega), by (have w := TO30.2.2.2.1; omega)⟩
              have hT30 := hT
              refine ⟨_, K_X13_rowTree hT (show 1 ≤ x2 ∧ x2 ≤ 60 from by (first | omega | (simp only [st_s] <;> omega) | assumption | omega | fail)) (show ∀ k : Int, 0 ≤ k → k < x2 → τ30.2.1 103 k < (τ30.1 3) from by (intro k a b; have e : τ30.2.1 103 = τ3.2.1 103 := (hf_τ30.2.1 103 (by decide)).trans ((hf_τ26.2.1 103 (by decide)).trans ((hf_τ18.2.1 103 (by decide)).trans (hf_τ6.2.1 103 (by decide)))); rw [e]; have w := q1_2.resolve_left (by omega) k a b (by omega); omega)) (show z_ty τ30 from by (intro s a b; rw [G10, W3]; exact p5 s a (by omega))) (show ca (τ30.2.1 12) ((τ30.1 3)) ≤ (τ30.1 4) from Y20) (show n_J τ30 from by exact BI30.2.2.1) (show m_J τ30 from by exact BI30.2.2.2.1) (show (τ30.1 10) < (τ30.1 3) from by (first | omega | (simp only [st_s] <;> omega) | assumption | omega | fail)) (show (τ30.1 49) = 0 ∨ (y_TT τ30 τ30 (τ30.1 5) (τ30.1 5) ∧ y_Un τ30 (τ30.1 5) (τ30.1 48) (τ30.2.1 84)) from by (rw [W5]; exact BI30.2.1)) (show (τ30.1 51) ≤ 47000 from by (first | omega | (simp only [st_s] <;> omega) | assumption | omega | fail)) (show (τ30.1 52) ≤ 88000 from by (first | omega | (simp only [st_s] <;> omega) | assumption | omega | fail)), ?_⟩
              intro x32 τ33 r_x32 hn_τ33 hf_τ33 hq
              obtain ⟨hT, q31_1, q31_2, q31_3, q31_4, q31_5, q31_6, q31_7, q31_8⟩ := hq
              replace q31_1 : (τ30.1 51) ≤ (τ33.1 51) ∧ (τ33.1 51) ≤ (τ30.1 51) + 11700 := q31_1
              replace q31_2 : (τ30.1 52) ≤ (τ33.1 52) ∧ (τ33.1 52) ≤ (τ30.1 52) + 11700 := q31_2
              replace q31_3 : ∀ y : Int, y < (τ30.1 51) → (τ33.2.1 86 y = τ30.2.1 86 y ∧ τ33.2.1 87 y = τ30.2.1 87 y) ∧ τ33.2.1 88 y = τ30.2.1 88 y ∧ τ33.2.1 89 y = τ30.2.1 89 y ∧ τ33.2.1 90 y = τ30.2.1 90 y := q31_3
              replace q31_4 : ∀ e : Int, e < (τ30.1 52) → τ33.2.1 91 e = τ30.2.1 91 e := q31_4
              replace q31_5 : ((τ33.1 49) = 0 ∨ (y_TT τ33 τ33 (τ30.1 5) (τ30.1 5) ∧ y_Un τ33 (τ30.1 5) (τ33.1 48) (τ33.2.1 84))) := q31_5
              replace q31_6 : ¬ x32 = -1 → x32 = (τ30.1 51) ∧ (τ30.1 51) < (τ33.1 51) := q31_6
              replace q31_7 : ¬ x32 = -1 → ∃ wt : Int → Int, y_TW τ33 wt (τ30.1 51) (τ33.1 51) := q31_7
              replace q31_8 : ¬ x32 = -1 → ∀ y : Int, (τ30.1 51) ≤ y → y < (τ33.1 51) → 0 ≤ τ33.2.1 88 y ∧ τ33.2.1 88 y ≤ τ33.2.1 89 y ∧ τ33.2.1 89 y ≤ 59 := q31_8
              have w0_τ33 : τ33.1 0 = τ30.1 0 := hf_τ33.1 0 (by decide)
              have w1_τ33 : τ33.1 1 = τ30.1 1 := hf_τ33.1 1 (by decide)
              have w3_τ33 : τ33.1 3 = τ30.1 3 := hf_τ33.1 3 (by decide)
              have w4_τ33 : τ33.1 4 = τ30.1 4 := hf_τ33.1 4 (by decide)
              have w5_τ33 : τ33.1 5 = τ30.1 5 := hf_τ33.1 5 (by decide)
              have w10_τ33 : τ33.1 10 = τ30.1 10 := hf_τ33.1 10 (by decide)
              have w11_τ33 : τ33.1 11 = τ30.1 11 := hf_τ33.1 11 (by decide)
              have g6_τ33 : τ33.2.1 6 = τ30.2.1 6 := hf_τ33.2.1 6 (by decide)
              have g8_τ33 : τ33.2.1 8 = τ30.2.1 8 := hf_τ33.2.1 8 (by decide)
              have g10_τ33 : τ33.2.1 10 = τ30.2.1 10 := hf_τ33.2.1 10 (by decide)
              have g12_τ33 : τ33.2.1 12 = τ30.2.1 12 := hf_τ33.2.1 12 (by decide)
              have g13_τ33 : τ33.2.1 13 = τ30.2.1 13 := hf_τ33.2.1 13 (by decide)
              have g14_τ33 : τ33.2.1 14 = τ30.2.1 14 := hf_τ33.2.1 14 (by decide)
              have g15_τ33 : τ33.2.1 15 = τ30.2.1 15 := hf_τ33.2.1 15 (by decide)
              have g16_τ33 : τ33.2.1 16 = τ30.2.1 16 := hf_τ33.2.1 16 (by decide)
              have g17_τ33 : τ33.2.1 17 = τ30.2.1 17 := hf_τ33.2.1 17 (by decide)
              have g18_τ33 : τ33.2.1 18 = τ30.2.1 18 := hf_τ33.2.1 18 (by decide)
              have g19_τ33 : τ33.2.1 19 = τ30.2.1 19 := hf_τ33.2.1 19 (by decide)
              have g20_τ33 : τ33.2.1 20 = τ30.2.1 20 := hf_τ33.2.1 20 (by decide)
              have g94_τ33 : τ33.2.1 94 = τ30.2.1 94 := hf_τ33.2.1 94 (by decide)
              have g95_τ33 : τ33.2.1 95 = τ30.2.1 95 := hf_τ33.2.1 95 (by decide)
              have g103_τ33 : τ33.2.1 103 = τ30.2.1 103 := hf_τ33.2.1 103 (by decide)
              have g104_τ33 : τ33.2.1 104 = τ30.2.1 104 := hf_τ33.2.1 104 (by decide)
              first | (have o6_τ33 := congrArg oc g6_τ33) | skip
              have W3 : τ33.1 3 = σ.1 3 := by first | exact w3_τ33.trans W3 | omega
              have W4 : τ33.1 4 = σ.1 4 := by first | exact w4_τ33.trans W4 | omega
              have W5 : τ33.1 5 = σ.1 5 := by first | exact w5_τ33.trans W5 | omega
              have W10 : τ33.1 10 = σ.1 10 := by first | exact w10_τ33.trans W10 | omega
              have W11 : τ33.1 11 = σ.1 11 := by first | exact w11_τ33.trans W11 | omega
              have G6 : τ33.2.1 6 = σ.2.1 6 := (g6_τ33).trans G6
              have G8 : τ33.2.1 8 = σ.2.1 8 := (g8_τ33).trans G8
              have G10 : τ33.2.1 10 = σ.2.1 10 := (g10_τ33).trans G10
              have G12 : τ33.2.1 12 = σ.2.1 12 := (g12_τ33).trans G12
              have G13 : τ33.2.1 13 = σ.2.1 13 := (g13_τ33).trans G13
              have G14 : τ33.2.1 14 = σ.2.1 14 := (g14_τ33).trans G14
              have G15 : τ33.2.1 15 = σ.2.1 15 := (g15_τ33).trans G15
              have G16 : τ33.2.1 16 = σ.2.1 16 := (g16_τ33).trans G16
              have G17 : τ33.2.1 17 = σ.2.1 17 := (g17_τ33).trans G17
              have G18 : τ33.2.1 18 = σ.2.1 18 := (g18_τ33).trans G18
              have G19 : τ33.2.1 19 = σ.2.1 19 := (g19_τ33).trans G19
              have G20 : τ33.2.1 20 = σ.2.1 20 := (g20_τ33).trans G20
              have G95 : τ33.2.1 95 = σ.2.1 95 := (g95_τ33).trans G95
              have Y20 : ca (τ33.2.1 12) ((τ33.1 3)) ≤ (τ33.1 4) := by rw [show (ca (τ33.2.1 12) ((τ33.1 3)) ≤ (τ33.1 4)) = (ca (τ30.2.1 12) ((τ30.1 3)) ≤ (τ30.1 4)) from by rw [w3_τ33, w4_τ33, g12_τ33]]; exact Y20
              have Y1 : j_l2 (τ33.2.1 6) (τ33.1 3) := by rw [show (j_l2 (τ33.2.1 6) (τ33.1 3)) = (j_l2 (τ30.2.1 6) (τ30.1 3)) from by rw [w3_τ33, g6_τ33]]; exact Y1
              have STt : j_l2 (τ33.2.1 6) (τ33.1 3) := by rw [show (j_l2 (τ33.2.1 6) (τ33.1 3)) = (j_l2 (τ30.2.1 6) (τ30.1 3)) from by rw [w3_τ33, g6_τ33]]; exact STt
              have A6 : ∀ j, (-1) ≤ τ33.2.1 6 j ∧ τ33.2.1 6 j ≤ 999 := fun j => hT.2 6 j
              have A8 : ∀ j, 0 ≤ τ33.2.1 8 j ∧ τ33.2.1 8 j ≤ 1 := fun j => hT.2 8 j
              have A10 : ∀ j, (-1) ≤ τ33.2.1 10 j ∧ τ33.2.1 10 j ≤ 999 := fun j => hT.2 10 j
              have A12 : ∀ j, 0 ≤ τ33.2.1 12 j ∧ τ33.2.1 12 j ≤ 1 := fun j => hT.2 12 j
              have A13 : ∀ j, 0 ≤ τ33.2.1 13 j ∧ τ33.2.1 13 j ≤ 4 := fun j => hT.2 13 j
              have A14 : ∀ j, 0 ≤ τ33.2.1 14 j ∧ τ33.2.1 14 j ≤ 30000 := fun j => hT.2 14 j
              have A15 : ∀ j, 0 ≤ τ33.2.1 15 j ∧ τ33.2.1 15 j ≤ 300 := fun j => hT.2 15 j
              have A16 : ∀ j, 0 ≤ τ33.2.1 16 j ∧ τ33.2.1 16 j ≤ 999 := fun j => hT.2 16 j
              have A17 : ∀ j, (-1) ≤ τ33.2.1 17 j ∧ τ33.2.1 17 j ≤ 1499 := fun j => hT.2 17 j
              have A18 : ∀ j, 0 ≤ τ33.2.1 18 j ∧ τ33.2.1 18 j ≤ 90000 := fun j => hT.2 18 j
              have A19 : ∀ j, 0 ≤ τ33.2.1 19 j ∧ τ33.2.1 19 j ≤ 60 := fun j => hT.2 19 j
              have A20 : ∀ j, 0 ≤ τ33.2.1 20 j ∧ τ33.2.1 20 j ≤ 1499 := fun j => hT.2 20 j
              have A86 : ∀ j, (-1500) ≤ τ33.2.1 86 j ∧ τ33.2.1 86 j ≤ 1499 := fun j => hT.2 86 j
              have A87 : ∀ j, 0 ≤ τ33.2.1 87 j ∧ τ33.2.1 87 j ≤ 120000 := fun j => hT.2 87 j
              have A88 : ∀ j, 0 ≤ τ33.2.1 88 j ∧ τ33.2.1 88 j ≤ 59 := fun j => hT.2 88 j
              have A89 : ∀ j, 0 ≤ τ33.2.1 89 j ∧ τ33.2.1 89 j ≤ 59 := fun j => hT.2 89 j
              have A90 : ∀ j, (-1) ≤ τ33.2.1 90 j ∧ τ33.2.1 90 j ≤ 99 := fun j => hT.2 90 j
              have A91 : ∀ j, 0 ≤ τ33.2.1 91 j ∧ τ33.2.1 91 j ≤ 60000 := fun j => hT.2 91 j
              have A94 : ∀ j, (-1) ≤ τ33.2.1 94 j ∧ τ33.2.1 94 j ≤ 2 := fun j => hT.2 94 j
              have A95 : ∀ j, (-9) ≤ τ33.2.1 95 j ∧ τ33.2.1 95 j ≤ 1499 := fun j => hT.2 95 j
              have A103 : ∀ j, 0 ≤ τ33.2.1 103 j ∧ τ33.2.1 103 j ≤ 999 := fun j => hT.2 103 j
              have A104 : ∀ j, (-1) ≤ τ33.2.1 104 j ∧ τ33.2.1 104 j ≤ 59 := fun j => hT.2 104 j
              have v0 : 0 ≤ τ33.1 0 ∧ τ33.1 0 ≤ 60000 := hT.1 0
              have v1 : 0 ≤ τ33.1 1 ∧ τ33.1 1 ≤ 1 := hT.1 1
              have v3 : 0 ≤ τ33.1 3 ∧ τ33.1 3 ≤ 1000 := hT.1 3
              have v4 : 0 ≤ τ33.1 4 ∧ τ33.1 4 ≤ 100 := hT.1 4
              have v5 : 0 ≤ τ33.1 5 ∧ τ33.1 5 ≤ 1500 := hT.1 5
              have v10 : (-1) ≤ τ33.1 10 ∧ τ33.1 10 ≤ 999 := hT.1 10
              have v11 : (-1) ≤ τ33.1 11 ∧ τ33.1 11 ≤ 999 := hT.1 11
              have v45 : 0 ≤ τ33.1 45 ∧ τ33.1 45 ≤ 59 := hT.1 45
              have v48 : 0 ≤ τ33.1 48 ∧ τ33.1 48 ≤ 1500 := hT.1 48
              have v49 : 0 ≤ τ33.1 49 ∧ τ33.1 49 ≤ 1 := hT.1 49
              have v50 : 0 ≤ τ33.1 50 ∧ τ33.1 50 ≤ 1500 := hT.1 50
              have v51 : 0 ≤ τ33.1 51 ∧ τ33.1 51 ≤ 60000 := hT.1 51
              have v52 : 0 ≤ τ33.1 52 ∧ τ33.1 52 ≤ 120000 := hT.1 52
              have SF33 := y_SF_h hf_τ33 rfl rfl
              have e9433 : τ33.2.1 94 = τ30.2.1 94 := hf_τ33.2.1 94 (by decide)
              have e733 : τ33.2.2 7 = τ30.2.2 7 := hf_τ33.2.2 7 (by decide)
              have KC33 := y_KC_e e9433 e733
              have DT33 := y_DT_k BI30.1.2.2.2.1 hT30 SF33 KC33 (hf_τ33.2.1 95 (by decide))
              have BI33 := y_BI_r BI30 hf_τ33 (y_CT_e SF33.1 SF33.2.2.1 SF33.2.2.2.1 SF33.2.2.2.2.2 e9433 e733 BI30.1.1) q31_5 ⟨by omega, by omega⟩ KC33 DT33 rfl rfl
              have AP33 : ¬ x32 = -1 → z_AP σ τ33 x29 x32 := (by intro z; have r6 := q31_6 z; obtain ⟨wt2, TW2⟩ := q31_7 z; have rn := q31_8 z; rw [← r6.1] at TW2 rn; have h51 : τ33.1 51 ≤ 60000 := (hT.1 51).2; have h51b := (hT.1 51); refine ⟨wt, wt2, τ30.1 51, τ33.1 51, y_TW_e TW SF33.2.2.1 SF33.1.2.2.2.2.2.2.2.2.1 (by omega) (fun y _ b => (q31_3 y b).1) (fun e _ b => q31_4 e b), ⟨by omega, l29, by omega⟩, TW2, ⟨by omega, by omega, by omega⟩, rn, fun y a b c => ?_⟩; rw [(q31_3 y b).1.1] at c ⊢; have w := LF30 y a b c; rw [SF33.1.2.2.2.2.1, SF33.1.2.2.2.2.2.2.1, SF30.1.2.2.2.2.1, SF30.1.2.2.2.2.2.2.1]; omega)
              refine ⟨fun c34 => ?_, fun c34 => ?_⟩
              ·
                exact l_103 ((1002 - 0 : Int).toNat + 1) _ _ _ _ (show (1002 - 0 : Int) < (((1002 - 0 : Int).toNat + 1 : Nat) : Int) from by ((first | omega | (simp only [st_s] <;> omega) | assumption | omega | fail))) hT (show τ33.1 3 = σ.1 3 from by first | exact W3 | omega) (show τ33.1 4 = σ.1 4 from by first | exact W4 | omega) (show τ33.1 5 = σ.1 5 from by first | exact W5 | omega) (show τ33.1 10 = σ.1 10 from by first | exact W10 | omega) (show τ33.1 11 = σ.1 11 from by first | exact W11 | omega) G6 G8 G10 G12 G13 G14 G15 G16 G17 G18 G19 G20 G95 (show y_BI σ τ33 from by (first | exact BI33 | exact y_BI_g i103_1 hTk (f_a f_0 (by simp) : f_r [] [104] [] _ _) rfl rfl rfl | fail)) (show (τ33.1 0) = 0 ∧ (τ33.1 1) = 0 from by (first | omega | (simp only [st_s] <;> omega) | assumption | omega | fail)) (show 0 ≤ 0 ∧ 0 ≤ (σ.1 3) from by (first | omega | (simp only [st_s] <;> omega) | assumption | omega | fail)) (show ∀ s : Int, 0 ≤ s → s < 0 → τ33.2.1 104 s = -1 from by (first | (intro s a b; exfalso; omega) | (intro s a b; rcases (by omega : s < u5_103 ∨ s = u5_103) with y | y; (rw [st_n _ _ (by omega)]; exact i103_4 s a y); (rw [y, st_s])) | fail)) (show z_AP σ τ33 x29 x32 from by (first | exact AP33 (by assumption) | exact i103_5 | fail)) (show 0 ≤ n1 ∧ n1 < 1500 from by (first | omega | (simp only [st_s] <;> omega) | assumption | omega | fail))
              ·
                exact ⟨hT, (show y_BI σ τ33 from by (first | exact BI6 | exact BI18 | exact BI26 | exact BI33 | exact BI38 | exact BI42 | exact BI46 | fail)), (show (τ33.1 0) = 0 ∧ (τ33.1 1) = 0 from by (first | omega | (simp only [st_s] <;> omega) | assumption | omega | fail))⟩
            ·
              exact ⟨hT, (show y_BI σ τ26 from by (first | exact BI6 | exact BI18 | exact BI26 | exact BI33 | exact BI38 | exact BI42 | exact BI46 | fail)), (show (τ26.1 0) = 0 ∧ (τ26.1 1) = 0 from by (first | omega | (simp only [st_s] <;> omega) | assumption | omega | fail))⟩
        ·
          exact ⟨hT, (show y_BI σ τ6 from by (first | exact BI6 | exact BI18 | exact BI26 | exact BI33 | exact BI38 | exact BI42 | exact BI46 | fail)), (show (τ6.1 0) = 0 ∧ (τ6.1 1) = 0 from by (first | omega | (simp only [st_s] <;> omega) | assumption | omega | fail))⟩
    ·
      exact ⟨hT, (show y_BI σ τ6 from by (first | exact BI6 | exact BI18 | exact BI26 | exact BI33 | exact BI38 | exact BI42 | exact BI46 | fail)), (show (τ6.1 0) = 0 ∧ (τ6.1 1) = 0 from by (first | omega | (simp only [st_s] <;> omega) | assumption | omega | fail))⟩
