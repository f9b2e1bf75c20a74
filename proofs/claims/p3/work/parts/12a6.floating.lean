-- pure: the model reads floating hypotheses
set_option maxHeartbeats 8000000 in
theorem K3_X13_readFloating {σ : S0} (hT : m_T σ) (p1 : (σ.1 16) ≤ (σ.1 0)) (p2 : (σ.1 17) + (σ.1 18) ≤ (σ.1 0)) (p3 : oc (σ.2.1 6) < 4096) (p4 : oc (σ.2.1 7) < 4096) (p5 : σ.2.1 15 (σ.1 22) = 0) (p6 : (σ.1 22) = (σ.1 5)) (p7 : σ.2.1 14 (σ.1 22) + σ.2.1 15 (σ.1 22) = (σ.1 6)) (p8 : ca (σ.2.1 12) ((σ.1 3)) ≤ (σ.1 4)) (p9 : (σ.1 5) < 1500) (p10 : (σ.1 13) ≤ (σ.1 5)) (p11 : j_l2 (σ.2.1 6) (σ.1 3)) (p12 : n_S σ) (p13 : n_J σ) (p14 : m_J σ) : W_X13_readFloating σ (fun (τ : S0) => (m_T τ) ∧ ((τ.1 16) ≤ (τ.1 0)) ∧ ((τ.1 17) + (τ.1 18) ≤ (τ.1 0)) ∧ (¬ (σ.1 20) = 0 → (τ.1 20) = (σ.1 20)) ∧ (τ.2.1 14 (τ.1 22) + τ.2.1 15 (τ.1 22) = (τ.1 6)) ∧ (ca (τ.2.1 12) ((τ.1 3)) ≤ (τ.1 4)) ∧ ((τ.1 13) ≤ (τ.1 5)) ∧ ((τ.1 20) = 0 → (τ.1 5) = (σ.1 5) + 1 ∧ 2 ≤ τ.2.1 15 (τ.1 22)) ∧ ((τ.1 5) ≤ (σ.1 5) + 1) ∧ ((σ.1 16) ≤ (τ.1 16)) ∧ (m_ag σ τ) ∧ ((τ.1 20) = 0 → n_J1 (σ.1 5) τ ∧ n_S τ) ∧ (n_rl σ τ) ∧ (n_hk σ τ)) := by
  have A6 : ∀ j, (-1) ≤ σ.2.1 6 j ∧ σ.2.1 6 j ≤ 999 := fun j => hT.2 6 j
  have A7 : ∀ j, (-1) ≤ σ.2.1 7 j ∧ σ.2.1 7 j ≤ 1499 := fun j => hT.2 7 j
  have A8 : ∀ j, 0 ≤ σ.2.1 8 j ∧ σ.2.1 8 j ≤ 1 := fun j => hT.2 8 j
  have A9 : ∀ j, 0 ≤ σ.2.1 9 j ∧ σ.2.1 9 j ≤ 1 := fun j => hT.2 9 j
  have A10 : ∀ j, (-1) ≤ σ.2.1 10 j ∧ σ.2.1 10 j ≤ 999 := fun j => hT.2 10 j
  have A11 : ∀ j, (-1) ≤ σ.2.1 11 j ∧ σ.2.1 11 j ≤ 1499 := fun j => hT.2 11 j
  have A12 : ∀ j, 0 ≤ σ.2.1 12 j ∧ σ.2.1 12 j ≤ 1 := fun j => hT.2 12 j
  have A13 : ∀ j, 0 ≤ σ.2.1 13 j ∧ σ.2.1 13 j ≤ 4 := fun j => hT.2 13 j
  have A14 : ∀ j, 0 ≤ σ.2.1 14 j ∧ σ.2.1 14 j ≤ 30000 := fun j => hT.2 14 j
  have A15 : ∀ j, 0 ≤ σ.2.1 15 j ∧ σ.2.1 15 j ≤ 300 := fun j => hT.2 15 j
  have A16 : ∀ j, 0 ≤ σ.2.1 16 j ∧ σ.2.1 16 j ≤ 999 := fun j => hT.2 16 j
  have A17 : ∀ j, (-1) ≤ σ.2.1 17 j ∧ σ.2.1 17 j ≤ 1499 := fun j => hT.2 17 j
  have A31 : ∀ j, 0 ≤ σ.2.1 31 j ∧ σ.2.1 31 j ≤ 1499 := fun j => hT.2 31 j
  have A35 : ∀ j, 0 ≤ σ.2.1 35 j ∧ σ.2.1 35 j ≤ 1500 := fun j => hT.2 35 j
  have v0 : 0 ≤ σ.1 0 ∧ σ.1 0 ≤ 60000 := hT.1 0
  have v3 : 0 ≤ σ.1 3 ∧ σ.1 3 ≤ 1000 := hT.1 3
  have v4 : 0 ≤ σ.1 4 ∧ σ.1 4 ≤ 100 := hT.1 4
  have v5 : 0 ≤ σ.1 5 ∧ σ.1 5 ≤ 1500 := hT.1 5
  have v6 : 0 ≤ σ.1 6 ∧ σ.1 6 ≤ 30000 := hT.1 6
  have v7 : 0 ≤ σ.1 7 ∧ σ.1 7 ≤ 90000 := hT.1 7
  have v8 : 0 ≤ σ.1 8 ∧ σ.1 8 ≤ 20000 := hT.1 8
  have v9 : 0 ≤ σ.1 9 ∧ σ.1 9 ≤ 20000 := hT.1 9
  have v10 : (-1) ≤ σ.1 10 ∧ σ.1 10 ≤ 999 := hT.1 10
  have v11 : (-1) ≤ σ.1 11 ∧ σ.1 11 ≤ 999 := hT.1 11
  have v13 : 0 ≤ σ.1 13 ∧ σ.1 13 ≤ 1500 := hT.1 13
  have v15 : 0 ≤ σ.1 15 ∧ σ.1 15 ≤ 50 := hT.1 15
  have v16 : 0 ≤ σ.1 16 ∧ σ.1 16 ≤ 60000 := hT.1 16
  have v17 : 0 ≤ σ.1 17 ∧ σ.1 17 ≤ 60000 := hT.1 17
  have v18 : 0 ≤ σ.1 18 ∧ σ.1 18 ≤ 60000 := hT.1 18
  have v19 : (-1) ≤ σ.1 19 ∧ σ.1 19 ≤ 125 := hT.1 19
  have v20 : 0 ≤ σ.1 20 ∧ σ.1 20 ≤ 19 := hT.1 20
  have v22 : 0 ≤ σ.1 22 ∧ σ.1 22 ≤ 1499 := hT.1 22
  have a14_22 : 0 ≤ σ.2.1 14 (σ.1 22) ∧ σ.2.1 14 (σ.1 22) ≤ 30000 := hT.2 14 _
  have a15_22 : 0 ≤ σ.2.1 15 (σ.1 22) ∧ σ.2.1 15 (σ.1 22) ≤ 300 := hT.2 15 _
  have W0 : σ.1 0 = σ.1 0 := rfl
  have W3 : σ.1 3 = σ.1 3 := rfl
  have W7 : σ.1 7 = σ.1 7 := rfl
  have W8 : σ.1 8 = σ.1 8 := rfl
  have W9 : σ.1 9 = σ.1 9 := rfl
  have W10 : σ.1 10 = σ.1 10 := rfl
  have W11 : σ.1 11 = σ.1 11 := rfl
  have W15 : σ.1 15 = σ.1 15 := rfl
  have W22 : σ.1 22 = σ.1 22 := rfl
  have G6 : σ.2.1 6 = σ.2.1 6 := rfl
  have G7 : σ.2.1 7 = σ.2.1 7 := rfl
  have G8 : σ.2.1 8 = σ.2.1 8 := rfl
  have G9 : σ.2.1 9 = σ.2.1 9 := rfl
  have G14 : σ.2.1 14 = σ.2.1 14 := rfl
  have G35 : σ.2.1 35 = σ.2.1 35 := rfl
  have ag : m_ag σ σ := ag_0 σ
  intro P15 P47 P135 P158 P167 P211 P253 h15 h47 h135 h158 h167 h211 h253
  have hT0 := hT
  have Z1 : σ.2.1 14 (σ.1 22) + σ.2.1 15 (σ.1 22) = (σ.1 6) := p7
  have Y20 : ca (σ.2.1 12) ((σ.1 3)) ≤ (σ.1 4) := p8
  have Y1 : j_l2 (σ.2.1 6) (σ.1 3) := p11
  have STt : j_l2 (σ.2.1 6) (σ.1 3) := p11
  have STt_0 := STt
  have Y1_0 := Y1
  have Y20_0 := Y20
  have Z1_0 := Z1
  have l_253 : ∀ (u1_253 : Int) (u2_253 : Int) (τ_253 : S0), (m_T τ_253) → (m_ag σ τ_253) → (τ_253.1 0 = σ.1 0) → (τ_253.1 3 = σ.1 3) → (τ_253.1 7 = σ.1 7) → (τ_253.1 8 = σ.1 8) → (τ_253.1 9 = σ.1 9) → (τ_253.1 10 = σ.1 10) → (τ_253.1 11 = σ.1 11) → (τ_253.1 15 = σ.1 15) → (τ_253.1 22 = σ.1 22) → (τ_253.2.1 6 = σ.2.1 6) → (τ_253.2.1 7 = σ.2.1 7) → (τ_253.2.1 8 = σ.2.1 8) → (τ_253.2.1 9 = σ.2.1 9) → (τ_253.2.1 14 = σ.2.1 14) → (τ_253.2.1 35 = σ.2.1 35) → ((τ_253.1 16) ≤ (τ_253.1 0)) → ((τ_253.1 17) + (τ_253.1 18) ≤ (τ_253.1 0)) → (oc (τ_253.2.1 6) < 4096) → (oc (τ_253.2.1 7) < 4096) → (¬ (σ.1 20) = 0 → (τ_253.1 20) = (σ.1 20)) → (τ_253.2.1 14 (τ_253.1 22) + τ_253.2.1 15 (τ_253.1 22) = (τ_253.1 6)) → (ca (τ_253.2.1 12) ((τ_253.1 3)) ≤ (τ_253.1 4)) → ((τ_253.1 5) = (σ.1 5)) → ((τ_253.1 13) = (σ.1 13)) → (τ_253.2.1 15 (τ_253.1 22) ≤ 2) → ((σ.1 16) ≤ (τ_253.1 16)) → (-1 ≤ u1_253) → (u1_253 ≤ 999) → (0 ≤ u2_253) → (u2_253 ≤ 999) → (0 ≤ u1_253) → (τ_253.2.1 15 (τ_253.1 22) = 2) → (τ_253.2.1 11 = σ.2.1 11) → (τ_253.2.1 31 = σ.2.1 31) → (τ_253.2.1 13 = σ.2.1 13) → (τ_253.2.1 10 = σ.2.1 10) → (n_rl σ τ_253) → (u1_253 < (σ.1 3) ∧ ¬ σ.2.1 8 u1_253 = 0 ∧ σ.2.1 11 u1_253 = -1 ∧ (σ.2.1 10 u1_253 = -1 ∨ σ.2.1 10 u1_253 = u2_253)) → (n_N0 (τ_253.2.1 14 (τ_253.1 22)) (σ.1 3) (σ.2.1 8) (τ_253.2.1 12) (τ_253.2.1 16) (τ_253.2.1 17)) → (τ_253.2.1 16 (τ_253.2.1 14 (τ_253.1 22) + 1) = u1_253 ∧ τ_253.2.1 17 (τ_253.2.1 14 (τ_253.1 22) + 1) = (τ_253.1 22)) → (u2_253 = τ_253.2.1 16 (τ_253.2.1 14 (τ_253.1 22))) → P253 u1_253 u2_253 τ_253 := by
    intro u1_253 u2_253 τ_253 hT ag W0 W3 W7 W8 W9 W10 W11 W15 W22 G6 G7 G8 G9 G14 G35 i253_1 i253_2 i253_3 i253_4 i253_5 i253_6 i253_7 i253_8 i253_9 i253_10 i253_11 i253_12 i253_13 i253_14 i253_15 i253_16 i253_17 i253_18 i253_19 i253_20 i253_21 i253_22 i253_23 i253_24 i253_25 i253_26
    have A6 : ∀ j, (-1) ≤ τ_253.2.1 6 j ∧ τ_253.2.1 6 j ≤ 999 := fun j => hT.2 6 j
    have A7 : ∀ j, (-1) ≤ τ_253.2.1 7 j ∧ τ_253.2.1 7 j ≤ 1499 := fun j => hT.2 7 j
    have A8 : ∀ j, 0 ≤ τ_253.2.1 8 j ∧ τ_253.2.1 8 j ≤ 1 := fun j => hT.2 8 j
    have A9 : ∀ j, 0 ≤ τ_253.2.1 9 j ∧ τ_253.2.1 9 j ≤ 1 := fun j => hT.2 9 j
    have A10 : ∀ j, (-1) ≤ τ_253.2.1 10 j ∧ τ_253.2.1 10 j ≤ 999 := fun j => hT.2 10 j
    have A11 : ∀ j, (-1) ≤ τ_253.2.1 11 j ∧ τ_253.2.1 11 j ≤ 1499 := fun j => hT.2 11 j
    have A12 : ∀ j, 0 ≤ τ_253.2.1 12 j ∧ τ_253.2.1 12 j ≤ 1 := fun j => hT.2 12 j
    have A13 : ∀ j, 0 ≤ τ_253.2.1 13 j ∧ τ_253.2.1 13 j ≤ 4 := fun j => hT.2 13 j
    have A14 : ∀ j, 0 ≤ τ_253.2.1 14 j ∧ τ_253.2.1 14 j ≤ 30000 := fun j => hT.2 14 j
    have A15 : ∀ j, 0 ≤ τ_253.2.1 15 j ∧ τ_253.2.1 15 j ≤ 300 := fun j => hT.2 15 j
    have A16 : ∀ j, 0 ≤ τ_253.2.1 16 j ∧ τ_253.2.1 16 j ≤ 999 := fun j => hT.2 16 j
    have A17 : ∀ j, (-1) ≤ τ_253.2.1 17 j ∧ τ_253.2.1 17 j ≤ 1499 := fun j => hT.2 17 j
    have A31 : ∀ j, 0 ≤ τ_253.2.1 31 j ∧ τ_253.2.1 31 j ≤ 1499 := fun j => hT.2 31 j
    have A35 : ∀ j, 0 ≤ τ_253.2.1 35 j ∧ τ_253.2.1 35 j ≤ 1500 := fun j => hT.2 35 j
    have v0 : 0 ≤ τ_253.1 0 ∧ τ_253.1 0 ≤ 60000 := hT.1 0
    have v3 : 0 ≤ τ_253.1 3 ∧ τ_253.1 3 ≤ 1000 := hT.1 3
    have v4 : 0 ≤ τ_253.1 4 ∧ τ_253.1 4 ≤ 100 := hT.1 4
    have v5 : 0 ≤ τ_253.1 5 ∧ τ_253.1 5 ≤ 1500 := hT.1 5
    have v6 : 0 ≤ τ_253.1 6 ∧ τ_253.1 6 ≤ 30000 := hT.1 6
    have v7 : 0 ≤ τ_253.1 7 ∧ τ_253.1 7 ≤ 90000 := hT.1 7
    have v8 : 0 ≤ τ_253.1 8 ∧ τ_253.1 8 ≤ 20000 := hT.1 8
    have v9 : 0 ≤ τ_253.1 9 ∧ τ_253.1 9 ≤ 20000 := hT.1 9
    have v10 : (-1) ≤ τ_253.1 10 ∧ τ_253.1 10 ≤ 999 := hT.1 10
    have v11 : (-1) ≤ τ_253.1 11 ∧ τ_253.1 11 ≤ 999 := hT.1 11
    have v13 : 0 ≤ τ_253.1 13 ∧ τ_253.1 13 ≤ 1500 := hT.1 13
    have v15 : 0 ≤ τ_253.1 15 ∧ τ_253.1 15 ≤ 50 := hT.1 15
    have v16 : 0 ≤ τ_253.1 16 ∧ τ_253.1 16 ≤ 60000 := hT.1 16
    have v17 : 0 ≤ τ_253.1 17 ∧ τ_253.1 17 ≤ 60000 := hT.1 17
    have v18 : 0 ≤ τ_253.1 18 ∧ τ_253.1 18 ≤ 60000 := hT.1 18
    have v19 : (-1) ≤ τ_253.1 19 ∧ τ_253.1 19 ≤ 125 := hT.1 19
    have v20 : 0 ≤ τ_253.1 20 ∧ τ_253.1 20 ≤ 19 := hT.1 20
    have v22 : 0 ≤ τ_253.1 22 ∧ τ_253.1 22 ≤ 1499 := hT.1 22
    have a14_22 : 0 ≤ τ_253.2.1 14 (τ_253.1 22) ∧ τ_253.2.1 14 (τ_253.1 22) ≤ 30000 := hT.2 14 _
    have a15_22 : 0 ≤ τ_253.2.1 15 (τ_253.1 22) ∧ τ_253.2.1 15 (τ_253.1 22) ≤ 300 := hT.2 15 _
    have av5 : σ.1 5 ≤ τ_253.1 5 := ag.1 5 (by decide)
    have av6 : σ.1 6 ≤ τ_253.1 6 := ag.1 6 (by decide)
    have y14_22_τ_253 : τ_253.2.1 14 (τ_253.1 22) = σ.2.1 14 (σ.1 22) := by rw [G14, W22]
    have o6_τ_253 := congrArg oc G6
    have o7_τ_253 := congrArg oc G7
    have ca_τ_253 := congr (congrArg ca G9) W3
    have Z1 : τ_253.2.1 14 (τ_253.1 22) + τ_253.2.1 15 (τ_253.1 22) = (τ_253.1 6) := i253_6
    have Y20 : ca (τ_253.2.1 12) ((τ_253.1 3)) ≤ (τ_253.1 4) := i253_7
    have Y1 : j_l2 (τ_253.2.1 6) (τ_253.1 3) := by rw [show (j_l2 (τ_253.2.1 6) (τ_253.1 3)) = (j_l2 (σ.2.1 6) (σ.1 3)) from by rw [W3, G6]]; exact Y1_0
    have STt : j_l2 (τ_253.2.1 6) (τ_253.1 3) := by rw [show (j_l2 (τ_253.2.1 6) (τ_253.1 3)) = (j_l2 (σ.2.1 6) (σ.1 3)) from by rw [W3, G6]]; exact STt_0
    have ag253 := ag
    have hT253 := hT
    refine h253 u1_253 u2_253 τ_253 ?_
    refine ⟨fun c74 => ?_, fun c74 => ?_⟩
    ·
      exact ⟨hT, (show (τ_253.1 16) ≤ (τ_253.1 0) from by (first | omega | (simp only [st_s] <;> omega) | assumption | omega | fail)), (show (τ_253.1 17) + (τ_253.1 18) ≤ (τ_253.1 0) from by (first | omega | (simp only [st_s] <;> omega) | assumption | omega | fail)), (show ¬ (σ.1 20) = 0 → (τ_253.1 20) = (σ.1 20) from by (first | omega | (simp only [st_s] <;> omega) | assumption | omega | fail)), (show τ_253.2.1 14 (τ_253.1 22) + τ_253.2.1 15 (τ_253.1 22) = (τ_253.1 6) from Z1), (show ca (τ_253.2.1 12) ((τ_253.1 3)) ≤ (τ_253.1 4) from Y20), (show (τ_253.1 13) ≤ (τ_253.1 5) from by (first | omega | (simp only [st_s] <;> omega) | assumption | omega | fail)), (show (τ_253.1 20) = 0 → (τ_253.1 5) = (σ.1 5) + 1 ∧ 2 ≤ τ_253.2.1 15 (τ_253.1 22) from by (first | omega | (simp only [st_s] <;> omega) | assumption | omega | fail)), (show (τ_253.1 5) ≤ (σ.1 5) + 1 from by (first | omega | (simp only [st_s] <;> omega) | assumption | omega | fail)), (show (σ.1 16) ≤ (τ_253.1 16) from by (first | omega | (simp only [st_s] <;> omega) | assumption | omega | fail)), ag, (show (τ_253.1 20) = 0 → n_J1 (σ.1 5) τ_253 ∧ n_S τ_253 from by (first | (intro z; exfalso; omega) | exact fun _ => ⟨j81, s81⟩ | fail)), (show n_rl σ τ_253 from by (first | exact i15_17 | exact i47_17 | exact i211_21 | exact i253_22 | exact rl81 | fail)), (show n_hk σ τ_253 from by (first | exact hk81 | exact n_hk_g (by omega) (by omega) i15_14 G35 | exact n_hk_g (by omega) (by omega) i47_14 G35 | exact n_hk_g (by omega) (by omega) i211_18 G35 | exact n_hk_g (by omega) (by omega) i253_19 G35 | fail))⟩
    ·
      refine ⟨(show 0 ≤ u1_253 ∧ u1_253 < 1001 from by (first | omega | (simp only [st_s] <;> omega) | assumption | omega | fail)), ?_⟩
      replace ag := ag_a (k := 10) (e := u1_253) (x := u2_253) ag rfl
      replace hT := mT_a (k := 10) (j := u1_253) hT (show (-1 : Int) ≤ u2_253 ∧ u2_253 ≤ 999 from by (first | omega | (simp only [st_s] <;> omega) | assumption | omega | fail))
      replace ag := ag_a (k := 11) (e := u1_253) (x := (τ_253.1 22)) ag rfl
      replace hT := mT_a (k := 11) (j := u1_253) hT (show (-1 : Int) ≤ (τ_253.1 22) ∧ (τ_253.1 22) ≤ 1499 from by (first | omega | (simp only [st_s] <;> omega) | assumption | omega | fail))
      refine ⟨_, K3_X13_finish hT (show 0 ≤ (0 : Int) from by (first | omega | (simp only [st_s] <;> omega) | assumption | omega | fail)) (show (0 : Int) ≤ 4 from by (first | omega | (simp only [st_s] <;> omega) | assumption | omega | fail)) (show (τ_253.1 5) < 1500 from by (first | omega | (simp only [st_s] <;> omega) | assumption | omega | fail)) (show (τ_253.1 22) = (τ_253.1 5) from by (first | omega | (simp only [st_s] <;> omega) | assumption | omega | fail)), ?_⟩
      intro τ78 hn_τ78 hf_τ78 hq
      obtain ⟨hT, q76_1, q76_2, q76_3⟩ := hq
      replace q76_1 : (τ78.1 5) = (τ_253.1 5) + 1 := q76_1
      replace q76_2 : m_ag (s_a (s_a τ_253 10 u1_253 u2_253) 11 u1_253 (τ_253.1 22)) τ78 := q76_2
      replace q76_3 : τ78.2.1 13 = st (τ_253.2.1 13) (τ_253.1 22) (0 : Int) := q76_3
      replace ag : m_ag σ τ78 := ag_t ag q76_2 rfl
      have w0_τ78 : τ78.1 0 = τ_253.1 0 := hf_τ78.1 0 (by decide)
      have w3_τ78 : τ78.1 3 = τ_253.1 3 := hf_τ78.1 3 (by decide)
      have w4_τ78 : τ78.1 4 = τ_253.1 4 := hf_τ78.1 4 (by decide)
      have w6_τ78 : τ78.1 6 = τ_253.1 6 := hf_τ78.1 6 (by decide)
      have w7_τ78 : τ78.1 7 = τ_253.1 7 := hf_τ78.1 7 (by decide)
      have w8_τ78 : τ78.1 8 = τ_253.1 8 := hf_τ78.1 8 (by decide)
      have w9_τ78 : τ78.1 9 = τ_253.1 9 := hf_τ78.1 9 (by decide)
      have w10_τ78 : τ78.1 10 = τ_253.1 10 := hf_τ78.1 10 (by decide)
      have w11_τ78 : τ78.1 11 = τ_253.1 11 := hf_τ78.1 11 (by decide)
      have w13_τ78 : τ78.1 13 = τ_253.1 13 := hf_τ78.1 13 (by decide)
      have w15_τ78 : τ78.1 15 = τ_253.1 15 := hf_τ78.1 15 (by decide)
      have w16_τ78 : τ78.1 16 = τ_253.1 16 := hf_τ78.1 16 (by decide)
      have w17_τ78 : τ78.1 17 = τ_253.1 17 := hf_τ78.1 17 (by decide)
      have w18_τ78 : τ78.1 18 = τ_253.1 18 := hf_τ78.1 18 (by decide)
      have w19_τ78 : τ78.1 19 = τ_253.1 19 := hf_τ78.1 19 (by decide)
      have w20_τ78 : τ78.1 20 = τ_253.1 20 := hf_τ78.1 20 (by decide)
      have w22_τ78 : τ78.1 22 = τ_253.1 22 := hf_τ78.1 22 (by decide)
      have g6_τ78 : τ78.2.1 6 = τ_253.2.1 6 := hf_τ78.2.1 6 (by decide)
      have g7_τ78 : τ78.2.1 7 = τ_253.2.1 7 := hf_τ78.2.1 7 (by decide)
      have g8_τ78 : τ78.2.1 8 = τ_253.2.1 8 := hf_τ78.2.1 8 (by decide)
      have g9_τ78 : τ78.2.1 9 = τ_253.2.1 9 := hf_τ78.2.1 9 (by decide)
      have g10_τ78 : τ78.2.1 10 = (st (τ_253.2.1 10) u1_253 u2_253) := hf_τ78.2.1 10 (by decide)
      have g11_τ78 : τ78.2.1 11 = (st (τ_253.2.1 11) u1_253 (τ_253.1 22)) := hf_τ78.2.1 11 (by decide)
      have g12_τ78 : τ78.2.1 12 = τ_253.2.1 12 := hf_τ78.2.1 12 (by decide)
      have g14_τ78 : τ78.2.1 14 = τ_253.2.1 14 := hf_τ78.2.1 14 (by decide)
      have g15_τ78 : τ78.2.1 15 = τ_253.2.1 15 := hf_τ78.2.1 15 (by decide)
      have g16_τ78 : τ78.2.1 16 = τ_253.2.1 16 := hf_τ78.2.1 16 (by decide)
      have g17_τ78 : τ78.2.1 17 = τ_253.2.1 17 := hf_τ78.2.1 17 (by decide)
      have g31_τ78 : τ78.2.1 31 = τ_253.2.1 31 := hf_τ78.2.1 31 (by decide)
      have g35_τ78 : τ78.2.1 35 = τ_253.2.1 35 := hf_τ78.2.1 35 (by decide)
      first | (have ca_τ78 := congr (congrArg ca g9_τ78) w3_τ78) | skip
      first | (have o6_τ78 := congrArg oc g6_τ78) | skip
      first | (have o7_τ78 := congrArg oc g7_τ78) | skip
      have W0 : τ78.1 0 = σ.1 0 := by first | exact w0_τ78.trans W0 | omega
      have W3 : τ78.1 3 = σ.1 3 := by first | exact w3_τ78.trans W3 | omega
      have W7 : τ78.1 7 = σ.1 7 := by first | exact w7_τ78.trans W7 | omega
      have W8 : τ78.1 8 = σ.1 8 := by first | exact w8_τ78.trans W8 | omega
      have W9 : τ78.1 9 = σ.1 9 := by first | exact w9_τ78.trans W9 | omega
      have W10 : τ78.1 10 = σ.1 10 := by first | exact w10_τ78.trans W10 | omega
      have W11 : τ78.1 11 = σ.1 11 := by first | exact w11_τ78.trans W11 | omega
      have W15 : τ78.1 15 = σ.1 15 := by first | exact w15_τ78.trans W15 | omega
      have W22 : τ78.1 22 = σ.1 22 := by first | exact w22_τ78.trans W22 | omega
      have G6 : τ78.2.1 6 = σ.2.1 6 := (g6_τ78).trans G6
      have G7 : τ78.2.1 7 = σ.2.1 7 := (g7_τ78).trans G7
      have G8 : τ78.2.1 8 = σ.2.1 8 := (g8_τ78).trans G8
      have G9 : τ78.2.1 9 = σ.2.1 9 := (g9_τ78).trans G9
      have G14 : τ78.2.1 14 = σ.2.1 14 := (g14_τ78).trans G14
      have G35 : τ78.2.1 35 = σ.2.1 35 := (g35_τ78).trans G35
      have y14_22_τ78 : τ78.2.1 14 (τ78.1 22) = (τ_253.2.1 14) (τ_253.1 22) := by rw [g14_τ78, w22_τ78]
      have y15_22_τ78 : τ78.2.1 15 (τ78.1 22) = (τ_253.2.1 15) (τ_253.1 22) := by rw [g15_τ78, w22_τ78]
      have Z1 : τ78.2.1 14 (τ78.1 22) + τ78.2.1 15 (τ78.1 22) = (τ78.1 6) := by rw [show (τ78.2.1 14 (τ78.1 22) + τ78.2.1 15 (τ78.1 22) = (τ78.1 6)) = (τ_253.2.1 14 (τ_253.1 22) + τ_253.2.1 15 (τ_253.1 22) = (τ_253.1 6)) from by rw [w6_τ78, w22_τ78, g14_τ78, g15_τ78]]; exact Z1
      have Y20 : ca (τ78.2.1 12) ((τ78.1 3)) ≤ (τ78.1 4) := by rw [show (ca (τ78.2.1 12) ((τ78.1 3)) ≤ (τ78.1 4)) = (ca (τ_253.2.1 12) ((τ_253.1 3)) ≤ (τ_253.1 4)) from by rw [w3_τ78, w4_τ78, g12_τ78]]; exact Y20
      have Y1 : j_l2 (τ78.2.1 6) (τ78.1 3) := by rw [show (j_l2 (τ78.2.1 6) (τ78.1 3)) = (j_l2 (τ_253.2.1 6) (τ_253.1 3)) from by rw [w3_τ78, g6_τ78]]; exact Y1
      have STt : j_l2 (τ78.2.1 6) (τ78.1 3) := by rw [show (j_l2 (τ78.2.1 6) (τ78.1 3)) = (j_l2 (τ_253.2.1 6) (τ_253.1 3)) from by rw [w3_τ78, g6_τ78]]; exact STt
      have A6 : ∀ j, (-1) ≤ τ78.2.1 6 j ∧ τ78.2.1 6 j ≤ 999 := fun j => hT.2 6 j
      have A7 : ∀ j, (-1) ≤ τ78.2.1 7 j ∧ τ78.2.1 7 j ≤ 1499 := fun j => hT.2 7 j
      have A8 : ∀ j, 0 ≤ τ78.2.1 8 j ∧ τ78.2.1 8 j ≤ 1 := fun j => hT.2 8 j
      have A9 : ∀ j, 0 ≤ τ78.2.1 9 j ∧ τ78.2.1 9 j ≤ 1 := fun j => hT.2 9 j
      have A10 : ∀ j, (-1) ≤ τ78.2.1 10 j ∧ τ78.2.1 10 j ≤ 999 := fun j => hT.2 10 j
      have A11 : ∀ j, (-1) ≤ τ78.2.1 11 j ∧ τ78.2.1 11 j ≤ 1499 := fun j => hT.2 11 j
      have A12 : ∀ j, 0 ≤ τ78.2.1 12 j ∧ τ78.2.1 12 j ≤ 1 := fun j => hT.2 12 j
      have A13 : ∀ j, 0 ≤ τ78.2.1 13 j ∧ τ78.2.1 13 j ≤ 4 := fun j => hT.2 13 j
      have A14 : ∀ j, 0 ≤ τ78.2.1 14 j ∧ τ78.2.1 14 j ≤ 30000 := fun j => hT.2 14 j
      have A15 : ∀ j, 0 ≤ τ78.2.1 15 j ∧ τ78.2.1 15 j ≤ 300 := fun j => hT.2 15 j
      have A16 : ∀ j, 0 ≤ τ78.2.1 16 j ∧ τ78.2.1 16 j ≤ 999 := fun j => hT.2 16 j
      have A17 : ∀ j, (-1) ≤ τ78.2.1 17 j ∧ τ78.2.1 17 j ≤ 1499 := fun j => hT.2 17 j
      have A31 : ∀ j, 0 ≤ τ78.2.1 31 j ∧ τ78.2.1 31 j ≤ 1499 := fun j => hT.2 31 j
      have A35 : ∀ j, 0 ≤ τ78.2.1 35 j ∧ τ78.2.1 35 j ≤ 1500 := fun j => hT.2 35 j
      have v0 : 0 ≤ τ78.1 0 ∧ τ78.1 0 ≤ 60000 := hT.1 0
      have v3 : 0 ≤ τ78.1 3 ∧ τ78.1 3 ≤ 1000 := hT.1 3
      have v4 : 0 ≤ τ78.1 4 ∧ τ78.1 4 ≤ 100 := hT.1 4
      have v5 : 0 ≤ τ78.1 5 ∧ τ78.1 5 ≤ 1500 := hT.1 5
      have v6 : 0 ≤ τ78.1 6 ∧ τ78.1 6 ≤ 30000 := hT.1 6
      have v7 : 0 ≤ τ78.1 7 ∧ τ78.1 7 ≤ 90000 := hT.1 7
      have v8 : 0 ≤ τ78.1 8 ∧ τ78.1 8 ≤ 20000 := hT.1 8
      have v9 : 0 ≤ τ78.1 9 ∧ τ78.1 9 ≤ 20000 := hT.1 9
      have v10 : (-1) ≤ τ78.1 10 ∧ τ78.1 10 ≤ 999 := hT.1 10
      have v11 : (-1) ≤ τ78.1 11 ∧ τ78.1 11 ≤ 999 := hT.1 11
      have v13 : 0 ≤ τ78.1 13 ∧ τ78.1 13 ≤ 1500 := hT.1 13
      have v15 : 0 ≤ τ78.1 15 ∧ τ78.1 15 ≤ 50 := hT.1 15
      have v16 : 0 ≤ τ78.1 16 ∧ τ78.1 16 ≤ 60000 := hT.1 16
      have v17 : 0 ≤ τ78.1 17 ∧ τ78.1 17 ≤ 60000 := hT.1 17
      have v18 : 0 ≤ τ78.1 18 ∧ τ78.1 18 ≤ 60000 := hT.1 18
      have v19 : (-1) ≤ τ78.1 19 ∧ τ78.1 19 ≤ 125 := hT.1 19
      have v20 : 0 ≤ τ78.1 20 ∧ τ78.1 20 ≤ 19 := hT.1 20
      have v22 : 0 ≤ τ78.1 22 ∧ τ78.1 22 ≤ 1499 := hT.1 22
      have a14_22 : 0 ≤ τ78.2.1 14 (τ78.1 22) ∧ τ78.2.1 14 (τ78.1 22) ≤ 30000 := hT.2 14 _
      have a15_22 : 0 ≤ τ78.2.1 15 (τ78.1 22) ∧ τ78.2.1 15 (τ78.1 22) ≤ 300 := hT.2 15 _
      have av5 : σ.1 5 ≤ τ78.1 5 := ag.1 5 (by decide)
      have av6 : σ.1 6 ≤ τ78.1 6 := ag.1 6 (by decide)
      refine ⟨_, K3_X13_activate hT (show (τ78.1 13) < 1500 from by (first | omega | (simp only [st_s] <;> omega) | assumption | omega | fail)), ?_⟩
      intro τ81 hn_τ81 hf_τ81 hq
      obtain ⟨hT, q79_1, q79_2⟩ := hq
      replace q79_1 : (τ81.1 13) = (τ78.1 13) + 1 := q79_1
      replace q79_2 : τ81.2.1 31 = st (τ78.2.1 31) (τ78.1 13) (τ78.1 22) := q79_2
      replace ag : m_ag σ τ81 := ag_r ag hf_τ81 rfl rfl
      have w0_τ81 : τ81.1 0 = τ78.1 0 := hf_τ81.1 0 (by decide)
      have w3_τ81 : τ81.1 3 = τ78.1 3 := hf_τ81.1 3 (by decide)
      have w4_τ81 : τ81.1 4 = τ78.1 4 := hf_τ81.1 4 (by decide)
      have w5_τ81 : τ81.1 5 = τ78.1 5 := hf_τ81.1 5 (by decide)
      have w6_τ81 : τ81.1 6 = τ78.1 6 := hf_τ81.1 6 (by decide)
      have w7_τ81 : τ81.1 7 = τ78.1 7 := hf_τ81.1 7 (by decide)
      have w8_τ81 : τ81.1 8 = τ78.1 8 := hf_τ81.1 8 (by decide)
      have w9_τ81 : τ81.1 9 = τ78.1 9 := hf_τ81.1 9 (by decide)
      have w10_τ81 : τ81.1 10 = τ78.1 10 := hf_τ81.1 10 (by decide)
      have w11_τ81 : τ81.1 11 = τ78.1 11 := hf_τ81.1 11 (by decide)
      have w15_τ81 : τ81.1 15 = τ78.1 15 := hf_τ81.1 15 (by decide)
      have w16_τ81 : τ81.1 16 = τ78.1 16 := hf_τ81.1 16 (by decide)
      have w17_τ81 : τ81.1 17 = τ78.1 17 := hf_τ81.1 17 (by decide)
      have w18_τ81 : τ81.1 18 = τ78.1 18 := hf_τ81.1 18 (by decide)
      have w19_τ81 : τ81.1 19 = τ78.1 19 := hf_τ81.1 19 (by decide)
      have w20_τ81 : τ81.1 20 = τ78.1 20 := hf_τ81.1 20 (by decide)
      have w22_τ81 : τ81.1 22 = τ78.1 22 := hf_τ81.1 22 (by decide)
      have g6_τ81 : τ81.2.1 6 = τ78.2.1 6 := hf_τ81.2.1 6 (by decide)
      have g7_τ81 : τ81.2.1 7 = τ78.2.1 7 := hf_τ81.2.1 7 (by decide)
      have g8_τ81 : τ81.2.1 8 = τ78.2.1 8 := hf_τ81.2.1 8 (by decide)
      have g9_τ81 : τ81.2.1 9 = τ78.2.1 9 := hf_τ81.2.1 9 (by decide)
      have g10_τ81 : τ81.2.1 10 = τ78.2.1 10 := hf_τ81.2.1 10 (by decide)
      have g11_τ81 : τ81.2.1 11 = τ78.2.1 11 := hf_τ81.2.1 11 (by decide)
      have g12_τ81 : τ81.2.1 12 = τ78.2.1 12 := hf_τ81.2.1 12 (by decide)
      have g13_τ81 : τ81.2.1 13 = τ78.2.1 13 := hf_τ81.2.1 13 (by decide)
      have g14_τ81 : τ81.2.1 14 = τ78.2.1 14 := hf_τ81.2.1 14 (by decide)
      have g15_τ81 : τ81.2.1 15 = τ78.2.1 15 := hf_τ81.2.1 15 (by decide)
      have g16_τ81 : τ81.2.1 16 = τ78.2.1 16 := hf_τ81.2.1 16 (by decide)
      have g17_τ81 : τ81.2.1 17 = τ78.2.1 17 := hf_τ81.2.1 17 (by decide)
      have g35_τ81 : τ81.2.1 35 = τ78.2.1 35 := hf_τ81.2.1 35 (by decide)
      first | (have ca_τ81 := congr (congrArg ca g9_τ81) w3_τ81) | skip
      first | (have o6_τ81 := congrArg oc g6_τ81) | skip
      first | (have o7_τ81 := congrArg oc g7_τ81) | skip
      have W0 : τ81.1 0 = σ.1 0 := by first | exact w0_τ81.trans W0 | omega
      have W3 : τ81.1 3 = σ.1 3 := by first | exact w3_τ81.trans W3 | omega
      have W7 : τ81.1 7 = σ.1 7 := by first | exact w7_τ81.trans W7 | omega
      have W8 : τ81.1 8 = σ.1 8 := by first | exact w8_τ81.trans W8 | omega
      have W9 : τ81.1 9 = σ.1 9 := by first | exact w9_τ81.trans W9 | omega
      have W10 : τ81.1 10 = σ.1 10 := by first | exact w10_τ81.trans W10 | omega
      have W11 : τ81.1 11 = σ.1 11 := by first | exact w11_τ81.trans W11 | omega
      have W15 : τ81.1 15 = σ.1 15 := by first | exact w15_τ81.trans W15 | omega
      have W22 : τ81.1 22 = σ.1 22 := by first | exact w22_τ81.trans W22 | omega
      have G6 : τ81.2.1 6 = σ.2.1 6 := (g6_τ81).trans G6
      have G7 : τ81.2.1 7 = σ.2.1 7 := (g7_τ81).trans G7
      have G8 : τ81.2.1 8 = σ.2.1 8 := (g8_τ81).trans G8
      have G9 : τ81.2.1 9 = σ.2.1 9 := (g9_τ81).trans G9
      have G14 : τ81.2.1 14 = σ.2.1 14 := (g14_τ81).trans G14
      have G35 : τ81.2.1 35 = σ.2.1 35 := (g35_τ81).trans G35
      have y14_22_τ81 : τ81.2.1 14 (τ81.1 22) = (τ78.2.1 14) (τ78.1 22) := by rw [g14_τ81, w22_τ81]
      have y15_22_τ81 : τ81.2.1 15 (τ81.1 22) = (τ78.2.1 15) (τ78.1 22) := by rw [g15_τ81, w22_τ81]
      have Z1 : τ81.2.1 14 (τ81.1 22) + τ81.2.1 15 (τ81.1 22) = (τ81.1 6) := by rw [show (τ81.2.1 14 (τ81.1 22) + τ81.2.1 15 (τ81.1 22) = (τ81.1 6)) = (τ78.2.1 14 (τ78.1 22) + τ78.2.1 15 (τ78.1 22) = (τ78.1 6)) from by rw [w6_τ81, w22_τ81, g14_τ81, g15_τ81]]; exact Z1
      have Y20 : ca (τ81.2.1 12) ((τ81.1 3)) ≤ (τ81.1 4) := by rw [show (ca (τ81.2.1 12) ((τ81.1 3)) ≤ (τ81.1 4)) = (ca (τ78.2.1 12) ((τ78.1 3)) ≤ (τ78.1 4)) from by rw [w3_τ81, w4_τ81, g12_τ81]]; exact Y20
      have Y1 : j_l2 (τ81.2.1 6) (τ81.1 3) := by rw [show (j_l2 (τ81.2.1 6) (τ81.1 3)) = (j_l2 (τ78.2.1 6) (τ78.1 3)) from by rw [w3_τ81, g6_τ81]]; exact Y1
      have STt : j_l2 (τ81.2.1 6) (τ81.1 3) := by rw [show (j_l2 (τ81.2.1 6) (τ81.1 3)) = (j_l2 (τ78.2.1 6) (τ78.1 3)) from by rw [w3_τ81, g6_τ81]]; exact STt
      have A6 : ∀ j, (-1) ≤ τ81.2.1 6 j ∧ τ81.2.1 6 j ≤ 999 := fun j => hT.2 6 j
      have A7 : ∀ j, (-1) ≤ τ81.2.1 7 j ∧ τ81.2.1 7 j ≤ 1499 := fun j => hT.2 7 j
      have A8 : ∀ j, 0 ≤ τ81.2.1 8 j ∧ τ81.2.1 8 j ≤ 1 := fun j => hT.2 8 j
      have A9 : ∀ j, 0 ≤ τ81.2.1 9 j ∧ τ81.2.1 9 j ≤ 1 := fun j => hT.2 9 j
      have A10 : ∀ j, (-1) ≤ τ81.2.1 10 j ∧ τ81.2.1 10 j ≤ 999 := fun j => hT.2 10 j
      have A11 : ∀ j, (-1) ≤ τ81.2.1 11 j ∧ τ81.2.1 11 j ≤ 1499 := fun j => hT.2 11 j
      have A12 : ∀ j, 0 ≤ τ81.2.1 12 j ∧ τ81.2.1 12 j ≤ 1 := fun j => hT.2 12 j
      have A13 : ∀ j, 0 ≤ τ81.2.1 13 j ∧ τ81.2.1 13 j ≤ 4 := fun j => hT.2 13 j
      have A14 : ∀ j, 0 ≤ τ81.2.1 14 j ∧ τ81.2.1 14 j ≤ 30000 := fun j => hT.2 14 j
      have A15 : ∀ j, 0 ≤ τ81.2.1 15 j ∧ τ81.2.1 15 j ≤ 300 := fun j => hT.2 15 j
      have A16 : ∀ j, 0 ≤ τ81.2.1 16 j ∧ τ81.2.1 16 j ≤ 999 := fun j => hT.2 16 j
      have A17 : ∀ j, (-1) ≤ τ81.2.1 17 j ∧ τ81.2.1 17 j ≤ 1499 := fun j => hT.2 17 j
      have A31 : ∀ j, 0 ≤ τ81.2.1 31 j ∧ τ81.2.1 31 j ≤ 1499 := fun j => hT.2 31 j
      have A35 : ∀ j, 0 ≤ τ81.2.1 35 j ∧ τ81.2.1 35 j ≤ 1500 := fun j => hT.2 35 j
      have v0 : 0 ≤ τ81.1 0 ∧ τ81.1 0 ≤ 60000 := hT.1 0
      have v3 : 0 ≤ τ81.1 3 ∧ τ81.1 3 ≤ 1000 := hT.1 3
      have v4 : 0 ≤ τ81.1 4 ∧ τ81.1 4 ≤ 100 := hT.1 4
      have v5 : 0 ≤ τ81.1 5 ∧ τ81.1 5 ≤ 1500 := hT.1 5
      have v6 : 0 ≤ τ81.1 6 ∧ τ81.1 6 ≤ 30000 := hT.1 6
      have v7 : 0 ≤ τ81.1 7 ∧ τ81.1 7 ≤ 90000 := hT.1 7
      have v8 : 0 ≤ τ81.1 8 ∧ τ81.1 8 ≤ 20000 := hT.1 8
      have v9 : 0 ≤ τ81.1 9 ∧ τ81.1 9 ≤ 20000 := hT.1 9
      have v10 : (-1) ≤ τ81.1 10 ∧ τ81.1 10 ≤ 999 := hT.1 10
      have v11 : (-1) ≤ τ81.1 11 ∧ τ81.1 11 ≤ 999 := hT.1 11
      have v13 : 0 ≤ τ81.1 13 ∧ τ81.1 13 ≤ 1500 := hT.1 13
      have v15 : 0 ≤ τ81.1 15 ∧ τ81.1 15 ≤ 50 := hT.1 15
      have v16 : 0 ≤ τ81.1 16 ∧ τ81.1 16 ≤ 60000 := hT.1 16
      have v17 : 0 ≤ τ81.1 17 ∧ τ81.1 17 ≤ 60000 := hT.1 17
      have v18 : 0 ≤ τ81.1 18 ∧ τ81.1 18 ≤ 60000 := hT.1 18
      have v19 : (-1) ≤ τ81.1 19 ∧ τ81.1 19 ≤ 125 := hT.1 19
      have v20 : 0 ≤ τ81.1 20 ∧ τ81.1 20 ≤ 19 := hT.1 20
      have v22 : 0 ≤ τ81.1 22 ∧ τ81.1 22 ≤ 1499 := hT.1 22
      have a14_22 : 0 ≤ τ81.2.1 14 (τ81.1 22) ∧ τ81.2.1 14 (τ81.1 22) ≤ 30000 := hT.2 14 _
      have a15_22 : 0 ≤ τ81.2.1 15 (τ81.1 22) ∧ τ81.2.1 15 (τ81.1 22) ≤ 300 := hT.2 15 _
      have av5 : σ.1 5 ≤ τ81.1 5 := ag.1 5 (by decide)
      have av6 : σ.1 6 ≤ τ81.1 6 := ag.1 6 (by decide)
      have en5 : τ_253.1 22 = τ_253.1 5 := by omega
      have k81 : τ81.2.1 13 = st (τ_253.2.1 13) (τ_253.1 5) 0 := by (rw [g13_τ81, q76_3, en5])
      have t81 : τ81.2.1 10 = st (τ_253.2.1 10) u1_253 u2_253 := by rw [g10_τ81, g10_τ78]
      have f81 : τ81.2.1 11 = st (τ_253.2.1 11) u1_253 (τ_253.1 5) := by (rw [g11_τ81, g11_τ78, en5])
      have s253 : n_S τ_253 := n_S_ag p12 p13 p14 hT0 ag253 (by omega) i253_19 (fun s _ _ => by rw [i253_18]) (fun s a b => by omega)
      have fx := i253_23
      have s81 : n_S τ81 := n_S_f s253 hT253 (by omega) (by omega) (by rw [i253_18]; exact fx.2.2.1) (by omega) (by omega) (by omega) k81 (by rw [g14_τ81, g14_τ78]) (by rw [g16_τ81, g16_τ78]) f81 (by (rw [q79_2, g31_τ78, show τ78.1 13 = τ_253.1 13 from by omega, show τ78.1 22 = τ_253.1 5 from by omega])) (by (rw [← en5]; exact i253_25.1)) (by omega)
      have e14 : τ81.2.1 14 = τ_253.2.1 14 := by rw [g14_τ81, g14_τ78]
      have j81 : n_J1 (σ.1 5) τ81 := by (refine ⟨?_, fun z => ?_, fun z => ?_⟩; (rw [show τ81.1 3 = σ.1 3 from by omega, show τ81.2.1 8 = σ.2.1 8 from G8]; have a1 := i253_24; have a2 := i253_25; rw [← g14_τ78, ← g12_τ78, ← g16_τ78, ← g17_τ78, ← g14_τ81, ← g12_τ81, ← g16_τ81, ← g17_τ81] at a1; rw [← g14_τ78, ← g16_τ78, ← g17_τ78, ← g14_τ81, ← g16_τ81, ← g17_τ81] at a2; have e22 : τ_253.1 22 = σ.1 5 := (by omega); rw [e22] at a1 a2; exact n_A_f (s := u1_253) (ty := τ_253.2.1 10) (kd := τ_253.2.1 13) a1 (by rw [g15_τ81, g15_τ78, ← e22] <;> omega) a2.1 a2.2 (by omega) (by omega) fx.2.1 (by omega) (by rw [k81, show τ_253.1 5 = σ.1 5 from by omega]) t81 (by have w := i253_26; rw [e22, ← g14_τ78, ← g16_τ78, ← g14_τ81, ← g16_τ81] at w; exact w)); (exfalso; rw [k81, show σ.1 5 = τ_253.1 5 from by omega, st_s] at z; omega); (exfalso; rw [k81, show σ.1 5 = τ_253.1 5 from by omega, st_s] at z; omega))
      have hk81 : n_hk σ τ81 := n_hk_a (x := τ78.1 22) (by omega) (by omega) (by (rw [q79_2, g31_τ78, show τ78.1 13 = σ.1 13 from by omega, i253_19])) G35
      have rl81 : n_rl σ τ81 := n_rl_t i253_22 ⟨fun s s0 s1 z => by (rw [t81]; by_cases y : s = u1_253; (rw [y, st_s]; rw [y, i253_21] at z; have v := fx.2.2.2.resolve_left z; rw [i253_21]; omega); (rw [st_n _ _ y])), fun s s0 s1 z => by (rw [g12_τ81, g12_τ78]; exact z), Or.inl (by omega), Or.inl (by omega), by omega, fun h s s0 s1 => by (have w7 := i253_24; have w9 := i253_26; have u2l : u2_253 < σ.1 3 := (by rw [w9]; exact w7.2.2.1); rw [t81]; by_cases y : s = u1_253; (rw [y, st_s]; omega); (rw [st_n _ _ y]; have v := h s s0 (by omega); omega))⟩
      exact ⟨hT, (show (τ81.1 16) ≤ (τ81.1 0) from by (first | omega | (simp only [st_s] <;> omega) | assumption | omega | fail)), (show (τ81.1 17) + (τ81.1 18) ≤ (τ81.1 0) from by (first | omega | (simp only [st_s] <;> omega) | assumption | omega | fail)), (show ¬ (σ.1 20) = 0 → (τ81.1 20) = (σ.1 20) from by (first | omega | (simp only [st_s] <;> omega) | assumption | omega | fail)), (show τ81.2.1 14 (τ81.1 22) + τ81.2.1 15 (τ81.1 22) = (τ81.1 6) from Z1), (show ca (τ81.2.1 12) ((τ81.1 3)) ≤ (τ81.1 4) from Y20), (show (τ81.1 13) ≤ (τ81.1 5) from by (first | omega | (simp only [st_s] <;> omega) | assumption | omega | fail)), (show (τ81.1 20) = 0 → (τ81.1 5) = (σ.1 5) + 1 ∧ 2 ≤ τ81.2.1 15 (τ81.1 22) from by (first | omega | (simp only [st_s] <;> omega) | assumption | omega | fail)), (show (τ81.1 5) ≤ (σ.1 5) + 1 from by (first | omega | (simp only [st_s] <;> omega) | assumption | omega | fail)), (show (σ.1 16) ≤ (τ81.1 16) from by (first | omega | (simp only [st_s] <;> omega) | assumption | omega | fail)), ag, (show (τ81.1 20) = 0 → n_J1 (σ.1 5) τ81 ∧ n_S τ81 from by (first | (intro z; exfalso; omega) | exact fun _ => ⟨j81, s81⟩ | fail)), (show n_rl σ τ81 from by (first | exact i15_17 | exact i47_17 | exact i211_21 | exact i253_22 | exact rl81 | fail)), (show n_hk σ τ81 from by (first | exact hk81 | exact n_hk_g (by omega) (by omega) i15_14 G35 | exact n_hk_g (by omega) (by omega) i47_14 G35 | exact n_hk_g (by omega) (by omega) i211_18 G35 | exact n_hk_g (by omega) (by omega) i253_19 G35 | fail))⟩
  have l_211 : ∀ (u1_211 : Int) (u2_211 : Int) (τ_211 : S0), (m_T τ_211) → (m_ag σ τ_211) → (τ_211.1 0 = σ.1 0) → (τ_211.1 3 = σ.1 3) → (τ_211.1 7 = σ.1 7) → (τ_211.1 8 = σ.1 8) → (τ_211.1 9 = σ.1 9) → (τ_211.1 10 = σ.1 10) → (τ_211.1 11 = σ.1 11) → (τ_211.1 15 = σ.1 15) → (τ_211.1 22 = σ.1 22) → (τ_211.2.1 6 = σ.2.1 6) → (τ_211.2.1 7 = σ.2.1 7) → (τ_211.2.1 8 = σ.2.1 8) → (τ_211.2.1 9 = σ.2.1 9) → (τ_211.2.1 14 = σ.2.1 14) → (τ_211.2.1 35 = σ.2.1 35) → ((τ_211.1 16) ≤ (τ_211.1 0)) → ((τ_211.1 17) + (τ_211.1 18) ≤ (τ_211.1 0)) → (oc (τ_211.2.1 6) < 4096) → (oc (τ_211.2.1 7) < 4096) → (¬ (σ.1 20) = 0 → (τ_211.1 20) = (σ.1 20)) → (τ_211.2.1 14 (τ_211.1 22) + τ_211.2.1 15 (τ_211.1 22) = (τ_211.1 6)) → (ca (τ_211.2.1 12) ((τ_211.1 3)) ≤ (τ_211.1 4)) → ((τ_211.1 5) = (σ.1 5)) → ((τ_211.1 13) = (σ.1 13)) → (τ_211.2.1 15 (τ_211.1 22) ≤ 2) → ((σ.1 16) ≤ (τ_211.1 16)) → (-1 ≤ u1_211) → (u1_211 ≤ 999) → (0 ≤ u2_211) → (u2_211 ≤ 999) → ((τ_211.1 20) = 0 → 0 ≤ u1_211 ∧ τ_211.2.1 15 (τ_211.1 22) = 1 ∧ (τ_211.1 6) < 30000) → (τ_211.2.1 11 = σ.2.1 11) → (τ_211.2.1 31 = σ.2.1 31) → (τ_211.2.1 13 = σ.2.1 13) → (τ_211.2.1 10 = σ.2.1 10) → (n_rl σ τ_211) → ((τ_211.1 20) = 0 → n_N (τ_211.2.1 14 (τ_211.1 22)) (τ_211.2.1 14 (τ_211.1 22) + τ_211.2.1 15 (τ_211.1 22)) (σ.1 3) (σ.2.1 8) (σ.2.1 11) (τ_211.2.1 12) (τ_211.2.1 16) (τ_211.2.1 17)) → ((τ_211.1 20) = 0 → u1_211 < (σ.1 3) ∧ ¬ σ.2.1 8 u1_211 = 0 ∧ σ.2.1 11 u1_211 = -1 ∧ (σ.2.1 10 u1_211 = -1 ∨ σ.2.1 10 u1_211 = u2_211)) → (u2_211 = τ_211.2.1 16 (τ_211.2.1 14 (τ_211.1 22))) → P211 u1_211 u2_211 τ_211 := by
    intro u1_211 u2_211 τ_211 hT ag W0 W3 W7 W8 W9 W10 W11 W15 W22 G6 G7 G8 G9 G14 G35 i211_1 i211_2 i211_3 i211_4 i211_5 i211_6 i211_7 i211_8 i211_9 i211_10 i211_11 i211_12 i211_13 i211_14 i211_15 i211_16 i211_17 i211_18 i211_19 i211_20 i211_21 i211_22 i211_23 i211_24
    have A6 : ∀ j, (-1) ≤ τ_211.2.1 6 j ∧ τ_211.2.1 6 j ≤ 999 := fun j => hT.2 6 j
    have A7 : ∀ j, (-1) ≤ τ_211.2.1 7 j ∧ τ_211.2.1 7 j ≤ 1499 := fun j => hT.2 7 j
    have A8 : ∀ j, 0 ≤ τ_211.2.1 8 j ∧ τ_211.2.1 8 j ≤ 1 := fun j => hT.2 8 j
    have A9 : ∀ j, 0 ≤ τ_211.2.1 9 j ∧ τ_211.2.1 9 j ≤ 1 := fun j => hT.2 9 j
    have A10 : ∀ j, (-1) ≤ τ_211.2.1 10 j ∧ τ_211.2.1 10 j ≤ 999 := fun j => hT.2 10 j
    have A11 : ∀ j, (-1) ≤ τ_211.2.1 11 j ∧ τ_211.2.1 11 j ≤ 1499 := fun j => hT.2 11 j
    have A12 : ∀ j, 0 ≤ τ_211.2.1 12 j ∧ τ_211.2.1 12 j ≤ 1 := fun j => hT.2 12 j
    have A13 : ∀ j, 0 ≤ τ_211.2.1 13 j ∧ τ_211.2.1 13 j ≤ 4 := fun j => hT.2 13 j
    have A14 : ∀ j, 0 ≤ τ_211.2.1 14 j ∧ τ_211.2.1 14 j ≤ 30000 := fun j => hT.2 14 j
    have A15 : ∀ j, 0 ≤ τ_211.2.1 15 j ∧ τ_211.2.1 15 j ≤ 300 := fun j => hT.2 15 j
    have A16 : ∀ j, 0 ≤ τ_211.2.1 16 j ∧ τ_211.2.1 16 j ≤ 999 := fun j => hT.2 16 j
    have A17 : ∀ j, (-1) ≤ τ_211.2.1 17 j ∧ τ_211.2.1 17 j ≤ 1499 := fun j => hT.2 17 j
    have A31 : ∀ j, 0 ≤ τ_211.2.1 31 j ∧ τ_211.2.1 31 j ≤ 1499 := fun j => hT.2 31 j
    have A35 : ∀ j, 0 ≤ τ_211.2.1 35 j ∧ τ_211.2.1 35 j ≤ 1500 := fun j => hT.2 35 j
    have v0 : 0 ≤ τ_211.1 0 ∧ τ_211.1 0 ≤ 60000 := hT.1 0
    have v3 : 0 ≤ τ_211.1 3 ∧ τ_211.1 3 ≤ 1000 := hT.1 3
    have v4 : 0 ≤ τ_211.1 4 ∧ τ_211.1 4 ≤ 100 := hT.1 4
    have v5 : 0 ≤ τ_211.1 5 ∧ τ_211.1 5 ≤ 1500 := hT.1 5
    have v6 : 0 ≤ τ_211.1 6 ∧ τ_211.1 6 ≤ 30000 := hT.1 6
    have v7 : 0 ≤ τ_211.1 7 ∧ τ_211.1 7 ≤ 90000 := hT.1 7
    have v8 : 0 ≤ τ_211.1 8 ∧ τ_211.1 8 ≤ 20000 := hT.1 8
    have v9 : 0 ≤ τ_211.1 9 ∧ τ_211.1 9 ≤ 20000 := hT.1 9
    have v10 : (-1) ≤ τ_211.1 10 ∧ τ_211.1 10 ≤ 999 := hT.1 10
    have v11 : (-1) ≤ τ_211.1 11 ∧ τ_211.1 11 ≤ 999 := hT.1 11
    have v13 : 0 ≤ τ_211.1 13 ∧ τ_211.1 13 ≤ 1500 := hT.1 13
    have v15 : 0 ≤ τ_211.1 15 ∧ τ_211.1 15 ≤ 50 := hT.1 15
    have v16 : 0 ≤ τ_211.1 16 ∧ τ_211.1 16 ≤ 60000 := hT.1 16
    have v17 : 0 ≤ τ_211.1 17 ∧ τ_211.1 17 ≤ 60000 := hT.1 17
    have v18 : 0 ≤ τ_211.1 18 ∧ τ_211.1 18 ≤ 60000 := hT.1 18
    have v19 : (-1) ≤ τ_211.1 19 ∧ τ_211.1 19 ≤ 125 := hT.1 19
    have v20 : 0 ≤ τ_211.1 20 ∧ τ_211.1 20 ≤ 19 := hT.1 20
    have v22 : 0 ≤ τ_211.1 22 ∧ τ_211.1 22 ≤ 1499 := hT.1 22
    have a14_22 : 0 ≤ τ_211.2.1 14 (τ_211.1 22) ∧ τ_211.2.1 14 (τ_211.1 22) ≤ 30000 := hT.2 14 _
    have a15_22 : 0 ≤ τ_211.2.1 15 (τ_211.1 22) ∧ τ_211.2.1 15 (τ_211.1 22) ≤ 300 := hT.2 15 _
    have av5 : σ.1 5 ≤ τ_211.1 5 := ag.1 5 (by decide)
    have av6 : σ.1 6 ≤ τ_211.1 6 := ag.1 6 (by decide)
    have y14_22_τ_211 : τ_211.2.1 14 (τ_211.1 22) = σ.2.1 14 (σ.1 22) := by rw [G14, W22]
    have o6_τ_211 := congrArg oc G6
    have o7_τ_211 := congrArg oc G7
    have ca_τ_211 := congr (congrArg ca G9) W3
    have Z1 : τ_211.2.1 14 (τ_211.1 22) + τ_211.2.1 15 (τ_211.1 22) = (τ_211.1 6) := i211_6
    have Y20 : ca (τ_211.2.1 12) ((τ_211.1 3)) ≤ (τ_211.1 4) := i211_7
    have Y1 : j_l2 (τ_211.2.1 6) (τ_211.1 3) := by rw [show (j_l2 (τ_211.2.1 6) (τ_211.1 3)) = (j_l2 (σ.2.1 6) (σ.1 3)) from by rw [W3, G6]]; exact Y1_0
    have STt : j_l2 (τ_211.2.1 6) (τ_211.1 3) := by rw [show (j_l2 (τ_211.2.1 6) (τ_211.1 3)) = (j_l2 (σ.2.1 6) (σ.1 3)) from by rw [W3, G6]]; exact STt_0
    have f211 := i211_23
    refine h211 u1_211 u2_211 τ_211 ?_
    refine ⟨fun c46 => ?_, fun c46 => ?_⟩
    ·
      have nn := i211_22 (by omega)
      have zt : τ_211.2.1 14 (τ_211.1 22) + 1 = τ_211.1 6 := by omega
      have ao14 := G14
      refine ⟨_, K3_X13_addSymbol hT (show 0 ≤ u1_211 from by (first | omega | (simp only [st_s] <;> omega) | assumption | omega | fail)) (show u1_211 < 1000 from by (first | omega | (simp only [st_s] <;> omega) | assumption | omega | fail)) (show -1 ≤ (τ_211.1 22) from by (first | omega | (simp only [st_s] <;> omega) | assumption | omega | fail)) (show (τ_211.1 22) ≤ 1499 from by (first | omega | (simp only [st_s] <;> omega) | assumption | omega | fail)) (show (τ_211.1 6) < 30000 from by (first | omega | (simp only [st_s] <;> omega) | assumption | omega | fail)) (show τ_211.2.1 15 (τ_211.1 22) < 300 from by (first | omega | (simp only [st_s] <;> omega) | assumption | omega | fail)) (show (τ_211.1 22) = (τ_211.1 5) from by (first | omega | (simp only [st_s] <;> omega) | assumption | omega | fail)), ?_⟩
      intro τ49 hn_τ49 hf_τ49 hq
      obtain ⟨hT, q47_1, q47_2, q47_3, q47_4, q47_5⟩ := hq
      replace q47_1 : (τ49.1 6) = (τ_211.1 6) + 1 := q47_1
      replace q47_2 : τ49.2.1 15 (τ49.1 22) = τ_211.2.1 15 (τ_211.1 22) + 1 := q47_2
      replace q47_3 : m_ag τ_211 τ49 := q47_3
      replace q47_4 : τ49.2.1 16 = st (τ_211.2.1 16) (τ_211.1 6) u1_211 := q47_4
      replace q47_5 : τ49.2.1 17 = st (τ_211.2.1 17) (τ_211.1 6) (τ_211.1 22) := q47_5
      replace ag : m_ag σ τ49 := ag_t ag q47_3 rfl
      have w0_τ49 : τ49.1 0 = τ_211.1 0 := hf_τ49.1 0 (by decide)
      have w3_τ49 : τ49.1 3 = τ_211.1 3 := hf_τ49.1 3 (by decide)
      have w4_τ49 : τ49.1 4 = τ_211.1 4 := hf_τ49.1 4 (by decide)
      have w5_τ49 : τ49.1 5 = τ_211.1 5 := hf_τ49.1 5 (by decide)
      have w7_τ49 : τ49.1 7 = τ_211.1 7 := hf_τ49.1 7 (by decide)
      have w8_τ49 : τ49.1 8 = τ_211.1 8 := hf_τ49.1 8 (by decide)
      have w9_τ49 : τ49.1 9 = τ_211.1 9 := hf_τ49.1 9 (by decide)
      have w10_τ49 : τ49.1 10 = τ_211.1 10 := hf_τ49.1 10 (by decide)
      have w11_τ49 : τ49.1 11 = τ_211.1 11 := hf_τ49.1 11 (by decide)
      have w13_τ49 : τ49.1 13 = τ_211.1 13 := hf_τ49.1 13 (by decide)
      have w15_τ49 : τ49.1 15 = τ_211.1 15 := hf_τ49.1 15 (by decide)
      have w16_τ49 : τ49.1 16 = τ_211.1 16 := hf_τ49.1 16 (by decide)
      have w17_τ49 : τ49.1 17 = τ_211.1 17 := hf_τ49.1 17 (by decide)
      have w18_τ49 : τ49.1 18 = τ_211.1 18 := hf_τ49.1 18 (by decide)
      have w19_τ49 : τ49.1 19 = τ_211.1 19 := hf_τ49.1 19 (by decide)
      have w20_τ49 : τ49.1 20 = τ_211.1 20 := hf_τ49.1 20 (by decide)
      have w22_τ49 : τ49.1 22 = τ_211.1 22 := hf_τ49.1 22 (by decide)
      have g6_τ49 : τ49.2.1 6 = τ_211.2.1 6 := hf_τ49.2.1 6 (by decide)
      have g7_τ49 : τ49.2.1 7 = τ_211.2.1 7 := hf_τ49.2.1 7 (by decide)
      have g8_τ49 : τ49.2.1 8 = τ_211.2.1 8 := hf_τ49.2.1 8 (by decide)
      have g9_τ49 : τ49.2.1 9 = τ_211.2.1 9 := hf_τ49.2.1 9 (by decide)
      have g10_τ49 : τ49.2.1 10 = τ_211.2.1 10 := hf_τ49.2.1 10 (by decide)
      have g11_τ49 : τ49.2.1 11 = τ_211.2.1 11 := hf_τ49.2.1 11 (by decide)
      have g12_τ49 : τ49.2.1 12 = τ_211.2.1 12 := hf_τ49.2.1 12 (by decide)
      have g13_τ49 : τ49.2.1 13 = τ_211.2.1 13 := hf_τ49.2.1 13 (by decide)
      have g14_τ49 : τ49.2.1 14 = τ_211.2.1 14 := hf_τ49.2.1 14 (by decide)
      have g31_τ49 : τ49.2.1 31 = τ_211.2.1 31 := hf_τ49.2.1 31 (by decide)
      have g35_τ49 : τ49.2.1 35 = τ_211.2.1 35 := hf_τ49.2.1 35 (by decide)
      first | (have ca_τ49 := congr (congrArg ca g9_τ49) w3_τ49) | skip
      first | (have o6_τ49 := congrArg oc g6_τ49) | skip
      first | (have o7_τ49 := congrArg oc g7_τ49) | skip
      have W0 : τ49.1 0 = σ.1 0 := by first | exact w0_τ49.trans W0 | omega
      have W3 : τ49.1 3 = σ.1 3 := by first | exact w3_τ49.trans W3 | omega
      have W7 : τ49.1 7 = σ.1 7 := by first | exact w7_τ49.trans W7 | omega
      have W8 : τ49.1 8 = σ.1 8 := by first | exact w8_τ49.trans W8 | omega
      have W9 : τ49.1 9 = σ.1 9 := by first | exact w9_τ49.trans W9 | omega
      have W10 : τ49.1 10 = σ.1 10 := by first | exact w10_τ49.trans W10 | omega
      have W11 : τ49.1 11 = σ.1 11 := by first | exact w11_τ49.trans W11 | omega
      have W15 : τ49.1 15 = σ.1 15 := by first | exact w15_τ49.trans W15 | omega
      have W22 : τ49.1 22 = σ.1 22 := by first | exact w22_τ49.trans W22 | omega
      have G6 : τ49.2.1 6 = σ.2.1 6 := (g6_τ49).trans G6
      have G7 : τ49.2.1 7 = σ.2.1 7 := (g7_τ49).trans G7
      have G8 : τ49.2.1 8 = σ.2.1 8 := (g8_τ49).trans G8
      have G9 : τ49.2.1 9 = σ.2.1 9 := (g9_τ49).trans G9
      have G14 : τ49.2.1 14 = σ.2.1 14 := (g14_τ49).trans G14
      have G35 : τ49.2.1 35 = σ.2.1 35 := (g35_τ49).trans G35
      have y14_22_τ49 : τ49.2.1 14 (τ49.1 22) = (τ_211.2.1 14) (τ_211.1 22) := by rw [g14_τ49, w22_τ49]
      have Y20 : ca (τ49.2.1 12) ((τ49.1 3)) ≤ (τ49.1 4) := by rw [show (ca (τ49.2.1 12) ((τ49.1 3)) ≤ (τ49.1 4)) = (ca (τ_211.2.1 12) ((τ_211.1 3)) ≤ (τ_211.1 4)) from by rw [w3_τ49, w4_τ49, g12_τ49]]; exact Y20
      have Y1 : j_l2 (τ49.2.1 6) (τ49.1 3) := by rw [show (j_l2 (τ49.2.1 6) (τ49.1 3)) = (j_l2 (τ_211.2.1 6) (τ_211.1 3)) from by rw [w3_τ49, g6_τ49]]; exact Y1
      have STt : j_l2 (τ49.2.1 6) (τ49.1 3) := by rw [show (j_l2 (τ49.2.1 6) (τ49.1 3)) = (j_l2 (τ_211.2.1 6) (τ_211.1 3)) from by rw [w3_τ49, g6_τ49]]; exact STt
      have A6 : ∀ j, (-1) ≤ τ49.2.1 6 j ∧ τ49.2.1 6 j ≤ 999 := fun j => hT.2 6 j
      have A7 : ∀ j, (-1) ≤ τ49.2.1 7 j ∧ τ49.2.1 7 j ≤ 1499 := fun j => hT.2 7 j
      have A8 : ∀ j, 0 ≤ τ49.2.1 8 j ∧ τ49.2.1 8 j ≤ 1 := fun j => hT.2 8 j
      have A9 : ∀ j, 0 ≤ τ49.2.1 9 j ∧ τ49.2.1 9 j ≤ 1 := fun j => hT.2 9 j
      have A10 : ∀ j, (-1) ≤ τ49.2.1 10 j ∧ τ49.2.1 10 j ≤ 999 := fun j => hT.2 10 j
      have A11 : ∀ j, (-1) ≤ τ49.2.1 11 j ∧ τ49.2.1 11 j ≤ 1499 := fun j => hT.2 11 j
      have A12 : ∀ j, 0 ≤ τ49.2.1 12 j ∧ τ49.2.1 12 j ≤ 1 := fun j => hT.2 12 j
      have A13 : ∀ j, 0 ≤ τ49.2.1 13 j ∧ τ49.2.1 13 j ≤ 4 := fun j => hT.2 13 j
      have A14 : ∀ j, 0 ≤ τ49.2.1 14 j ∧ τ49.2.1 14 j ≤ 30000 := fun j => hT.2 14 j
      have A15 : ∀ j, 0 ≤ τ49.2.1 15 j ∧ τ49.2.1 15 j ≤ 300 := fun j => hT.2 15 j
      have A16 : ∀ j, 0 ≤ τ49.2.1 16 j ∧ τ49.2.1 16 j ≤ 999 := fun j => hT.2 16 j
      have A17 : ∀ j, (-1) ≤ τ49.2.1 17 j ∧ τ49.2.1 17 j ≤ 1499 := fun j => hT.2 17 j
      have A31 : ∀ j, 0 ≤ τ49.2.1 31 j ∧ τ49.2.1 31 j ≤ 1499 := fun j => hT.2 31 j
      have A35 : ∀ j, 0 ≤ τ49.2.1 35 j ∧ τ49.2.1 35 j ≤ 1500 := fun j => hT.2 35 j
      have v0 : 0 ≤ τ49.1 0 ∧ τ49.1 0 ≤ 60000 := hT.1 0
      have v3 : 0 ≤ τ49.1 3 ∧ τ49.1 3 ≤ 1000 := hT.1 3
      have v4 : 0 ≤ τ49.1 4 ∧ τ49.1 4 ≤ 100 := hT.1 4
      have v5 : 0 ≤ τ49.1 5 ∧ τ49.1 5 ≤ 1500 := hT.1 5
      have v6 : 0 ≤ τ49.1 6 ∧ τ49.1 6 ≤ 30000 := hT.1 6
      have v7 : 0 ≤ τ49.1 7 ∧ τ49.1 7 ≤ 90000 := hT.1 7
      have v8 : 0 ≤ τ49.1 8 ∧ τ49.1 8 ≤ 20000 := hT.1 8
      have v9 : 0 ≤ τ49.1 9 ∧ τ49.1 9 ≤ 20000 := hT.1 9
      have v10 : (-1) ≤ τ49.1 10 ∧ τ49.1 10 ≤ 999 := hT.1 10
      have v11 : (-1) ≤ τ49.1 11 ∧ τ49.1 11 ≤ 999 := hT.1 11
      have v13 : 0 ≤ τ49.1 13 ∧ τ49.1 13 ≤ 1500 := hT.1 13
      have v15 : 0 ≤ τ49.1 15 ∧ τ49.1 15 ≤ 50 := hT.1 15
      have v16 : 0 ≤ τ49.1 16 ∧ τ49.1 16 ≤ 60000 := hT.1 16
      have v17 : 0 ≤ τ49.1 17 ∧ τ49.1 17 ≤ 60000 := hT.1 17
      have v18 : 0 ≤ τ49.1 18 ∧ τ49.1 18 ≤ 60000 := hT.1 18
      have v19 : (-1) ≤ τ49.1 19 ∧ τ49.1 19 ≤ 125 := hT.1 19
      have v20 : 0 ≤ τ49.1 20 ∧ τ49.1 20 ≤ 19 := hT.1 20
      have v22 : 0 ≤ τ49.1 22 ∧ τ49.1 22 ≤ 1499 := hT.1 22
      have a14_22 : 0 ≤ τ49.2.1 14 (τ49.1 22) ∧ τ49.2.1 14 (τ49.1 22) ≤ 30000 := hT.2 14 _
      have a15_22 : 0 ≤ τ49.2.1 15 (τ49.1 22) ∧ τ49.2.1 15 (τ49.1 22) ≤ 300 := hT.2 15 _
      have av5 : σ.1 5 ≤ τ49.1 5 := ag.1 5 (by decide)
      have av6 : σ.1 6 ≤ τ49.1 6 := ag.1 6 (by decide)
      have Z1 : τ49.2.1 14 (τ49.1 22) + τ49.2.1 15 (τ49.1 22) = τ49.1 6 := by omega
      have w4722 : τ49.1 22 = τ_211.1 22 := by omega
      have z49 : n_N0 (τ49.2.1 14 (τ49.1 22)) (σ.1 3) (σ.2.1 8) (τ49.2.1 12) (τ49.2.1 16) (τ49.2.1 17) := by (rw [g14_τ49, g12_τ49, w4722]; exact n_N0_e nn q47_4 q47_5 (by omega))
      have y49 : τ49.2.1 16 (τ49.2.1 14 (τ49.1 22) + 1) = u1_211 ∧ τ49.2.1 17 (τ49.2.1 14 (τ49.1 22) + 1) = τ49.1 22 := by (rw [g14_τ49, w4722, zt, q47_4, q47_5, st_s, st_s]; exact ⟨rfl, rfl⟩)
      have v49 : u2_211 = τ49.2.1 16 (τ49.2.1 14 (τ49.1 22)) := by (rw [g14_τ49, w4722, q47_4, st_n _ _ (by omega)]; exact i211_24)
      refine ⟨_, K_X13_next hT (show (τ49.1 16) ≤ (τ49.1 0) from by (first | omega | (simp only [st_s] <;> omega) | assumption | omega | fail)), ?_⟩
      intro τ52 hn_τ52 hf_τ52 hq
      obtain ⟨hT, q50_1, q50_2, q50_3, q50_4, q50_5⟩ := hq
      replace q50_1 : (τ52.1 16) ≤ (τ52.1 0) := q50_1
      replace q50_2 : (τ52.1 17) + (τ52.1 18) ≤ (τ52.1 0) := q50_2
      replace q50_3 : (τ49.1 16) ≤ (τ52.1 16) := q50_3
      replace q50_4 : ¬ (τ49.1 20) = 0 → (τ52.1 20) = (τ49.1 20) := q50_4
      replace q50_5 : (τ52.1 20) = 0 → ¬ (τ52.1 19) = 0 → (τ49.1 16) < (τ52.1 16) ∧ 0 < (τ52.1 18) := q50_5
      replace ag : m_ag σ τ52 := ag_r ag hf_τ52 rfl rfl
      have w0_τ52 : τ52.1 0 = τ49.1 0 := hf_τ52.1 0 (by decide)
      have w3_τ52 : τ52.1 3 = τ49.1 3 := hf_τ52.1 3 (by decide)
      have w4_τ52 : τ52.1 4 = τ49.1 4 := hf_τ52.1 4 (by decide)
      have w5_τ52 : τ52.1 5 = τ49.1 5 := hf_τ52.1 5 (by decide)
      have w6_τ52 : τ52.1 6 = τ49.1 6 := hf_τ52.1 6 (by decide)
      have w7_τ52 : τ52.1 7 = τ49.1 7 := hf_τ52.1 7 (by decide)
      have w8_τ52 : τ52.1 8 = τ49.1 8 := hf_τ52.1 8 (by decide)
      have w9_τ52 : τ52.1 9 = τ49.1 9 := hf_τ52.1 9 (by decide)
      have w10_τ52 : τ52.1 10 = τ49.1 10 := hf_τ52.1 10 (by decide)
      have w11_τ52 : τ52.1 11 = τ49.1 11 := hf_τ52.1 11 (by decide)
      have w13_τ52 : τ52.1 13 = τ49.1 13 := hf_τ52.1 13 (by decide)
      have w15_τ52 : τ52.1 15 = τ49.1 15 := hf_τ52.1 15 (by decide)
      have w22_τ52 : τ52.1 22 = τ49.1 22 := hf_τ52.1 22 (by decide)
      have g6_τ52 : τ52.2.1 6 = τ49.2.1 6 := hf_τ52.2.1 6 (by decide)
      have g7_τ52 : τ52.2.1 7 = τ49.2.1 7 := hf_τ52.2.1 7 (by decide)
      have g8_τ52 : τ52.2.1 8 = τ49.2.1 8 := hf_τ52.2.1 8 (by decide)
      have g9_τ52 : τ52.2.1 9 = τ49.2.1 9 := hf_τ52.2.1 9 (by decide)
      have g10_τ52 : τ52.2.1 10 = τ49.2.1 10 := hf_τ52.2.1 10 (by decide)
      have g11_τ52 : τ52.2.1 11 = τ49.2.1 11 := hf_τ52.2.1 11 (by decide)
      have g12_τ52 : τ52.2.1 12 = τ49.2.1 12 := hf_τ52.2.1 12 (by decide)
      have g13_τ52 : τ52.2.1 13 = τ49.2.1 13 := hf_τ52.2.1 13 (by decide)
      have g14_τ52 : τ52.2.1 14 = τ49.2.1 14 := hf_τ52.2.1 14 (by decide)
      have g15_τ52 : τ52.2.1 15 = τ49.2.1 15 := hf_τ52.2.1 15 (by decide)
      have g16_τ52 : τ52.2.1 16 = τ49.2.1 16 := hf_τ52.2.1 16 (by decide)
      have g17_τ52 : τ52.2.1 17 = τ49.2.1 17 := hf_τ52.2.1 17 (by decide)
      have g31_τ52 : τ52.2.1 31 = τ49.2.1 31 := hf_τ52.2.1 31 (by decide)
      have g35_τ52 : τ52.2.1 35 = τ49.2.1 35 := hf_τ52.2.1 35 (by decide)
      first | (have ca_τ52 := congr (congrArg ca g9_τ52) w3_τ52) | skip
      first | (have o6_τ52 := congrArg oc g6_τ52) | skip
      first | (have o7_τ52 := congrArg oc g7_τ52) | skip
      have W0 : τ52.1 0 = σ.1 0 := by first | exact w0_τ52.trans W0 | omega
      have W3 : τ52.1 3 = σ.1 3 := by first | exact w3_τ52.trans W3 | omega
      have W7 : τ52.1 7 = σ.1 7 := by first | exact w7_τ52.trans W7 | omega
      have W8 : τ52.1 8 = σ.1 8 := by first | exact w8_τ52.trans W8 | omega
      have W9 : τ52.1 9 = σ.1 9 := by first | exact w9_τ52.trans W9 | omega
      have W10 : τ52.1 10 = σ.1 10 := by first | exact w10_τ52.trans W10 | omega
      have W11 : τ52.1 11 = σ.1 11 := by first | exact w11_τ52.trans W11 | omega
      have W15 : τ52.1 15 = σ.1 15 := by first | exact w15_τ52.trans W15 | omega
      have W22 : τ52.1 22 = σ.1 22 := by first | exact w22_τ52.trans W22 | omega
      have G6 : τ52.2.1 6 = σ.2.1 6 := (g6_τ52).trans G6
      have G7 : τ52.2.1 7 = σ.2.1 7 := (g7_τ52).trans G7
      have G8 : τ52.2.1 8 = σ.2.1 8 := (g8_τ52).trans G8
      have G9 : τ52.2.1 9 = σ.2.1 9 := (g9_τ52).trans G9
      have G14 : τ52.2.1 14 = σ.2.1 14 := (g14_τ52).trans G14
      have G35 : τ52.2.1 35 = σ.2.1 35 := (g35_τ52).trans G35
      have y14_22_τ52 : τ52.2.1 14 (τ52.1 22) = (τ49.2.1 14) (τ49.1 22) := by rw [g14_τ52, w22_τ52]
      have y15_22_τ52 : τ52.2.1 15 (τ52.1 22) = (τ49.2.1 15) (τ49.1 22) := by rw [g15_τ52, w22_τ52]
      have Z1 : τ52.2.1 14 (τ52.1 22) + τ52.2.1 15 (τ52.1 22) = (τ52.1 6) := by rw [show (τ52.2.1 14 (τ52.1 22) + τ52.2.1 15 (τ52.1 22) = (τ52.1 6)) = (τ49.2.1 14 (τ49.1 22) + τ49.2.1 15 (τ49.1 22) = (τ49.1 6)) from by rw [w6_τ52, w22_τ52, g14_τ52, g15_τ52]]; exact Z1
      have Y20 : ca (τ52.2.1 12) ((τ52.1 3)) ≤ (τ52.1 4) := by rw [show (ca (τ52.2.1 12) ((τ52.1 3)) ≤ (τ52.1 4)) = (ca (τ49.2.1 12) ((τ49.1 3)) ≤ (τ49.1 4)) from by rw [w3_τ52, w4_τ52, g12_τ52]]; exact Y20
      have Y1 : j_l2 (τ52.2.1 6) (τ52.1 3) := by rw [show (j_l2 (τ52.2.1 6) (τ52.1 3)) = (j_l2 (τ49.2.1 6) (τ49.1 3)) from by rw [w3_τ52, g6_τ52]]; exact Y1
      have STt : j_l2 (τ52.2.1 6) (τ52.1 3) := by rw [show (j_l2 (τ52.2.1 6) (τ52.1 3)) = (j_l2 (τ49.2.1 6) (τ49.1 3)) from by rw [w3_τ52, g6_τ52]]; exact STt
      have A6 : ∀ j, (-1) ≤ τ52.2.1 6 j ∧ τ52.2.1 6 j ≤ 999 := fun j => hT.2 6 j
      have A7 : ∀ j, (-1) ≤ τ52.2.1 7 j ∧ τ52.2.1 7 j ≤ 1499 := fun j => hT.2 7 j
      have A8 : ∀ j, 0 ≤ τ52.2.1 8 j ∧ τ52.2.1 8 j ≤ 1 := fun j => hT.2 8 j
      have A9 : ∀ j, 0 ≤ τ52.2.1 9 j ∧ τ52.2.1 9 j ≤ 1 := fun j => hT.2 9 j
      have A10 : ∀ j, (-1) ≤ τ52.2.1 10 j ∧ τ52.2.1 10 j ≤ 999 := fun j => hT.2 10 j
      have A11 : ∀ j, (-1) ≤ τ52.2.1 11 j ∧ τ52.2.1 11 j ≤ 1499 := fun j => hT.2 11 j
      have A12 : ∀ j, 0 ≤ τ52.2.1 12 j ∧ τ52.2.1 12 j ≤ 1 := fun j => hT.2 12 j
      have A13 : ∀ j, 0 ≤ τ52.2.1 13 j ∧ τ52.2.1 13 j ≤ 4 := fun j => hT.2 13 j
      have A14 : ∀ j, 0 ≤ τ52.2.1 14 j ∧ τ52.2.1 14 j ≤ 30000 := fun j => hT.2 14 j
      have A15 : ∀ j, 0 ≤ τ52.2.1 15 j ∧ τ52.2.1 15 j ≤ 300 := fun j => hT.2 15 j
      have A16 : ∀ j, 0 ≤ τ52.2.1 16 j ∧ τ52.2.1 16 j ≤ 999 := fun j => hT.2 16 j
      have A17 : ∀ j, (-1) ≤ τ52.2.1 17 j ∧ τ52.2.1 17 j ≤ 1499 := fun j => hT.2 17 j
      have A31 : ∀ j, 0 ≤ τ52.2.1 31 j ∧ τ52.2.1 31 j ≤ 1499 := fun j => hT.2 31 j
      have A35 : ∀ j, 0 ≤ τ52.2.1 35 j ∧ τ52.2.1 35 j ≤ 1500 := fun j => hT.2 35 j
      have v0 : 0 ≤ τ52.1 0 ∧ τ52.1 0 ≤ 60000 := hT.1 0
      have v3 : 0 ≤ τ52.1 3 ∧ τ52.1 3 ≤ 1000 := hT.1 3
      have v4 : 0 ≤ τ52.1 4 ∧ τ52.1 4 ≤ 100 := hT.1 4
      have v5 : 0 ≤ τ52.1 5 ∧ τ52.1 5 ≤ 1500 := hT.1 5
      have v6 : 0 ≤ τ52.1 6 ∧ τ52.1 6 ≤ 30000 := hT.1 6
      have v7 : 0 ≤ τ52.1 7 ∧ τ52.1 7 ≤ 90000 := hT.1 7
      have v8 : 0 ≤ τ52.1 8 ∧ τ52.1 8 ≤ 20000 := hT.1 8
      have v9 : 0 ≤ τ52.1 9 ∧ τ52.1 9 ≤ 20000 := hT.1 9
      have v10 : (-1) ≤ τ52.1 10 ∧ τ52.1 10 ≤ 999 := hT.1 10
      have v11 : (-1) ≤ τ52.1 11 ∧ τ52.1 11 ≤ 999 := hT.1 11
      have v13 : 0 ≤ τ52.1 13 ∧ τ52.1 13 ≤ 1500 := hT.1 13
      have v15 : 0 ≤ τ52.1 15 ∧ τ52.1 15 ≤ 50 := hT.1 15
      have v16 : 0 ≤ τ52.1 16 ∧ τ52.1 16 ≤ 60000 := hT.1 16
      have v17 : 0 ≤ τ52.1 17 ∧ τ52.1 17 ≤ 60000 := hT.1 17
      have v18 : 0 ≤ τ52.1 18 ∧ τ52.1 18 ≤ 60000 := hT.1 18
      have v19 : (-1) ≤ τ52.1 19 ∧ τ52.1 19 ≤ 125 := hT.1 19
      have v20 : 0 ≤ τ52.1 20 ∧ τ52.1 20 ≤ 19 := hT.1 20
      have v22 : 0 ≤ τ52.1 22 ∧ τ52.1 22 ≤ 1499 := hT.1 22
      have a14_22 : 0 ≤ τ52.2.1 14 (τ52.1 22) ∧ τ52.2.1 14 (τ52.1 22) ≤ 30000 := hT.2 14 _
      have a15_22 : 0 ≤ τ52.2.1 15 (τ52.1 22) ∧ τ52.2.1 15 (τ52.1 22) ≤ 300 := hT.2 15 _
      have av5 : σ.1 5 ≤ τ52.1 5 := ag.1 5 (by decide)
      have av6 : σ.1 6 ≤ τ52.1 6 := ag.1 6 (by decide)
      refine ⟨fun c53 => ?_, fun c53 => ?_⟩
      ·
        exact l_253 _ _ _ hT ag (show τ52.1 0 = σ.1 0 from by first | exact W0 | omega) (show τ52.1 3 = σ.1 3 from by first | exact W3 | omega) (show τ52.1 7 = σ.1 7 from by first | exact W7 | omega) (show τ52.1 8 = σ.1 8 from by first | exact W8 | omega) (show τ52.1 9 = σ.1 9 from by first | exact W9 | omega) (show τ52.1 10 = σ.1 10 from by first | exact W10 | omega) (show τ52.1 11 = σ.1 11 from by first | exact W11 | omega) (show τ52.1 15 = σ.1 15 from by first | exact W15 | omega) (show τ52.1 22 = σ.1 22 from by first | exact W22 | omega) G6 G7 G8 G9 G14 G35 (show (τ52.1 16) ≤ (τ52.1 0) from by (first | omega | (simp only [st_s] <;> omega) | assumption | omega | fail)) (show (τ52.1 17) + (τ52.1 18) ≤ (τ52.1 0) from by (first | omega | (simp only [st_s] <;> omega) | assumption | omega | fail)) (show oc (τ52.2.1 6) < 4096 from by (first | omega | (simp only [st_s] <;> omega) | assumption | omega | fail)) (show oc (τ52.2.1 7) < 4096 from by (first | omega | (simp only [st_s] <;> omega) | assumption | omega | fail)) (show ¬ (σ.1 20) = 0 → (τ52.1 20) = (σ.1 20) from by (first | omega | (simp only [st_s] <;> omega) | assumption | omega | fail)) (show τ52.2.1 14 (τ52.1 22) + τ52.2.1 15 (τ52.1 22) = (τ52.1 6) from Z1) (show ca (τ52.2.1 12) ((τ52.1 3)) ≤ (τ52.1 4) from Y20) (show (τ52.1 5) = (σ.1 5) from by (first | omega | (simp only [st_s] <;> omega) | assumption | omega | fail)) (show (τ52.1 13) = (σ.1 13) from by (first | omega | (simp only [st_s] <;> omega) | assumption | omega | fail)) (show τ52.2.1 15 (τ52.1 22) ≤ 2 from by (first | omega | (simp only [st_s] <;> omega) | assumption | omega | fail)) (show (σ.1 16) ≤ (τ52.1 16) from by (first | omega | (simp only [st_s] <;> omega) | assumption | omega | fail)) (show -1 ≤ u1_211 from by (first | omega | (simp only [st_s] <;> omega) | assumption | omega | fail)) (show u1_211 ≤ 999 from by (first | omega | (simp only [st_s] <;> omega) | assumption | omega | fail)) (show 0 ≤ u2_211 from by (first | omega | (simp only [st_s] <;> omega) | assumption | omega | fail)) (show u2_211 ≤ 999 from by (first | omega | (simp only [st_s] <;> omega) | assumption | omega | fail)) (show 0 ≤ u1_211 from by (first | omega | (simp only [st_s] <;> omega) | assumption | omega | fail)) (show τ52.2.1 15 (τ52.1 22) = 2 from by (first | omega | (simp only [st_s] <;> omega) | assumption | omega | fail)) (show τ52.2.1 11 = σ.2.1 11 from by (first | exact i211_17 | (rw [g11_τ52]; exact i211_17) | (rw [g11_τ57]; exact i211_17) | (rw [g11_τ52, g11_τ49]; exact i211_17) | (rw [g11_τ57, g11_τ52, g11_τ49]; exact i211_17) | fail)) (show τ52.2.1 31 = σ.2.1 31 from by (first | exact i211_18 | (rw [g31_τ52]; exact i211_18) | (rw [g31_τ57]; exact i211_18) | (rw [g31_τ52, g31_τ49]; exact i211_18) | (rw [g31_τ57, g31_τ52, g31_τ49]; exact i211_18) | fail)) (show τ52.2.1 13 = σ.2.1 13 from by (first | exact i211_19 | (rw [g13_τ52]; exact i211_19) | (rw [g13_τ57]; exact i211_19) | (rw [g13_τ52, g13_τ49]; exact i211_19) | (rw [g13_τ57, g13_τ52, g13_τ49]; exact i211_19) | fail)) (show τ52.2.1 10 = σ.2.1 10 from by (first | exact i211_20 | (rw [g10_τ52]; exact i211_20) | (rw [g10_τ57]; exact i211_20) | (rw [g10_τ52, g10_τ49]; exact i211_20) | (rw [g10_τ57, g10_τ52, g10_τ49]; exact i211_20) | fail)) (show n_rl σ τ52 from by (first | exact i211_21 | exact n_rl_r i211_21 hf_τ52 rfl rfl | exact n_rl_r i211_21 hf_τ57 rfl rfl | exact n_rl_r (n_rl_r i211_21 hf_τ49 rfl rfl) hf_τ52 rfl rfl | exact n_rl_r (n_rl_r (n_rl_r i211_21 hf_τ49 rfl rfl) hf_τ52 rfl rfl) hf_τ57 rfl rfl | fail)) (show u1_211 < (σ.1 3) ∧ ¬ σ.2.1 8 u1_211 = 0 ∧ σ.2.1 11 u1_211 = -1 ∧ (σ.2.1 10 u1_211 = -1 ∨ σ.2.1 10 u1_211 = u2_211) from by exact f211 (by omega)) (show n_N0 (τ52.2.1 14 (τ52.1 22)) (σ.1 3) (σ.2.1 8) (τ52.2.1 12) (τ52.2.1 16) (τ52.2.1 17) from by (first | (rw [g14_τ52, g12_τ52, g16_τ52, g17_τ52, w22_τ52]; exact z49) | (rw [g14_τ57, g12_τ57, g16_τ57, g17_τ57, w22_τ57, g14_τ52, g12_τ52, g16_τ52, g17_τ52, w22_τ52]; exact z49) | fail)) (show τ52.2.1 16 (τ52.2.1 14 (τ52.1 22) + 1) = u1_211 ∧ τ52.2.1 17 (τ52.2.1 14 (τ52.1 22) + 1) = (τ52.1 22) from by (first | (rw [g14_τ52, g16_τ52, g17_τ52, w22_τ52]; exact y49) | (rw [g14_τ57, g16_τ57, g17_τ57, w22_τ57, g14_τ52, g16_τ52, g17_τ52, w22_τ52]; exact y49) | fail)) (show u2_211 = τ52.2.1 16 (τ52.2.1 14 (τ52.1 22)) from by (first | (rw [g14_τ52, g16_τ52, w22_τ52]; exact v49) | (rw [g14_τ57, g16_τ57, w22_τ57, g14_τ52, g16_τ52, w22_τ52]; exact v49) | fail))
      ·
        refine ⟨fun c54 => ?_, fun c54 => ?_⟩
        ·
          exact l_253 _ _ _ hT ag (show τ52.1 0 = σ.1 0 from by first | exact W0 | omega) (show τ52.1 3 = σ.1 3 from by first | exact W3 | omega) (show τ52.1 7 = σ.1 7 from by first | exact W7 | omega) (show τ52.1 8 = σ.1 8 from by first | exact W8 | omega) (show τ52.1 9 = σ.1 9 from by first | exact W9 | omega) (show τ52.1 10 = σ.1 10 from by first | exact W10 | omega) (show τ52.1 11 = σ.1 11 from by first | exact W11 | omega) (show τ52.1 15 = σ.1 15 from by first | exact W15 | omega) (show τ52.1 22 = σ.1 22 from by first | exact W22 | omega) G6 G7 G8 G9 G14 G35 (show (τ52.1 16) ≤ (τ52.1 0) from by (first | omega | (simp only [st_s] <;> omega) | assumption | omega | fail)) (show (τ52.1 17) + (τ52.1 18) ≤ (τ52.1 0) from by (first | omega | (simp only [st_s] <;> omega) | assumption | omega | fail)) (show oc (τ52.2.1 6) < 4096 from by (first | omega | (simp only [st_s] <;> omega) | assumption | omega | fail)) (show oc (τ52.2.1 7) < 4096 from by (first | omega | (simp only [st_s] <;> omega) | assumption | omega | fail)) (show ¬ (σ.1 20) = 0 → (τ52.1 20) = (σ.1 20) from by (first | omega | (simp only [st_s] <;> omega) | assumption | omega | fail)) (show τ52.2.1 14 (τ52.1 22) + τ52.2.1 15 (τ52.1 22) = (τ52.1 6) from Z1) (show ca (τ52.2.1 12) ((τ52.1 3)) ≤ (τ52.1 4) from Y20) (show (τ52.1 5) = (σ.1 5) from by (first | omega | (simp only [st_s] <;> omega) | assumption | omega | fail)) (show (τ52.1 13) = (σ.1 13) from by (first | omega | (simp only [st_s] <;> omega) | assumption | omega | fail)) (show τ52.2.1 15 (τ52.1 22) ≤ 2 from by (first | omega | (simp only [st_s] <;> omega) | assumption | omega | fail)) (show (σ.1 16) ≤ (τ52.1 16) from by (first | omega | (simp only [st_s] <;> omega) | assumption | omega | fail)) (show -1 ≤ u1_211 from by (first | omega | (simp only [st_s] <;> omega) | assumption | omega | fail)) (show u1_211 ≤ 999 from by (first | omega | (simp only [st_s] <;> omega) | assumption | omega | fail)) (show 0 ≤ u2_211 from by (first | omega | (simp only [st_s] <;> omega) | assumption | omega | fail)) (show u2_211 ≤ 999 from by (first | omega | (simp only [st_s] <;> omega) | assumption | omega | fail)) (show 0 ≤ u1_211 from by (first | omega | (simp only [st_s] <;> omega) | assumption | omega | fail)) (show τ52.2.1 15 (τ52.1 22) = 2 from by (first | omega | (simp only [st_s] <;> omega) | assumption | omega | fail)) (show τ52.2.1 11 = σ.2.1 11 from by (first | exact i211_17 | (rw [g11_τ52]; exact i211_17) | (rw [g11_τ57]; exact i211_17) | (rw [g11_τ52, g11_τ49]; exact i211_17) | (rw [g11_τ57, g11_τ52, g11_τ49]; exact i211_17) | fail)) (show τ52.2.1 31 = σ.2.1 31 from by (first | exact i211_18 | (rw [g31_τ52]; exact i211_18) | (rw [g31_τ57]; exact i211_18) | (rw [g31_τ52, g31_τ49]; exact i211_18) | (rw [g31_τ57, g31_τ52, g31_τ49]; exact i211_18) | fail)) (show τ52.2.1 13 = σ.2.1 13 from by (first | exact i211_19 | (rw [g13_τ52]; exact i211_19) | (rw [g13_τ57]; exact i211_19) | (rw [g13_τ52, g13_τ49]; exact i211_19) | (rw [g13_τ57, g13_τ52, g13_τ49]; exact i211_19) | fail)) (show τ52.2.1 10 = σ.2.1 10 from by (first | exact i211_20 | (rw [g10_τ52]; exact i211_20) | (rw [g10_τ57]; exact i211_20) | (rw [g10_τ52, g10_τ49]; exact i211_20) | (rw [g10_τ57, g10_τ52, g10_τ49]; exact i211_20) | fail)) (show n_rl σ τ52 from by (first | exact i211_21 | exact n_rl_r i211_21 hf_τ52 rfl rfl | exact n_rl_r i211_21 hf_τ57 rfl rfl | exact n_rl_r (n_rl_r i211_21 hf_τ49 rfl rfl) hf_τ52 rfl rfl | exact n_rl_r (n_rl_r (n_rl_r i211_21 hf_τ49 rfl rfl) hf_τ52 rfl rfl) hf_τ57 rfl rfl | fail)) (show u1_211 < (σ.1 3) ∧ ¬ σ.2.1 8 u1_211 = 0 ∧ σ.2.1 11 u1_211 = -1 ∧ (σ.2.1 10 u1_211 = -1 ∨ σ.2.1 10 u1_211 = u2_211) from by exact f211 (by omega)) (show n_N0 (τ52.2.1 14 (τ52.1 22)) (σ.1 3) (σ.2.1 8) (τ52.2.1 12) (τ52.2.1 16) (τ52.2.1 17) from by (first | (rw [g14_τ52, g12_τ52, g16_τ52, g17_τ52, w22_τ52]; exact z49) | (rw [g14_τ57, g12_τ57, g16_τ57, g17_τ57, w22_τ57, g14_τ52, g12_τ52, g16_τ52, g17_τ52, w22_τ52]; exact z49) | fail)) (show τ52.2.1 16 (τ52.2.1 14 (τ52.1 22) + 1) = u1_211 ∧ τ52.2.1 17 (τ52.2.1 14 (τ52.1 22) + 1) = (τ52.1 22) from by (first | (rw [g14_τ52, g16_τ52, g17_τ52, w22_τ52]; exact y49) | (rw [g14_τ57, g16_τ57, g17_τ57, w22_τ57, g14_τ52, g16_τ52, g17_τ52, w22_τ52]; exact y49) | fail)) (show u2_211 = τ52.2.1 16 (τ52.2.1 14 (τ52.1 22)) from by (first | (rw [g14_τ52, g16_τ52, w22_τ52]; exact v49) | (rw [g14_τ57, g16_τ57, w22_τ57, g14_τ52, g16_τ52, w22_τ52]; exact v49) | fail))
        ·
          refine ⟨_, K_X13_failHere hT (show 0 ≤ (4 : Int) from by (first | omega | (simp only [st_s] <;> omega) | assumption | omega | fail)) (show (4 : Int) ≤ 19 from by (first | omega | (simp only [st_s] <;> omega) | assumption | omega | fail)), ?_⟩
          intro τ57 hn_τ57 hf_τ57 hq
          obtain ⟨hT, q55_1, q55_2⟩ := hq
          replace q55_1 : ¬ (τ52.1 20) = 0 → (τ57.1 20) = (τ52.1 20) := q55_1
          replace q55_2 : (τ52.1 20) = 0 → (τ57.1 20) = (4 : Int) := q55_2
          replace ag : m_ag σ τ57 := ag_r ag hf_τ57 rfl rfl
          have w0_τ57 : τ57.1 0 = τ52.1 0 := hf_τ57.1 0 (by decide)
          have w3_τ57 : τ57.1 3 = τ52.1 3 := hf_τ57.1 3 (by decide)
          have w4_τ57 : τ57.1 4 = τ52.1 4 := hf_τ57.1 4 (by decide)
          have w5_τ57 : τ57.1 5 = τ52.1 5 := hf_τ57.1 5 (by decide)
          have w6_τ57 : τ57.1 6 = τ52.1 6 := hf_τ57.1 6 (by decide)
          have w7_τ57 : τ57.1 7 = τ52.1 7 := hf_τ57.1 7 (by decide)
          have w8_τ57 : τ57.1 8 = τ52.1 8 := hf_τ57.1 8 (by decide)
          have w9_τ57 : τ57.1 9 = τ52.1 9 := hf_τ57.1 9 (by decide)
          have w10_τ57 : τ57.1 10 = τ52.1 10 := hf_τ57.1 10 (by decide)
          have w11_τ57 : τ57.1 11 = τ52.1 11 := hf_τ57.1 11 (by decide)
          have w13_τ57 : τ57.1 13 = τ52.1 13 := hf_τ57.1 13 (by decide)
          have w15_τ57 : τ57.1 15 = τ52.1 15 := hf_τ57.1 15 (by decide)
          have w16_τ57 : τ57.1 16 = τ52.1 16 := hf_τ57.1 16 (by decide)
          have w17_τ57 : τ57.1 17 = τ52.1 17 := hf_τ57.1 17 (by decide)
          have w18_τ57 : τ57.1 18 = τ52.1 18 := hf_τ57.1 18 (by decide)
          have w19_τ57 : τ57.1 19 = τ52.1 19 := hf_τ57.1 19 (by decide)
          have w22_τ57 : τ57.1 22 = τ52.1 22 := hf_τ57.1 22 (by decide)
          have g6_τ57 : τ57.2.1 6 = τ52.2.1 6 := hf_τ57.2.1 6 (by decide)
          have g7_τ57 : τ57.2.1 7 = τ52.2.1 7 := hf_τ57.2.1 7 (by decide)
          have g8_τ57 : τ57.2.1 8 = τ52.2.1 8 := hf_τ57.2.1 8 (by decide)
          have g9_τ57 : τ57.2.1 9 = τ52.2.1 9 := hf_τ57.2.1 9 (by decide)
          have g10_τ57 : τ57.2.1 10 = τ52.2.1 10 := hf_τ57.2.1 10 (by decide)
          have g11_τ57 : τ57.2.1 11 = τ52.2.1 11 := hf_τ57.2.1 11 (by decide)
          have g12_τ57 : τ57.2.1 12 = τ52.2.1 12 := hf_τ57.2.1 12 (by decide)
          have g13_τ57 : τ57.2.1 13 = τ52.2.1 13 := hf_τ57.2.1 13 (by decide)
          have g14_τ57 : τ57.2.1 14 = τ52.2.1 14 := hf_τ57.2.1 14 (by decide)
          have g15_τ57 : τ57.2.1 15 = τ52.2.1 15 := hf_τ57.2.1 15 (by decide)
          have g16_τ57 : τ57.2.1 16 = τ52.2.1 16 := hf_τ57.2.1 16 (by decide)
          have g17_τ57 : τ57.2.1 17 = τ52.2.1 17 := hf_τ57.2.1 17 (by decide)
          have g31_τ57 : τ57.2.1 31 = τ52.2.1 31 := hf_τ57.2.1 31 (by decide)
          have g35_τ57 : τ57.2.1 35 = τ52.2.1 35 := hf_τ57.2.1 35 (by decide)
          first | (have ca_τ57 := congr (congrArg ca g9_τ57) w3_τ57) | skip
          first | (have o6_τ57 := congrArg oc g6_τ57) | skip
          first | (have o7_τ57 := congrArg oc g7_τ57) | skip
          have W0 : τ57.1 0 = σ.1 0 := by first | exact w0_τ57.trans W0 | omega
          have W3 : τ57.1 3 = σ.1 3 := by first | exact w3_τ57.trans W3 | omega
          have W7 : τ57.1 7 = σ.1 7 := by first | exact w7_τ57.trans W7 | omega
          have W8 : τ57.1 8 = σ.1 8 := by first | exact w8_τ57.trans W8 | omega
          have W9 : τ57.1 9 = σ.1 9 := by first | exact w9_τ57.trans W9 | omega
          have W10 : τ57.1 10 = σ.1 10 := by first | exact w10_τ57.trans W10 | omega
          have W11 : τ57.1 11 = σ.1 11 := by first | exact w11_τ57.trans W11 | omega
          have W15 : τ57.1 15 = σ.1 15 := by first | exact w15_τ57.trans W15 | omega
          have W22 : τ57.1 22 = σ.1 22 := by first | exact w22_τ57.trans W22 | omega
          have G6 : τ57.2.1 6 = σ.2.1 6 := (g6_τ57).trans G6
          have G7 : τ57.2.1 7 = σ.2.1 7 := (g7_τ57).trans G7
          have G8 : τ57.2.1 8 = σ.2.1 8 := (g8_τ57).trans G8
          have G9 : τ57.2.1 9 = σ.2.1 9 := (g9_τ57).trans G9
          have G14 : τ57.2.1 14 = σ.2.1 14 := (g14_τ57).trans G14
          have G35 : τ57.2.1 35 = σ.2.1 35 := (g35_τ57).trans G35
          have y14_22_τ57 : τ57.2.1 14 (τ57.1 22) = (τ52.2.1 14) (τ52.1 22) := by rw [g14_τ57, w22_τ57]
          have y15_22_τ57 : τ57.2.1 15 (τ57.1 22) = (τ52.2.1 15) (τ52.1 22) := by rw [g15_τ57, w22_τ57]
          have Z1 : τ57.2.1 14 (τ57.1 22) + τ57.2.1 15 (τ57.1 22) = (τ57.1 6) := by rw [show (τ57.2.1 14 (τ57.1 22) + τ57.2.1 15 (τ57.1 22) = (τ57.1 6)) = (τ52.2.1 14 (τ52.1 22) + τ52.2.1 15 (τ52.1 22) = (τ52.1 6)) from by rw [w6_τ57, w22_τ57, g14_τ57, g15_τ57]]; exact Z1
          have Y20 : ca (τ57.2.1 12) ((τ57.1 3)) ≤ (τ57.1 4) := by rw [show (ca (τ57.2.1 12) ((τ57.1 3)) ≤ (τ57.1 4)) = (ca (τ52.2.1 12) ((τ52.1 3)) ≤ (τ52.1 4)) from by rw [w3_τ57, w4_τ57, g12_τ57]]; exact Y20
          have Y1 : j_l2 (τ57.2.1 6) (τ57.1 3) := by rw [show (j_l2 (τ57.2.1 6) (τ57.1 3)) = (j_l2 (τ52.2.1 6) (τ52.1 3)) from by rw [w3_τ57, g6_τ57]]; exact Y1
          have STt : j_l2 (τ57.2.1 6) (τ57.1 3) := by rw [show (j_l2 (τ57.2.1 6) (τ57.1 3)) = (j_l2 (τ52.2.1 6) (τ52.1 3)) from by rw [w3_τ57, g6_τ57]]; exact STt
          have A6 : ∀ j, (-1) ≤ τ57.2.1 6 j ∧ τ57.2.1 6 j ≤ 999 := fun j => hT.2 6 j
          have A7 : ∀ j, (-1) ≤ τ57.2.1 7 j ∧ τ57.2.1 7 j ≤ 1499 := fun j => hT.2 7 j
          have A8 : ∀ j, 0 ≤ τ57.2.1 8 j ∧ τ57.2.1 8 j ≤ 1 := fun j => hT.2 8 j
          have A9 : ∀ j, 0 ≤ τ57.2.1 9 j ∧ τ57.2.1 9 j ≤ 1 := fun j => hT.2 9 j
          have A10 : ∀ j, (-1) ≤ τ57.2.1 10 j ∧ τ57.2.1 10 j ≤ 999 := fun j => hT.2 10 j
          have A11 : ∀ j, (-1) ≤ τ57.2.1 11 j ∧ τ57.2.1 11 j ≤ 1499 := fun j => hT.2 11 j
          have A12 : ∀ j, 0 ≤ τ57.2.1 12 j ∧ τ57.2.1 12 j ≤ 1 := fun j => hT.2 12 j
          have A13 : ∀ j, 0 ≤ τ57.2.1 13 j ∧ τ57.2.1 13 j ≤ 4 := fun j => hT.2 13 j
          have A14 : ∀ j, 0 ≤ τ57.2.1 14 j ∧ τ57.2.1 14 j ≤ 30000 := fun j => hT.2 14 j
          have A15 : ∀ j, 0 ≤ τ57.2.1 15 j ∧ τ57.2.1 15 j ≤ 300 := fun j => hT.2 15 j
          have A16 : ∀ j, 0 ≤ τ57.2.1 16 j ∧ τ57.2.1 16 j ≤ 999 := fun j => hT.2 16 j
          have A17 : ∀ j, (-1) ≤ τ57.2.1 17 j ∧ τ57.2.1 17 j ≤ 1499 := fun j => hT.2 17 j
          have A31 : ∀ j, 0 ≤ τ57.2.1 31 j ∧ τ57.2.1 31 j ≤ 1499 := fun j => hT.2 31 j
          have A35 : ∀ j, 0 ≤ τ57.2.1 35 j ∧ τ57.2.1 35 j ≤ 1500 := fun j => hT.2 35 j
          have v0 : 0 ≤ τ57.1 0 ∧ τ57.1 0 ≤ 60000 := hT.1 0
          have v3 : 0 ≤ τ57.1 3 ∧ τ57.1 3 ≤ 1000 := hT.1 3
          have v4 : 0 ≤ τ57.1 4 ∧ τ57.1 4 ≤ 100 := hT.1 4
          have v5 : 0 ≤ τ57.1 5 ∧ τ57.1 5 ≤ 1500 := hT.1 5
          have v6 : 0 ≤ τ57.1 6 ∧ τ57.1 6 ≤ 30000 := hT.1 6
          have v7 : 0 ≤ τ57.1 7 ∧ τ57.1 7 ≤ 90000 := hT.1 7
          have v8 : 0 ≤ τ57.1 8 ∧ τ57.1 8 ≤ 20000 := hT.1 8
          have v9 : 0 ≤ τ57.1 9 ∧ τ57.1 9 ≤ 20000 := hT.1 9
          have v10 : (-1) ≤ τ57.1 10 ∧ τ57.1 10 ≤ 999 := hT.1 10
          have v11 : (-1) ≤ τ57.1 11 ∧ τ57.1 11 ≤ 999 := hT.1 11
          have v13 : 0 ≤ τ57.1 13 ∧ τ57.1 13 ≤ 1500 := hT.1 13
          have v15 : 0 ≤ τ57.1 15 ∧ τ57.1 15 ≤ 50 := hT.1 15
          have v16 : 0 ≤ τ57.1 16 ∧ τ57.1 16 ≤ 60000 := hT.1 16
          have v17 : 0 ≤ τ57.1 17 ∧ τ57.1 17 ≤ 60000 := hT.1 17
          have v18 : 0 ≤ τ57.1 18 ∧ τ57.1 18 ≤ 60000 := hT.1 18
          have v19 : (-1) ≤ τ57.1 19 ∧ τ57.1 19 ≤ 125 := hT.1 19
          have v20 : 0 ≤ τ57.1 20 ∧ τ57.1 20 ≤ 19 := hT.1 20
          have v22 : 0 ≤ τ57.1 22 ∧ τ57.1 22 ≤ 1499 := hT.1 22
          have a14_22 : 0 ≤ τ57.2.1 14 (τ57.1 22) ∧ τ57.2.1 14 (τ57.1 22) ≤ 30000 := hT.2 14 _
          have a15_22 : 0 ≤ τ57.2.1 15 (τ57.1 22) ∧ τ57.2.1 15 (τ57.1 22) ≤ 300 := hT.2 15 _
          have av5 : σ.1 5 ≤ τ57.1 5 := ag.1 5 (by decide)
          have av6 : σ.1 6 ≤ τ57.1 6 := ag.1 6 (by decide)
          exact l_253 _ _ _ hT ag (show τ57.1 0 = σ.1 0 from by first | exact W0 | omega) (show τ57.1 3 = σ.1 3 from by first | exact W3 | omega) (show τ57.1 7 = σ.1 7 from by first | exact W7 | omega) (show τ57.1 8 = σ.1 8 from by first | exact W8 | omega) (show τ57.1 9 = σ.1 9 from by first | exact W9 | omega) (show τ57.1 10 = σ.1 10 from by first | exact W10 | omega) (show τ57.1 11 = σ.1 11 from by first | exact W11 | omega) (show τ57.1 15 = σ.1 15 from by first | exact W15 | omega) (show τ57.1 22 = σ.1 22 from by first | exact W22 | omega) G6 G7 G8 G9 G14 G35 (show (τ57.1 16) ≤ (τ57.1 0) from by (first | omega | (simp only [st_s] <;> omega) | assumption | omega | fail)) (show (τ57.1 17) + (τ57.1 18) ≤ (τ57.1 0) from by (first | omega | (simp only [st_s] <;> omega) | assumption | omega | fail)) (show oc (τ57.2.1 6) < 4096 from by (first | omega | (simp only [st_s] <;> omega) | assumption | omega | fail)) (show oc (τ57.2.1 7) < 4096 from by (first | omega | (simp only [st_s] <;> omega) | assumption | omega | fail)) (show ¬ (σ.1 20) = 0 → (τ57.1 20) = (σ.1 20) from by (first | omega | (simp only [st_s] <;> omega) | assumption | omega | fail)) (show τ57.2.1 14 (τ57.1 22) + τ57.2.1 15 (τ57.1 22) = (τ57.1 6) from Z1) (show ca (τ57.2.1 12) ((τ57.1 3)) ≤ (τ57.1 4) from Y20) (show (τ57.1 5) = (σ.1 5) from by (first | omega | (simp only [st_s] <;> omega) | assumption | omega | fail)) (show (τ57.1 13) = (σ.1 13) from by (first | omega | (simp only [st_s] <;> omega) | assumption | omega | fail)) (show τ57.2.1 15 (τ57.1 22) ≤ 2 from by (first | omega | (simp only [st_s] <;> omega) | assumption | omega | fail)) (show (σ.1 16) ≤ (τ57.1 16) from by (first | omega | (simp only [st_s] <;> omega) | assumption | omega | fail)) (show -1 ≤ u1_211 from by (first | omega | (simp only [st_s] <;> omega) | assumption | omega | fail)) (show u1_211 ≤ 999 from by (first | omega | (simp only [st_s] <;> omega) | assumption | omega | fail)) (show 0 ≤ u2_211 from by (first | omega | (simp only [st_s] <;> omega) | assumption | omega | fail)) (show u2_211 ≤ 999 from by (first | omega | (simp only [st_s] <;> omega) | assumption | omega | fail)) (show 0 ≤ u1_211 from by (first | omega | (simp only [st_s] <;> omega) | assumption | omega | fail)) (show τ57.2.1 15 (τ57.1 22) = 2 from by (first | omega | (simp only [st_s] <;> omega) | assumption | omega | fail)) (show τ57.2.1 11 = σ.2.1 11 from by (first | exact i211_17 | (rw [g11_τ52]; exact i211_17) | (rw [g11_τ57]; exact i211_17) | (rw [g11_τ52, g11_τ49]; exact i211_17) | (rw [g11_τ57, g11_τ52, g11_τ49]; exact i211_17) | fail)) (show τ57.2.1 31 = σ.2.1 31 from by (first | exact i211_18 | (rw [g31_τ52]; exact i211_18) | (rw [g31_τ57]; exact i211_18) | (rw [g31_τ52, g31_τ49]; exact i211_18) | (rw [g31_τ57, g31_τ52, g31_τ49]; exact i211_18) | fail)) (show τ57.2.1 13 = σ.2.1 13 from by (first | exact i211_19 | (rw [g13_τ52]; exact i211_19) | (rw [g13_τ57]; exact i211_19) | (rw [g13_τ52, g13_τ49]; exact i211_19) | (rw [g13_τ57, g13_τ52, g13_τ49]; exact i211_19) | fail)) (show τ57.2.1 10 = σ.2.1 10 from by (first | exact i211_20 | (rw [g10_τ52]; exact i211_20) | (rw [g10_τ57]; exact i211_20) | (rw [g10_τ52, g10_τ49]; exact i211_20) | (rw [g10_τ57, g10_τ52, g10_τ49]; exact i211_20) | fail)) (show n_rl σ τ57 from by (first | exact i211_21 | exact n_rl_r i211_21 hf_τ52 rfl rfl | exact n_rl_r i211_21 hf_τ57 rfl rfl | exact n_rl_r (n_rl_r i211_21 hf_τ49 rfl rfl) hf_τ52 rfl rfl | exact n_rl_r (n_rl_r (n_rl_r i211_21 hf_τ49 rfl rfl) hf_τ52 rfl rfl) hf_τ57 rfl rfl | fail)) (show u1_211 < (σ.1 3) ∧ ¬ σ.2.1 8 u1_211 = 0 ∧ σ.2.1 11 u1_211 = -1 ∧ (σ.2.1 10 u1_211 = -1 ∨ σ.2.1 10 u1_211 = u2_211) from by exact f211 (by omega)) (show n_N0 (τ57.2.1 14 (τ57.1 22)) (σ.1 3) (σ.2.1 8) (τ57.2.1 12) (τ57.2.1 16) (τ57.2.1 17) from by (first | (rw [g14_τ52, g12_τ52, g16_τ52, g17_τ52, w22_τ52]; exact z49) | (rw [g14_τ57, g12_τ57, g16_τ57, g17_τ57, w22_τ57, g14_τ52, g12_τ52, g16_τ52, g17_τ52, w22_τ52]; exact z49) | fail)) (show τ57.2.1 16 (τ57.2.1 14 (τ57.1 22) + 1) = u1_211 ∧ τ57.2.1 17 (τ57.2.1 14 (τ57.1 22) + 1) = (τ57.1 22) from by (first | (rw [g14_τ52, g16_τ52, g17_τ52, w22_τ52]; exact y49) | (rw [g14_τ57, g16_τ57, g17_τ57, w22_τ57, g14_τ52, g16_τ52, g17_τ52, w22_τ52]; exact y49) | fail)) (show u2_211 = τ57.2.1 16 (τ57.2.1 14 (τ57.1 22)) from by (first | (rw [g14_τ52, g16_τ52, w22_τ52]; exact v49) | (rw [g14_τ57, g16_τ57, w22_τ57, g14_τ52, g16_τ52, w22_τ52]; exact v49) | fail))
    ·
      exact ⟨hT, (show (τ_211.1 16) ≤ (τ_211.1 0) from by (first | omega | (simp only [st_s] <;> omega) | assumption | omega | fail)), (show (τ_211.1 17) + (τ_211.1 18) ≤ (τ_211.1 0) from by (first | omega | (simp only [st_s] <;> omega) | assumption | omega | fail)), (show ¬ (σ.1 20) = 0 → (τ_211.1 20) = (σ.1 20) from by (first | omega | (simp only [st_s] <;> omega) | assumption | omega | fail)), (show τ_211.2.1 14 (τ_211.1 22) + τ_211.2.1 15 (τ_211.1 22) = (τ_211.1 6) from Z1), (show ca (τ_211.2.1 12) ((τ_211.1 3)) ≤ (τ_211.1 4) from Y20), (show (τ_211.1 13) ≤ (τ_211.1 5) from by (first | omega | (simp only [st_s] <;> omega) | assumption | omega | fail)), (show (τ_211.1 20) = 0 → (τ_211.1 5) = (σ.1 5) + 1 ∧ 2 ≤ τ_211.2.1 15 (τ_211.1 22) from by (first | omega | (simp only [st_s] <;> omega) | assumption | omega | fail)), (show (τ_211.1 5) ≤ (σ.1 5) + 1 from by (first | omega | (simp only [st_s] <;> omega) | assumption | omega | fail)), (show (σ.1 16) ≤ (τ_211.1 16) from by (first | omega | (simp only [st_s] <;> omega) | assumption | omega | fail)), ag, (show (τ_211.1 20) = 0 → n_J1 (σ.1 5) τ_211 ∧ n_S τ_211 from by (first | (intro z; exfalso; omega) | exact fun _ => ⟨j81, s81⟩ | fail)), (show n_rl σ τ_211 from by (first | exact i15_17 | exact i47_17 | exact i211_21 | exact i253_22 | exact rl81 | fail)), (show n_hk σ τ_211 from by (first | exact hk81 | exact n_hk_g (by omega) (by omega) i15_14 G35 | exact n_hk_g (by omega) (by omega) i47_14 G35 | exact n_hk_g (by omega) (by omega) i211_18 G35 | exact n_hk_g (by omega) (by omega) i253_19 G35 | fail))⟩
  have l_167 : ∀ (u1_167 : Int) (u2_167 : Int) (τ_167 : S0), (m_T τ_167) → (m_ag σ τ_167) → (τ_167.1 0 = σ.1 0) → (τ_167.1 3 = σ.1 3) → (τ_167.1 7 = σ.1 7) → (τ_167.1 8 = σ.1 8) → (τ_167.1 9 = σ.1 9) → (τ_167.1 10 = σ.1 10) → (τ_167.1 11 = σ.1 11) → (τ_167.1 15 = σ.1 15) → (τ_167.1 22 = σ.1 22) → (τ_167.2.1 6 = σ.2.1 6) → (τ_167.2.1 7 = σ.2.1 7) → (τ_167.2.1 8 = σ.2.1 8) → (τ_167.2.1 9 = σ.2.1 9) → (τ_167.2.1 14 = σ.2.1 14) → (τ_167.2.1 35 = σ.2.1 35) → ((τ_167.1 16) ≤ (τ_167.1 0)) → ((τ_167.1 17) + (τ_167.1 18) ≤ (τ_167.1 0)) → (oc (τ_167.2.1 6) < 4096) → (oc (τ_167.2.1 7) < 4096) → (¬ (σ.1 20) = 0 → (τ_167.1 20) = (σ.1 20)) → (τ_167.2.1 14 (τ_167.1 22) + τ_167.2.1 15 (τ_167.1 22) = (τ_167.1 6)) → (ca (τ_167.2.1 12) ((τ_167.1 3)) ≤ (τ_167.1 4)) → ((τ_167.1 5) = (σ.1 5)) → ((τ_167.1 13) = (σ.1 13)) → (τ_167.2.1 15 (τ_167.1 22) ≤ 2) → ((σ.1 16) ≤ (τ_167.1 16)) → (-1 ≤ u1_167) → (u1_167 ≤ 999) → (0 ≤ u2_167) → (u2_167 ≤ 999) → (0 ≤ u1_167) → ((τ_167.1 20) = 0) → (τ_167.2.1 15 (τ_167.1 22) = 1) → ((τ_167.1 6) < 30000) → (τ_167.2.1 11 = σ.2.1 11) → (τ_167.2.1 31 = σ.2.1 31) → (τ_167.2.1 13 = σ.2.1 13) → (τ_167.2.1 10 = σ.2.1 10) → (n_rl σ τ_167) → ((τ_167.1 20) = 0 → n_N (τ_167.2.1 14 (τ_167.1 22)) (τ_167.2.1 14 (τ_167.1 22) + τ_167.2.1 15 (τ_167.1 22)) (σ.1 3) (σ.2.1 8) (σ.2.1 11) (τ_167.2.1 12) (τ_167.2.1 16) (τ_167.2.1 17)) → (u1_167 < (σ.1 3)) → (σ.2.1 8 u1_167 = 0 ∨ σ.2.1 11 u1_167 = -1) → (u2_167 = τ_167.2.1 16 (τ_167.2.1 14 (τ_167.1 22))) → P167 u1_167 u2_167 τ_167 := by
    intro u1_167 u2_167 τ_167 hT ag W0 W3 W7 W8 W9 W10 W11 W15 W22 G6 G7 G8 G9 G14 G35 i167_1 i167_2 i167_3 i167_4 i167_5 i167_6 i167_7 i167_8 i167_9 i167_10 i167_11 i167_12 i167_13 i167_14 i167_15 i167_16 i167_17 i167_18 i167_19 i167_20 i167_21 i167_22 i167_23 i167_24 i167_25 i167_26 i167_27 i167_28
    have A6 : ∀ j, (-1) ≤ τ_167.2.1 6 j ∧ τ_167.2.1 6 j ≤ 999 := fun j => hT.2 6 j
    have A7 : ∀ j, (-1) ≤ τ_167.2.1 7 j ∧ τ_167.2.1 7 j ≤ 1499 := fun j => hT.2 7 j
    have A8 : ∀ j, 0 ≤ τ_167.2.1 8 j ∧ τ_167.2.1 8 j ≤ 1 := fun j => hT.2 8 j
    have A9 : ∀ j, 0 ≤ τ_167.2.1 9 j ∧ τ_167.2.1 9 j ≤ 1 := fun j => hT.2 9 j
    have A10 : ∀ j, (-1) ≤ τ_167.2.1 10 j ∧ τ_167.2.1 10 j ≤ 999 := fun j => hT.2 10 j
    have A11 : ∀ j, (-1) ≤ τ_167.2.1 11 j ∧ τ_167.2.1 11 j ≤ 1499 := fun j => hT.2 11 j
    have A12 : ∀ j, 0 ≤ τ_167.2.1 12 j ∧ τ_167.2.1 12 j ≤ 1 := fun j => hT.2 12 j
    have A13 : ∀ j, 0 ≤ τ_167.2.1 13 j ∧ τ_167.2.1 13 j ≤ 4 := fun j => hT.2 13 j
    have A14 : ∀ j, 0 ≤ τ_167.2.1 14 j ∧ τ_167.2.1 14 j ≤ 30000 := fun j => hT.2 14 j
    have A15 : ∀ j, 0 ≤ τ_167.2.1 15 j ∧ τ_167.2.1 15 j ≤ 300 := fun j => hT.2 15 j
    have A16 : ∀ j, 0 ≤ τ_167.2.1 16 j ∧ τ_167.2.1 16 j ≤ 999 := fun j => hT.2 16 j
    have A17 : ∀ j, (-1) ≤ τ_167.2.1 17 j ∧ τ_167.2.1 17 j ≤ 1499 := fun j => hT.2 17 j
    have A31 : ∀ j, 0 ≤ τ_167.2.1 31 j ∧ τ_167.2.1 31 j ≤ 1499 := fun j => hT.2 31 j
    have A35 : ∀ j, 0 ≤ τ_167.2.1 35 j ∧ τ_167.2.1 35 j ≤ 1500 := fun j => hT.2 35 j
    have v0 : 0 ≤ τ_167.1 0 ∧ τ_167.1 0 ≤ 60000 := hT.1 0
    have v3 : 0 ≤ τ_167.1 3 ∧ τ_167.1 3 ≤ 1000 := hT.1 3
    have v4 : 0 ≤ τ_167.1 4 ∧ τ_167.1 4 ≤ 100 := hT.1 4
    have v5 : 0 ≤ τ_167.1 5 ∧ τ_167.1 5 ≤ 1500 := hT.1 5
    have v6 : 0 ≤ τ_167.1 6 ∧ τ_167.1 6 ≤ 30000 := hT.1 6
    have v7 : 0 ≤ τ_167.1 7 ∧ τ_167.1 7 ≤ 90000 := hT.1 7
    have v8 : 0 ≤ τ_167.1 8 ∧ τ_167.1 8 ≤ 20000 := hT.1 8
    have v9 : 0 ≤ τ_167.1 9 ∧ τ_167.1 9 ≤ 20000 := hT.1 9
    have v10 : (-1) ≤ τ_167.1 10 ∧ τ_167.1 10 ≤ 999 := hT.1 10
    have v11 : (-1) ≤ τ_167.1 11 ∧ τ_167.1 11 ≤ 999 := hT.1 11
    have v13 : 0 ≤ τ_167.1 13 ∧ τ_167.1 13 ≤ 1500 := hT.1 13
    have v15 : 0 ≤ τ_167.1 15 ∧ τ_167.1 15 ≤ 50 := hT.1 15
    have v16 : 0 ≤ τ_167.1 16 ∧ τ_167.1 16 ≤ 60000 := hT.1 16
    have v17 : 0 ≤ τ_167.1 17 ∧ τ_167.1 17 ≤ 60000 := hT.1 17
    have v18 : 0 ≤ τ_167.1 18 ∧ τ_167.1 18 ≤ 60000 := hT.1 18
    have v19 : (-1) ≤ τ_167.1 19 ∧ τ_167.1 19 ≤ 125 := hT.1 19
    have v20 : 0 ≤ τ_167.1 20 ∧ τ_167.1 20 ≤ 19 := hT.1 20
    have v22 : 0 ≤ τ_167.1 22 ∧ τ_167.1 22 ≤ 1499 := hT.1 22
    have a14_22 : 0 ≤ τ_167.2.1 14 (τ_167.1 22) ∧ τ_167.2.1 14 (τ_167.1 22) ≤ 30000 := hT.2 14 _
    have a15_22 : 0 ≤ τ_167.2.1 15 (τ_167.1 22) ∧ τ_167.2.1 15 (τ_167.1 22) ≤ 300 := hT.2 15 _
    have av5 : σ.1 5 ≤ τ_167.1 5 := ag.1 5 (by decide)
    have av6 : σ.1 6 ≤ τ_167.1 6 := ag.1 6 (by decide)
    have y14_22_τ_167 : τ_167.2.1 14 (τ_167.1 22) = σ.2.1 14 (σ.1 22) := by rw [G14, W22]
    have o6_τ_167 := congrArg oc G6
    have o7_τ_167 := congrArg oc G7
    have ca_τ_167 := congr (congrArg ca G9) W3
    have Z1 : τ_167.2.1 14 (τ_167.1 22) + τ_167.2.1 15 (τ_167.1 22) = (τ_167.1 6) := i167_6
    have Y20 : ca (τ_167.2.1 12) ((τ_167.1 3)) ≤ (τ_167.1 4) := i167_7
    have Y1 : j_l2 (τ_167.2.1 6) (τ_167.1 3) := by rw [show (j_l2 (τ_167.2.1 6) (τ_167.1 3)) = (j_l2 (σ.2.1 6) (σ.1 3)) from by rw [W3, G6]]; exact Y1_0
    have STt : j_l2 (τ_167.2.1 6) (τ_167.1 3) := by rw [show (j_l2 (τ_167.2.1 6) (τ_167.1 3)) = (j_l2 (σ.2.1 6) (σ.1 3)) from by rw [W3, G6]]; exact STt_0
    refine h167 u1_167 u2_167 τ_167 ?_
    refine ⟨(show 0 ≤ u1_167 ∧ u1_167 < 1001 from by (first | omega | (simp only [st_s] <;> omega) | assumption | omega | fail)), ?_⟩
    intro x62 r_x62 e_x62
    have b_x62 : 0 ≤ x62 ∧ x62 ≤ 1 := by rw [e_x62]; exact hT.2 8 _
    refine ⟨fun c63 => ?_, fun c63 => ?_⟩
    ·
      intro x64 r_x64 e_x64
      have b_x64 : (-1) ≤ x64 ∧ x64 ≤ 999 := by rw [e_x64]; exact hT.2 10 _
      refine ⟨fun c65 => ?_, fun c65 => ?_⟩
      ·
        exact l_211 _ _ _ hT ag (show τ_167.1 0 = σ.1 0 from by first | exact W0 | omega) (show τ_167.1 3 = σ.1 3 from by first | exact W3 | omega) (show τ_167.1 7 = σ.1 7 from by first | exact W7 | omega) (show τ_167.1 8 = σ.1 8 from by first | exact W8 | omega) (show τ_167.1 9 = σ.1 9 from by first | exact W9 | omega) (show τ_167.1 10 = σ.1 10 from by first | exact W10 | omega) (show τ_167.1 11 = σ.1 11 from by first | exact W11 | omega) (show τ_167.1 15 = σ.1 15 from by first | exact W15 | omega) (show τ_167.1 22 = σ.1 22 from by first | exact W22 | omega) G6 G7 G8 G9 G14 G35 (show (τ_167.1 16) ≤ (τ_167.1 0) from by (first | omega | (simp only [st_s] <;> omega) | assumption | omega | fail)) (show (τ_167.1 17) + (τ_167.1 18) ≤ (τ_167.1 0) from by (first | omega | (simp only [st_s] <;> omega) | assumption | omega | fail)) (show oc (τ_167.2.1 6) < 4096 from by (first | omega | (simp only [st_s] <;> omega) | assumption | omega | fail)) (show oc (τ_167.2.1 7) < 4096 from by (first | omega | (simp only [st_s] <;> omega) | assumption | omega | fail)) (show ¬ (σ.1 20) = 0 → (τ_167.1 20) = (σ.1 20) from by (first | omega | (simp only [st_s] <;> omega) | assumption | omega | fail)) (show τ_167.2.1 14 (τ_167.1 22) + τ_167.2.1 15 (τ_167.1 22) = (τ_167.1 6) from Z1) (show ca (τ_167.2.1 12) ((τ_167.1 3)) ≤ (τ_167.1 4) from Y20) (show (τ_167.1 5) = (σ.1 5) from by (first | omega | (simp only [st_s] <;> omega) | assumption | omega | fail)) (show (τ_167.1 13) = (σ.1 13) from by (first | omega | (simp only [st_s] <;> omega) | assumption | omega | fail)) (show τ_167.2.1 15 (τ_167.1 22) ≤ 2 from by (first | omega | (simp only [st_s] <;> omega) | assumption | omega | fail)) (show (σ.1 16) ≤ (τ_167.1 16) from by (first | omega | (simp only [st_s] <;> omega) | assumption | omega | fail)) (show -1 ≤ u1_167 from by (first | omega | (simp only [st_s] <;> omega) | assumption | omega | fail)) (show u1_167 ≤ 999 from by (first | omega | (simp only [st_s] <;> omega) | assumption | omega | fail)) (show 0 ≤ u2_167 from by (first | omega | (simp only [st_s] <;> omega) | assumption | omega | fail)) (show u2_167 ≤ 999 from by (first | omega | (simp only [st_s] <;> omega) | assumption | omega | fail)) (show (τ_167.1 20) = 0 → 0 ≤ u1_167 ∧ τ_167.2.1 15 (τ_167.1 22) = 1 ∧ (τ_167.1 6) < 30000 from by (first | omega | (simp only [st_s] <;> omega) | assumption | omega | fail)) (show τ_167.2.1 11 = σ.2.1 11 from by (first | exact i47_13 | exact i135_19 | exact i167_20 | (rw [g11_τ36]; exact i47_13) | (rw [g11_τ39]; exact i47_13) | (rw [g11_τ60]; exact i47_13) | (rw [g11_τ70]; exact i47_13) | (rw [g11_τ73]; exact i47_13) | (rw [g11_τ36]; exact i135_19) | (rw [g11_τ39]; exact i135_19) | (rw [g11_τ60]; exact i135_19) | (rw [g11_τ70]; exact i135_19) | (rw [g11_τ73]; exact i135_19) | (rw [g11_τ36]; exact i167_20) | (rw [g11_τ39]; exact i167_20) | (rw [g11_τ60]; exact i167_20) | (rw [g11_τ70]; exact i167_20) | (rw [g11_τ73]; exact i167_20) | fail)) (show τ_167.2.1 31 = σ.2.1 31 from by (first | exact i47_14 | exact i135_20 | exact i167_21 | (rw [g31_τ36]; exact i47_14) | (rw [g31_τ39]; exact i47_14) | (rw [g31_τ60]; exact i47_14) | (rw [g31_τ70]; exact i47_14) | (rw [g31_τ73]; exact i47_14) | (rw [g31_τ36]; exact i135_20) | (rw [g31_τ39]; exact i135_20) | (rw [g31_τ60]; exact i135_20) | (rw [g31_τ70]; exact i135_20) | (rw [g31_τ73]; exact i135_20) | (rw [g31_τ36]; exact i167_21) | (rw [g31_τ39]; exact i167_21) | (rw [g31_τ60]; exact i167_21) | (rw [g31_τ70]; exact i167_21) | (rw [g31_τ73]; exact i167_21) | fail)) (show τ_167.2.1 13 = σ.2.1 13 from by (first | exact i47_15 | exact i135_21 | exact i167_22 | (rw [g13_τ36]; exact i47_15) | (rw [g13_τ39]; exact i47_15) | (rw [g13_τ60]; exact i47_15) | (rw [g13_τ70]; exact i47_15) | (rw [g13_τ73]; exact i47_15) | (rw [g13_τ36]; exact i135_21) | (rw [g13_τ39]; exact i135_21) | (rw [g13_τ60]; exact i135_21) | (rw [g13_τ70]; exact i135_21) | (rw [g13_τ73]; exact i135_21) | (rw [g13_τ36]; exact i167_22) | (rw [g13_τ39]; exact i167_22) | (rw [g13_τ60]; exact i167_22) | (rw [g13_τ70]; exact i167_22) | (rw [g13_τ73]; exact i167_22) | fail)) (show τ_167.2.1 10 = σ.2.1 10 from by (first | exact i47_16 | exact i135_22 | exact i167_23 | (rw [g10_τ36]; exact i47_16) | (rw [g10_τ39]; exact i47_16) | (rw [g10_τ60]; exact i47_16) | (rw [g10_τ70]; exact i47_16) | (rw [g10_τ73]; exact i47_16) | (rw [g10_τ36]; exact i135_22) | (rw [g10_τ39]; exact i135_22) | (rw [g10_τ60]; exact i135_22) | (rw [g10_τ70]; exact i135_22) | (rw [g10_τ73]; exact i135_22) | (rw [g10_τ36]; exact i167_23) | (rw [g10_τ39]; exact i167_23) | (rw [g10_τ60]; exact i167_23) | (rw [g10_τ70]; exact i167_23) | (rw [g10_τ73]; exact i167_23) | fail)) (show n_rl σ τ_167 from by (first | exact i47_17 | exact n_rl_r i47_17 hf_τ36 rfl rfl | exact n_rl_r i47_17 hf_τ39 rfl rfl | exact n_rl_r i47_17 hf_τ60 rfl rfl | exact n_rl_r i47_17 hf_τ70 rfl rfl | exact n_rl_r i47_17 hf_τ73 rfl rfl | exact i135_23 | exact n_rl_r i135_23 hf_τ36 rfl rfl | exact n_rl_r i135_23 hf_τ39 rfl rfl | exact n_rl_r i135_23 hf_τ60 rfl rfl | exact n_rl_r i135_23 hf_τ70 rfl rfl | exact n_rl_r i135_23 hf_τ73 rfl rfl | exact i167_24 | exact n_rl_r i167_24 hf_τ36 rfl rfl | exact n_rl_r i167_24 hf_τ39 rfl rfl | exact n_rl_r i167_24 hf_τ60 rfl rfl | exact n_rl_r i167_24 hf_τ70 rfl rfl | exact n_rl_r i167_24 hf_τ73 rfl rfl | fail)) (show (τ_167.1 20) = 0 → n_N (τ_167.2.1 14 (τ_167.1 22)) (τ_167.2.1 14 (τ_167.1 22) + τ_167.2.1 15 (τ_167.1 22)) (σ.1 3) (σ.2.1 8) (σ.2.1 11) (τ_167.2.1 12) (τ_167.2.1 16) (τ_167.2.1 17) from by (intro z; first | (exfalso; omega) | exact i47_18 (by omega) | (rw [g14_τ36, g15_τ36, g12_τ36, g16_τ36, g17_τ36, w22_τ36]; exact i47_18 (by omega)) | (rw [g14_τ39, g15_τ39, g12_τ39, g16_τ39, g17_τ39, w22_τ39]; exact i47_18 (by omega)) | (rw [g14_τ60, g15_τ60, g12_τ60, g16_τ60, g17_τ60, w22_τ60]; exact i47_18 (by omega)) | (rw [g14_τ70, g15_τ70, g12_τ70, g16_τ70, g17_τ70, w22_τ70]; exact i47_18 (by omega)) | (rw [g14_τ73, g15_τ73, g12_τ73, g16_τ73, g17_τ73, w22_τ73]; exact i47_18 (by omega)) | exact i135_24 (by omega) | (rw [g14_τ36, g15_τ36, g12_τ36, g16_τ36, g17_τ36, w22_τ36]; exact i135_24 (by omega)) | (rw [g14_τ39, g15_τ39, g12_τ39, g16_τ39, g17_τ39, w22_τ39]; exact i135_24 (by omega)) | (rw [g14_τ60, g15_τ60, g12_τ60, g16_τ60, g17_τ60, w22_τ60]; exact i135_24 (by omega)) | (rw [g14_τ70, g15_τ70, g12_τ70, g16_τ70, g17_τ70, w22_τ70]; exact i135_24 (by omega)) | (rw [g14_τ73, g15_τ73, g12_τ73, g16_τ73, g17_τ73, w22_τ73]; exact i135_24 (by omega)) | exact i167_25 (by omega) | (rw [g14_τ36, g15_τ36, g12_τ36, g16_τ36, g17_τ36, w22_τ36]; exact i167_25 (by omega)) | (rw [g14_τ39, g15_τ39, g12_τ39, g16_τ39, g17_τ39, w22_τ39]; exact i167_25 (by omega)) | (rw [g14_τ60, g15_τ60, g12_τ60, g16_τ60, g17_τ60, w22_τ60]; exact i167_25 (by omega)) | (rw [g14_τ70, g15_τ70, g12_τ70, g16_τ70, g17_τ70, w22_τ70]; exact i167_25 (by omega)) | (rw [g14_τ73, g15_τ73, g12_τ73, g16_τ73, g17_τ73, w22_τ73]; exact i167_25 (by omega)))) (show (τ_167.1 20) = 0 → u1_167 < (σ.1 3) ∧ ¬ σ.2.1 8 u1_167 = 0 ∧ σ.2.1 11 u1_167 = -1 ∧ (σ.2.1 10 u1_167 = -1 ∨ σ.2.1 10 u1_167 = u2_167) from by (intro z; first | (exfalso; omega) | exact ⟨i167_26, by rw [← G8, ← e_x62]; assumption, i167_27.resolve_left (by rw [← G8, ← e_x62]; assumption), by first | exact Or.inl (by rw [← i167_23, ← e_x64]; assumption) | exact Or.inr (by rw [← i167_23, ← e_x66]; assumption)⟩)) (show u2_167 = τ_167.2.1 16 (τ_167.2.1 14 (τ_167.1 22)) from by (first | exact i167_28 | (rw [g16_τ60, g14_τ60, w22_τ60]; exact i135_27) | (rw [g16_τ70, g14_τ70, w22_τ70]; exact i167_28) | (rw [g16_τ73, g14_τ73, w22_τ73]; exact i167_28) | (rw [g16_τ36, g14_τ36, w22_τ36, e_x24, e_x22]) | (rw [g16_τ39, g14_τ39, w22_τ39, e_x24, e_x22]) | fail))
      ·
        intro x66 r_x66 e_x66
        have b_x66 : (-1) ≤ x66 ∧ x66 ≤ 999 := by rw [e_x66]; exact hT.2 10 _
        refine ⟨fun c67 => ?_, fun c67 => ?_⟩
        ·
          exact l_211 _ _ _ hT ag (show τ_167.1 0 = σ.1 0 from by first | exact W0 | omega) (show τ_167.1 3 = σ.1 3 from by first | exact W3 | omega) (show τ_167.1 7 = σ.1 7 from by first | exact W7 | omega) (show τ_167.1 8 = σ.1 8 from by first | exact W8 | omega) (show τ_167.1 9 = σ.1 9 from by first | exact W9 | omega) (show τ_167.1 10 = σ.1 10 from by first | exact W10 | omega) (show τ_167.1 11 = σ.1 11 from by first | exact W11 | omega) (show τ_167.1 15 = σ.1 15 from by first | exact W15 | omega) (show τ_167.1 22 = σ.1 22 from by first | exact W22 | omega) G6 G7 G8 G9 G14 G35 (show (τ_167.1 16) ≤ (τ_167.1 0) from by (first | omega | (simp only [st_s] <;> omega) | assumption | omega | fail)) (show (τ_167.1 17) + (τ_167.1 18) ≤ (τ_167.1 0) from by (first | omega | (simp only [st_s] <;> omega) | assumption | omega | fail)) (show oc (τ_167.2.1 6) < 4096 from by (first | omega | (simp only [st_s] <;> omega) | assumption | omega | fail)) (show oc (τ_167.2.1 7) < 4096 from by (first | omega | (simp only [st_s] <;> omega) | assumption | omega | fail)) (show ¬ (σ.1 20) = 0 → (τ_167.1 20) = (σ.1 20) from by (first | omega | (simp only [st_s] <;> omega) | assumption | omega | fail)) (show τ_167.2.1 14 (τ_167.1 22) + τ_167.2.1 15 (τ_167.1 22) = (τ_167.1 6) from Z1) (show ca (τ_167.2.1 12) ((τ_167.1 3)) ≤ (τ_167.1 4) from Y20) (show (τ_167.1 5) = (σ.1 5) from by (first | omega | (simp only [st_s] <;> omega) | assumption | omega | fail)) (show (τ_167.1 13) = (σ.1 13) from by (first | omega | (simp only [st_s] <;> omega) | assumption | omega | fail)) (show τ_167.2.1 15 (τ_167.1 22) ≤ 2 from by (first | omega | (simp only [st_s] <;> omega) | assumption | omega | fail)) (show (σ.1 16) ≤ (τ_167.1 16) from by (first | omega | (simp only [st_s] <;> omega) | assumption | omega | fail)) (show -1 ≤ u1_167 from by (first | omega | (simp only [st_s] <;> omega) | assumption | omega | fail)) (show u1_167 ≤ 999 from by (first | omega | (simp only [st_s] <;> omega) | assumption | omega | fail)) (show 0 ≤ u2_167 from by (first | omega | (simp only [st_s] <;> omega) | assumption | omega | fail)) (show u2_167 ≤ 999 from by (first | omega | (simp only [st_s] <;> omega) | assumption | omega | fail)) (show (τ_167.1 20) = 0 → 0 ≤ u1_167 ∧ τ_167.2.1 15 (τ_167.1 22) = 1 ∧ (τ_167.1 6) < 30000 from by (first | omega | (simp only [st_s] <;> omega) | assumption | omega | fail)) (show τ_167.2.1 11 = σ.2.1 11 from by (first | exact i47_13 | exact i135_19 | exact i167_20 | (rw [g11_τ36]; exact i47_13) | (rw [g11_τ39]; exact i47_13) | (rw [g11_τ60]; exact i47_13) | (rw [g11_τ70]; exact i47_13) | (rw [g11_τ73]; exact i47_13) | (rw [g11_τ36]; exact i135_19) | (rw [g11_τ39]; exact i135_19) | (rw [g11_τ60]; exact i135_19) | (rw [g11_τ70]; exact i135_19) | (rw [g11_τ73]; exact i135_19) | (rw [g11_τ36]; exact i167_20) | (rw [g11_τ39]; exact i167_20) | (rw [g11_τ60]; exact i167_20) | (rw [g11_τ70]; exact i167_20) | (rw [g11_τ73]; exact i167_20) | fail)) (show τ_167.2.1 31 = σ.2.1 31 from by (first | exact i47_14 | exact i135_20 | exact i167_21 | (rw [g31_τ36]; exact i47_14) | (rw [g31_τ39]; exact i47_14) | (rw [g31_τ60]; exact i47_14) | (rw [g31_τ70]; exact i47_14) | (rw [g31_τ73]; exact i47_14) | (rw [g31_τ36]; exact i135_20) | (rw [g31_τ39]; exact i135_20) | (rw [g31_τ60]; exact i135_20) | (rw [g31_τ70]; exact i135_20) | (rw [g31_τ73]; exact i135_20) | (rw [g31_τ36]; exact i167_21) | (rw [g31_τ39]; exact i167_21) | (rw [g31_τ60]; exact i167_21) | (rw [g31_τ70]; exact i167_21) | (rw [g31_τ73]; exact i167_21) | fail)) (show τ_167.2.1 13 = σ.2.1 13 from by (first | exact i47_15 | exact i135_21 | exact i167_22 | (rw [g13_τ36]; exact i47_15) | (rw [g13_τ39]; exact i47_15) | (rw [g13_τ60]; exact i47_15) | (rw [g13_τ70]; exact i47_15) | (rw [g13_τ73]; exact i47_15) | (rw [g13_τ36]; exact i135_21) | (rw [g13_τ39]; exact i135_21) | (rw [g13_τ60]; exact i135_21) | (rw [g13_τ70]; exact i135_21) | (rw [g13_τ73]; exact i135_21) | (rw [g13_τ36]; exact i167_22) | (rw [g13_τ39]; exact i167_22) | (rw [g13_τ60]; exact i167_22) | (rw [g13_τ70]; exact i167_22) | (rw [g13_τ73]; exact i167_22) | fail)) (show τ_167.2.1 10 = σ.2.1 10 from by (first | exact i47_16 | exact i135_22 | exact i167_23 | (rw [g10_τ36]; exact i47_16) | (rw [g10_τ39]; exact i47_16) | (rw [g10_τ60]; exact i47_16) | (rw [g10_τ70]; exact i47_16) | (rw [g10_τ73]; exact i47_16) | (rw [g10_τ36]; exact i135_22) | (rw [g10_τ39]; exact i135_22) | (rw [g10_τ60]; exact i135_22) | (rw [g10_τ70]; exact i135_22) | (rw [g10_τ73]; exact i135_22) | (rw [g10_τ36]; exact i167_23) | (rw [g10_τ39]; exact i167_23) | (rw [g10_τ60]; exact i167_23) | (rw [g10_τ70]; exact i167_23) | (rw [g10_τ73]; exact i167_23) | fail)) (show n_rl σ τ_167 from by (first | exact i47_17 | exact n_rl_r i47_17 hf_τ36 rfl rfl | exact n_rl_r i47_17 hf_τ39 rfl rfl | exact n_rl_r i47_17 hf_τ60 rfl rfl | exact n_rl_r i47_17 hf_τ70 rfl rfl | exact n_rl_r i47_17 hf_τ73 rfl rfl | exact i135_23 | exact n_rl_r i135_23 hf_τ36 rfl rfl | exact n_rl_r i135_23 hf_τ39 rfl rfl | exact n_rl_r i135_23 hf_τ60 rfl rfl | exact n_rl_r i135_23 hf_τ70 rfl rfl | exact n_rl_r i135_23 hf_τ73 rfl rfl | exact i167_24 | exact n_rl_r i167_24 hf_τ36 rfl rfl | exact n_rl_r i167_24 hf_τ39 rfl rfl | exact n_rl_r i167_24 hf_τ60 rfl rfl | exact n_rl_r i167_24 hf_τ70 rfl rfl | exact n_rl_r i167_24 hf_τ73 rfl rfl | fail)) (show (τ_167.1 20) = 0 → n_N (τ_167.2.1 14 (τ_167.1 22)) (τ_167.2.1 14 (τ_167.1 22) + τ_167.2.1 15 (τ_167.1 22)) (σ.1 3) (σ.2.1 8) (σ.2.1 11) (τ_167.2.1 12) (τ_167.2.1 16) (τ_167.2.1 17) from by (intro z; first | (exfalso; omega) | exact i47_18 (by omega) | (rw [g14_τ36, g15_τ36, g12_τ36, g16_τ36, g17_τ36, w22_τ36]; exact i47_18 (by omega)) | (rw [g14_τ39, g15_τ39, g12_τ39, g16_τ39, g17_τ39, w22_τ39]; exact i47_18 (by omega)) | (rw [g14_τ60, g15_τ60, g12_τ60, g16_τ60, g17_τ60, w22_τ60]; exact i47_18 (by omega)) | (rw [g14_τ70, g15_τ70, g12_τ70, g16_τ70, g17_τ70, w22_τ70]; exact i47_18 (by omega)) | (rw [g14_τ73, g15_τ73, g12_τ73, g16_τ73, g17_τ73, w22_τ73]; exact i47_18 (by omega)) | exact i135_24 (by omega) | (rw [g14_τ36, g15_τ36, g12_τ36, g16_τ36, g17_τ36, w22_τ36]; exact i135_24 (by omega)) | (rw [g14_τ39, g15_τ39, g12_τ39, g16_τ39, g17_τ39, w22_τ39]; exact i135_24 (by omega)) | (rw [g14_τ60, g15_τ60, g12_τ60, g16_τ60, g17_τ60, w22_τ60]; exact i135_24 (by omega)) | (rw [g14_τ70, g15_τ70, g12_τ70, g16_τ70, g17_τ70, w22_τ70]; exact i135_24 (by omega)) | (rw [g14_τ73, g15_τ73, g12_τ73, g16_τ73, g17_τ73, w22_τ73]; exact i135_24 (by omega)) | exact i167_25 (by omega) | (rw [g14_τ36, g15_τ36, g12_τ36, g16_τ36, g17_τ36, w22_τ36]; exact i167_25 (by omega)) | (rw [g14_τ39, g15_τ39, g12_τ39, g16_τ39, g17_τ39, w22_τ39]; exact i167_25 (by omega)) | (rw [g14_τ60, g15_τ60, g12_τ60, g16_τ60, g17_τ60, w22_τ60]; exact i167_25 (by omega)) | (rw [g14_τ70, g15_τ70, g12_τ70, g16_τ70, g17_τ70, w22_τ70]; exact i167_25 (by omega)) | (rw [g14_τ73, g15_τ73, g12_τ73, g16_τ73, g17_τ73, w22_τ73]; exact i167_25 (by omega)))) (show (τ_167.1 20) = 0 → u1_167 < (σ.1 3) ∧ ¬ σ.2.1 8 u1_167 = 0 ∧ σ.2.1 11 u1_167 = -1 ∧ (σ.2.1 10 u1_167 = -1 ∨ σ.2.1 10 u1_167 = u2_167) from by (intro z; first | (exfalso; omega) | exact ⟨i167_26, by rw [← G8, ← e_x62]; assumption, i167_27.resolve_left (by rw [← G8, ← e_x62]; assumption), by first | exact Or.inl (by rw [← i167_23, ← e_x64]; assumption) | exact Or.inr (by rw [← i167_23, ← e_x66]; assumption)⟩)) (show u2_167 = τ_167.2.1 16 (τ_167.2.1 14 (τ_167.1 22)) from by (first | exact i167_28 | (rw [g16_τ60, g14_τ60, w22_τ60]; exact i135_27) | (rw [g16_τ70, g14_τ70, w22_τ70]; exact i167_28) | (rw [g16_τ73, g14_τ73, w22_τ73]; exact i167_28) | (rw [g16_τ36, g14_τ36, w22_τ36, e_x24, e_x22]) | (rw [g16_τ39, g14_τ39, w22_τ39, e_x24, e_x22]) | fail))
        ·
          refine ⟨_, K_X13_failHere hT (show 0 ≤ (12 : Int) from by (first | omega | (simp only [st_s] <;> omega) | assumption | omega | fail)) (show (12 : Int) ≤ 19 from by (first | omega | (simp only [st_s] <;> omega) | assumption | omega | fail)), ?_⟩
          intro τ70 hn_τ70 hf_τ70 hq
          obtain ⟨hT, q68_1, q68_2⟩ := hq
          replace q68_1 : ¬ (τ_167.1 20) = 0 → (τ70.1 20) = (τ_167.1 20) := q68_1
          replace q68_2 : (τ_167.1 20) = 0 → (τ70.1 20) = (12 : Int) := q68_2
          replace ag : m_ag σ τ70 := ag_r ag hf_τ70 rfl rfl
          have w0_τ70 : τ70.1 0 = τ_167.1 0 := hf_τ70.1 0 (by decide)
          have w3_τ70 : τ70.1 3 = τ_167.1 3 := hf_τ70.1 3 (by decide)
          have w4_τ70 : τ70.1 4 = τ_167.1 4 := hf_τ70.1 4 (by decide)
          have w5_τ70 : τ70.1 5 = τ_167.1 5 := hf_τ70.1 5 (by decide)
          have w6_τ70 : τ70.1 6 = τ_167.1 6 := hf_τ70.1 6 (by decide)
          have w7_τ70 : τ70.1 7 = τ_167.1 7 := hf_τ70.1 7 (by decide)
          have w8_τ70 : τ70.1 8 = τ_167.1 8 := hf_τ70.1 8 (by decide)
          have w9_τ70 : τ70.1 9 = τ_167.1 9 := hf_τ70.1 9 (by decide)
          have w10_τ70 : τ70.1 10 = τ_167.1 10 := hf_τ70.1 10 (by decide)
          have w11_τ70 : τ70.1 11 = τ_167.1 11 := hf_τ70.1 11 (by decide)
          have w13_τ70 : τ70.1 13 = τ_167.1 13 := hf_τ70.1 13 (by decide)
          have w15_τ70 : τ70.1 15 = τ_167.1 15 := hf_τ70.1 15 (by decide)
          have w16_τ70 : τ70.1 16 = τ_167.1 16 := hf_τ70.1 16 (by decide)
          have w17_τ70 : τ70.1 17 = τ_167.1 17 := hf_τ70.1 17 (by decide)
          have w18_τ70 : τ70.1 18 = τ_167.1 18 := hf_τ70.1 18 (by decide)
          have w19_τ70 : τ70.1 19 = τ_167.1 19 := hf_τ70.1 19 (by decide)
          have w22_τ70 : τ70.1 22 = τ_167.1 22 := hf_τ70.1 22 (by decide)
          have g6_τ70 : τ70.2.1 6 = τ_167.2.1 6 := hf_τ70.2.1 6 (by decide)
          have g7_τ70 : τ70.2.1 7 = τ_167.2.1 7 := hf_τ70.2.1 7 (by decide)
          have g8_τ70 : τ70.2.1 8 = τ_167.2.1 8 := hf_τ70.2.1 8 (by decide)
          have g9_τ70 : τ70.2.1 9 = τ_167.2.1 9 := hf_τ70.2.1 9 (by decide)
          have g10_τ70 : τ70.2.1 10 = τ_167.2.1 10 := hf_τ70.2.1 10 (by decide)
          have g11_τ70 : τ70.2.1 11 = τ_167.2.1 11 := hf_τ70.2.1 11 (by decide)
          have g12_τ70 : τ70.2.1 12 = τ_167.2.1 12 := hf_τ70.2.1 12 (by decide)
          have g13_τ70 : τ70.2.1 13 = τ_167.2.1 13 := hf_τ70.2.1 13 (by decide)
          have g14_τ70 : τ70.2.1 14 = τ_167.2.1 14 := hf_τ70.2.1 14 (by decide)
          have g15_τ70 : τ70.2.1 15 = τ_167.2.1 15 := hf_τ70.2.1 15 (by decide)
          have g16_τ70 : τ70.2.1 16 = τ_167.2.1 16 := hf_τ70.2.1 16 (by decide)
          have g17_τ70 : τ70.2.1 17 = τ_167.2.1 17 := hf_τ70.2.1 17 (by decide)
          have g31_τ70 : τ70.2.1 31 = τ_167.2.1 31 := hf_τ70.2.1 31 (by decide)
          have g35_τ70 : τ70.2.1 35 = τ_167.2.1 35 := hf_τ70.2.1 35 (by decide)
          first | (have ca_τ70 := congr (congrArg ca g9_τ70) w3_τ70) | skip
          first | (have o6_τ70 := congrArg oc g6_τ70) | skip
          first | (have o7_τ70 := congrArg oc g7_τ70) | skip
          have W0 : τ70.1 0 = σ.1 0 := by first | exact w0_τ70.trans W0 | omega
          have W3 : τ70.1 3 = σ.1 3 := by first | exact w3_τ70.trans W3 | omega
          have W7 : τ70.1 7 = σ.1 7 := by first | exact w7_τ70.trans W7 | omega
          have W8 : τ70.1 8 = σ.1 8 := by first | exact w8_τ70.trans W8 | omega
          have W9 : τ70.1 9 = σ.1 9 := by first | exact w9_τ70.trans W9 | omega
          have W10 : τ70.1 10 = σ.1 10 := by first | exact w10_τ70.trans W10 | omega
          have W11 : τ70.1 11 = σ.1 11 := by first | exact w11_τ70.trans W11 | omega
          have W15 : τ70.1 15 = σ.1 15 := by first | exact w15_τ70.trans W15 | omega
          have W22 : τ70.1 22 = σ.1 22 := by first | exact w22_τ70.trans W22 | omega
          have G6 : τ70.2.1 6 = σ.2.1 6 := (g6_τ70).trans G6
          have G7 : τ70.2.1 7 = σ.2.1 7 := (g7_τ70).trans G7
          have G8 : τ70.2.1 8 = σ.2.1 8 := (g8_τ70).trans G8
          have G9 : τ70.2.1 9 = σ.2.1 9 := (g9_τ70).trans G9
          have G14 : τ70.2.1 14 = σ.2.1 14 := (g14_τ70).trans G14
          have G35 : τ70.2.1 35 = σ.2.1 35 := (g35_τ70).trans G35
          have y14_22_τ70 : τ70.2.1 14 (τ70.1 22) = (τ_167.2.1 14) (τ_167.1 22) := by rw [g14_τ70, w22_τ70]
          have y15_22_τ70 : τ70.2.1 15 (τ70.1 22) = (τ_167.2.1 15) (τ_167.1 22) := by rw [g15_τ70, w22_τ70]
          have Z1 : τ70.2.1 14 (τ70.1 22) + τ70.2.1 15 (τ70.1 22) = (τ70.1 6) := by rw [show (τ70.2.1 14 (τ70.1 22) + τ70.2.1 15 (τ70.1 22) = (τ70.1 6)) = (τ_167.2.1 14 (τ_167.1 22) + τ_167.2.1 15 (τ_167.1 22) = (τ_167.1 6)) from by rw [w6_τ70, w22_τ70, g14_τ70, g15_τ70]]; exact Z1
          have Y20 : ca (τ70.2.1 12) ((τ70.1 3)) ≤ (τ70.1 4) := by rw [show (ca (τ70.2.1 12) ((τ70.1 3)) ≤ (τ70.1 4)) = (ca (τ_167.2.1 12) ((τ_167.1 3)) ≤ (τ_167.1 4)) from by rw [w3_τ70, w4_τ70, g12_τ70]]; exact Y20
          have Y1 : j_l2 (τ70.2.1 6) (τ70.1 3) := by rw [show (j_l2 (τ70.2.1 6) (τ70.1 3)) = (j_l2 (τ_167.2.1 6) (τ_167.1 3)) from by rw [w3_τ70, g6_τ70]]; exact Y1
          have STt : j_l2 (τ70.2.1 6) (τ70.1 3) := by rw [show (j_l2 (τ70.2.1 6) (τ70.1 3)) = (j_l2 (τ_167.2.1 6) (τ_167.1 3)) from by rw [w3_τ70, g6_τ70]]; exact STt
          have A6 : ∀ j, (-1) ≤ τ70.2.1 6 j ∧ τ70.2.1 6 j ≤ 999 := fun j => hT.2 6 j
          have A7 : ∀ j, (-1) ≤ τ70.2.1 7 j ∧ τ70.2.1 7 j ≤ 1499 := fun j => hT.2 7 j
          have A8 : ∀ j, 0 ≤ τ70.2.1 8 j ∧ τ70.2.1 8 j ≤ 1 := fun j => hT.2 8 j
          have A9 : ∀ j, 0 ≤ τ70.2.1 9 j ∧ τ70.2.1 9 j ≤ 1 := fun j => hT.2 9 j
          have A10 : ∀ j, (-1) ≤ τ70.2.1 10 j ∧ τ70.2.1 10 j ≤ 999 := fun j => hT.2 10 j
          have A11 : ∀ j, (-1) ≤ τ70.2.1 11 j ∧ τ70.2.1 11 j ≤ 1499 := fun j => hT.2 11 j
          have A12 : ∀ j, 0 ≤ τ70.2.1 12 j ∧ τ70.2.1 12 j ≤ 1 := fun j => hT.2 12 j
          have A13 : ∀ j, 0 ≤ τ70.2.1 13 j ∧ τ70.2.1 13 j ≤ 4 := fun j => hT.2 13 j
          have A14 : ∀ j, 0 ≤ τ70.2.1 14 j ∧ τ70.2.1 14 j ≤ 30000 := fun j => hT.2 14 j
          have A15 : ∀ j, 0 ≤ τ70.2.1 15 j ∧ τ70.2.1 15 j ≤ 300 := fun j => hT.2 15 j
          have A16 : ∀ j, 0 ≤ τ70.2.1 16 j ∧ τ70.2.1 16 j ≤ 999 := fun j => hT.2 16 j
          have A17 : ∀ j, (-1) ≤ τ70.2.1 17 j ∧ τ70.2.1 17 j ≤ 1499 := fun j => hT.2 17 j
          have A31 : ∀ j, 0 ≤ τ70.2.1 31 j ∧ τ70.2.1 31 j ≤ 1499 := fun j => hT.2 31 j
          have A35 : ∀ j, 0 ≤ τ70.2.1 35 j ∧ τ70.2.1 35 j ≤ 1500 := fun j => hT.2 35 j
          have v0 : 0 ≤ τ70.1 0 ∧ τ70.1 0 ≤ 60000 := hT.1 0
          have v3 : 0 ≤ τ70.1 3 ∧ τ70.1 3 ≤ 1000 := hT.1 3
          have v4 : 0 ≤ τ70.1 4 ∧ τ70.1 4 ≤ 100 := hT.1 4
          have v5 : 0 ≤ τ70.1 5 ∧ τ70.1 5 ≤ 1500 := hT.1 5
          have v6 : 0 ≤ τ70.1 6 ∧ τ70.1 6 ≤ 30000 := hT.1 6
          have v7 : 0 ≤ τ70.1 7 ∧ τ70.1 7 ≤ 90000 := hT.1 7
          have v8 : 0 ≤ τ70.1 8 ∧ τ70.1 8 ≤ 20000 := hT.1 8
          have v9 : 0 ≤ τ70.1 9 ∧ τ70.1 9 ≤ 20000 := hT.1 9
          have v10 : (-1) ≤ τ70.1 10 ∧ τ70.1 10 ≤ 999 := hT.1 10
          have v11 : (-1) ≤ τ70.1 11 ∧ τ70.1 11 ≤ 999 := hT.1 11
          have v13 : 0 ≤ τ70.1 13 ∧ τ70.1 13 ≤ 1500 := hT.1 13
          have v15 : 0 ≤ τ70.1 15 ∧ τ70.1 15 ≤ 50 := hT.1 15
          have v16 : 0 ≤ τ70.1 16 ∧ τ70.1 16 ≤ 60000 := hT.1 16
          have v17 : 0 ≤ τ70.1 17 ∧ τ70.1 17 ≤ 60000 := hT.1 17
          have v18 : 0 ≤ τ70.1 18 ∧ τ70.1 18 ≤ 60000 := hT.1 18
          have v19 : (-1) ≤ τ70.1 19 ∧ τ70.1 19 ≤ 125 := hT.1 19
          have v20 : 0 ≤ τ70.1 20 ∧ τ70.1 20 ≤ 19 := hT.1 20
          have v22 : 0 ≤ τ70.1 22 ∧ τ70.1 22 ≤ 1499 := hT.1 22
          have a14_22 : 0 ≤ τ70.2.1 14 (τ70.1 22) ∧ τ70.2.1 14 (τ70.1 22) ≤ 30000 := hT.2 14 _
          have a15_22 : 0 ≤ τ70.2.1 15 (τ70.1 22) ∧ τ70.2.1 15 (τ70.1 22) ≤ 300 := hT.2 15 _
          have av5 : σ.1 5 ≤ τ70.1 5 := ag.1 5 (by decide)
          have av6 : σ.1 6 ≤ τ70.1 6 := ag.1 6 (by decide)
          exact l_211 _ _ _ hT ag (show τ70.1 0 = σ.1 0 from by first | exact W0 | omega) (show τ70.1 3 = σ.1 3 from by first | exact W3 | omega) (show τ70.1 7 = σ.1 7 from by first | exact W7 | omega) (show τ70.1 8 = σ.1 8 from by first | exact W8 | omega) (show τ70.1 9 = σ.1 9 from by first | exact W9 | omega) (show τ70.1 10 = σ.1 10 from by first | exact W10 | omega) (show τ70.1 11 = σ.1 11 from by first | exact W11 | omega) (show τ70.1 15 = σ.1 15 from by first | exact W15 | omega) (show τ70.1 22 = σ.1 22 from by first | exact W22 | omega) G6 G7 G8 G9 G14 G35 (show (τ70.1 16) ≤ (τ70.1 0) from by (first | omega | (simp only [st_s] <;> omega) | assumption | omega | fail)) (show (τ70.1 17) + (τ70.1 18) ≤ (τ70.1 0) from by (first | omega | (simp only [st_s] <;> omega) | assumption | omega | fail)) (show oc (τ70.2.1 6) < 4096 from by (first | omega | (simp only [st_s] <;> omega) | assumption | omega | fail)) (show oc (τ70.2.1 7) < 4096 from by (first | omega | (simp only [st_s] <;> omega) | assumption | omega | fail)) (show ¬ (σ.1 20) = 0 → (τ70.1 20) = (σ.1 20) from by (first | omega | (simp only [st_s] <;> omega) | assumption | omega | fail)) (show τ70.2.1 14 (τ70.1 22) + τ70.2.1 15 (τ70.1 22) = (τ70.1 6) from Z1) (show ca (τ70.2.1 12) ((τ70.1 3)) ≤ (τ70.1 4) from Y20) (show (τ70.1 5) = (σ.1 5) from by (first | omega | (simp only [st_s] <;> omega) | assumption | omega | fail)) (show (τ70.1 13) = (σ.1 13) from by (first | omega | (simp only [st_s] <;> omega) | assumption | omega | fail)) (show τ70.2.1 15 (τ70.1 22) ≤ 2 from by (first | omega | (simp only [st_s] <;> omega) | assumption | omega | fail)) (show (σ.1 16) ≤ (τ70.1 16) from by (first | omega | (simp only [st_s] <;> omega) | assumption | omega | fail)) (show -1 ≤ u1_167 from by (first | omega | (simp only [st_s] <;> omega) | assumption | omega | fail)) (show u1_167 ≤ 999 from by (first | omega | (simp only [st_s] <;> omega) | assumption | omega | fail)) (show 0 ≤ u2_167 from by (first | omega | (simp only [st_s] <;> omega) | assumption | omega | fail)) (show u2_167 ≤ 999 from by (first | omega | (simp only [st_s] <;> omega) | assumption | omega | fail)) (show (τ70.1 20) = 0 → 0 ≤ u1_167 ∧ τ70.2.1 15 (τ70.1 22) = 1 ∧ (τ70.1 6) < 30000 from by (first | omega | (simp only [st_s] <;> omega) | assumption | omega | fail)) (show τ70.2.1 11 = σ.2.1 11 from by (first | exact i47_13 | exact i135_19 | exact i167_20 | (rw [g11_τ36]; exact i47_13) | (rw [g11_τ39]; exact i47_13) | (rw [g11_τ60]; exact i47_13) | (rw [g11_τ70]; exact i47_13) | (rw [g11_τ73]; exact i47_13) | (rw [g11_τ36]; exact i135_19) | (rw [g11_τ39]; exact i135_19) | (rw [g11_τ60]; exact i135_19) | (rw [g11_τ70]; exact i135_19) | (rw [g11_τ73]; exact i135_19) | (rw [g11_τ36]; exact i167_20) | (rw [g11_τ39]; exact i167_20) | (rw [g11_τ60]; exact i167_20) | (rw [g11_τ70]; exact i167_20) | (rw [g11_τ73]; exact i167_20) | fail)) (show τ70.2.1 31 = σ.2.1 31 from by (first | exact i47_14 | exact i135_20 | exact i167_21 | (rw [g31_τ36]; exact i47_14) | (rw [g31_τ39]; exact i47_14) | (rw [g31_τ60]; exact i47_14) | (rw [g31_τ70]; exact i47_14) | (rw [g31_τ73]; exact i47_14) | (rw [g31_τ36]; exact i135_20) | (rw [g31_τ39]; exact i135_20) | (rw [g31_τ60]; exact i135_20) | (rw [g31_τ70]; exact i135_20) | (rw [g31_τ73]; exact i135_20) | (rw [g31_τ36]; exact i167_21) | (rw [g31_τ39]; exact i167_21) | (rw [g31_τ60]; exact i167_21) | (rw [g31_τ70]; exact i167_21) | (rw [g31_τ73]; exact i167_21) | fail)) (show τ70.2.1 13 = σ.2.1 13 from by (first | exact i47_15 | exact i135_21 | exact i167_22 | (rw [g13_τ36]; exact i47_15) | (rw [g13_τ39]; exact i47_15) | (rw [g13_τ60]; exact i47_15) | (rw [g13_τ70]; exact i47_15) | (rw [g13_τ73]; exact i47_15) | (rw [g13_τ36]; exact i135_21) | (rw [g13_τ39]; exact i135_21) | (rw [g13_τ60]; exact i135_21) | (rw [g13_τ70]; exact i135_21) | (rw [g13_τ73]; exact i135_21) | (rw [g13_τ36]; exact i167_22) | (rw [g13_τ39]; exact i167_22) | (rw [g13_τ60]; exact i167_22) | (rw [g13_τ70]; exact i167_22) | (rw [g13_τ73]; exact i167_22) | fail)) (show τ70.2.1 10 = σ.2.1 10 from by (first | exact i47_16 | exact i135_22 | exact i167_23 | (rw [g10_τ36]; exact i47_16) | (rw [g10_τ39]; exact i47_16) | (rw [g10_τ60]; exact i47_16) | (rw [g10_τ70]; exact i47_16) | (rw [g10_τ73]; exact i47_16) | (rw [g10_τ36]; exact i135_22) | (rw [g10_τ39]; exact i135_22) | (rw [g10_τ60]; exact i135_22) | (rw [g10_τ70]; exact i135_22) | (rw [g10_τ73]; exact i135_22) | (rw [g10_τ36]; exact i167_23) | (rw [g10_τ39]; exact i167_23) | (rw [g10_τ60]; exact i167_23) | (rw [g10_τ70]; exact i167_23) | (rw [g10_τ73]; exact i167_23) | fail)) (show n_rl σ τ70 from by (first | exact i47_17 | exact n_rl_r i47_17 hf_τ36 rfl rfl | exact n_rl_r i47_17 hf_τ39 rfl rfl | exact n_rl_r i47_17 hf_τ60 rfl rfl | exact n_rl_r i47_17 hf_τ70 rfl rfl | exact n_rl_r i47_17 hf_τ73 rfl rfl | exact i135_23 | exact n_rl_r i135_23 hf_τ36 rfl rfl | exact n_rl_r i135_23 hf_τ39 rfl rfl | exact n_rl_r i135_23 hf_τ60 rfl rfl | exact n_rl_r i135_23 hf_τ70 rfl rfl | exact n_rl_r i135_23 hf_τ73 rfl rfl | exact i167_24 | exact n_rl_r i167_24 hf_τ36 rfl rfl | exact n_rl_r i167_24 hf_τ39 rfl rfl | exact n_rl_r i167_24 hf_τ60 rfl rfl | exact n_rl_r i167_24 hf_τ70 rfl rfl | exact n_rl_r i167_24 hf_τ73 rfl rfl | fail)) (show (τ70.1 20) = 0 → n_N (τ70.2.1 14 (τ70.1 22)) (τ70.2.1 14 (τ70.1 22) + τ70.2.1 15 (τ70.1 22)) (σ.1 3) (σ.2.1 8) (σ.2.1 11) (τ70.2.1 12) (τ70.2.1 16) (τ70.2.1 17) from by (intro z; first | (exfalso; omega) | exact i47_18 (by omega) | (rw [g14_τ36, g15_τ36, g12_τ36, g16_τ36, g17_τ36, w22_τ36]; exact i47_18 (by omega)) | (rw [g14_τ39, g15_τ39, g12_τ39, g16_τ39, g17_τ39, w22_τ39]; exact i47_18 (by omega)) | (rw [g14_τ60, g15_τ60, g12_τ60, g16_τ60, g17_τ60, w22_τ60]; exact i47_18 (by omega)) | (rw [g14_τ70, g15_τ70, g12_τ70, g16_τ70, g17_τ70, w22_τ70]; exact i47_18 (by omega)) | (rw [g14_τ73, g15_τ73, g12_τ73, g16_τ73, g17_τ73, w22_τ73]; exact i47_18 (by omega)) | exact i135_24 (by omega) | (rw [g14_τ36, g15_τ36, g12_τ36, g16_τ36, g17_τ36, w22_τ36]; exact i135_24 (by omega)) | (rw [g14_τ39, g15_τ39, g12_τ39, g16_τ39, g17_τ39, w22_τ39]; exact i135_24 (by omega)) | (rw [g14_τ60, g15_τ60, g12_τ60, g16_τ60, g17_τ60, w22_τ60]; exact i135_24 (by omega)) | (rw [g14_τ70, g15_τ70, g12_τ70, g16_τ70, g17_τ70, w22_τ70]; exact i135_24 (by omega)) | (rw [g14_τ73, g15_τ73, g12_τ73, g16_τ73, g17_τ73, w22_τ73]; exact i135_24 (by omega)) | exact i167_25 (by omega) | (rw [g14_τ36, g15_τ36, g12_τ36, g16_τ36, g17_τ36, w22_τ36]; exact i167_25 (by omega)) | (rw [g14_τ39, g15_τ39, g12_τ39, g16_τ39, g17_τ39, w22_τ39]; exact i167_25 (by omega)) | (rw [g14_τ60, g15_τ60, g12_τ60, g16_τ60, g17_τ60, w22_τ60]; exact i167_25 (by omega)) | (rw [g14_τ70, g15_τ70, g12_τ70, g16_τ70, g17_τ70, w22_τ70]; exact i167_25 (by omega)) | (rw [g14_τ73, g15_τ73, g12_τ73, g16_τ73, g17_τ73, w22_τ73]; exact i167_25 (by omega)))) (show (τ70.1 20) = 0 → u1_167 < (σ.1 3) ∧ ¬ σ.2.1 8 u1_167 = 0 ∧ σ.2.1 11 u1_167 = -1 ∧ (σ.2.1 10 u1_167 = -1 ∨ σ.2.1 10 u1_167 = u2_167) from by (intro z; first | (exfalso; omega) | exact ⟨i167_26, by rw [← G8, ← e_x62]; assumption, i167_27.resolve_left (by rw [← G8, ← e_x62]; assumption), by first | exact Or.inl (by rw [← i167_23, ← e_x64]; assumption) | exact Or.inr (by rw [← i167_23, ← e_x66]; assumption)⟩)) (show u2_167 = τ70.2.1 16 (τ70.2.1 14 (τ70.1 22)) from by (first | exact i167_28 | (rw [g16_τ60, g14_τ60, w22_τ60]; exact i135_27) | (rw [g16_τ70, g14_τ70, w22_τ70]; exact i167_28) | (rw [g16_τ73, g14_τ73, w22_τ73]; exact i167_28) | (rw [g16_τ36, g14_τ36, w22_τ36, e_x24, e_x22]) | (rw [g16_τ39, g14_τ39, w22_τ39, e_x24, e_x22]) | fail))
    ·
      refine ⟨_, K_X13_failHere hT (show 0 ≤ (10 : Int) from by (first | omega | (simp only [st_s] <;> omega) | assumption | omega | fail)) (show (10 : Int) ≤ 19 from by (first | omega | (simp only [st_s] <;> omega) | assumption | omega | fail)), ?_⟩
      intro τ73 hn_τ73 hf_τ73 hq
      obtain ⟨hT, q71_1, q71_2⟩ := hq
      replace q71_1 : ¬ (τ_167.1 20) = 0 → (τ73.1 20) = (τ_167.1 20) := q71_1
      replace q71_2 : (τ_167.1 20) = 0 → (τ73.1 20) = (10 : Int) := q71_2
      replace ag : m_ag σ τ73 := ag_r ag hf_τ73 rfl rfl
      have w0_τ73 : τ73.1 0 = τ_167.1 0 := hf_τ73.1 0 (by decide)
      have w3_τ73 : τ73.1 3 = τ_167.1 3 := hf_τ73.1 3 (by decide)
      have w4_τ73 : τ73.1 4 = τ_167.1 4 := hf_τ73.1 4 (by decide)
      have w5_τ73 : τ73.1 5 = τ_167.1 5 := hf_τ73.1 5 (by decide)
      have w6_τ73 : τ73.1 6 = τ_167.1 6 := hf_τ73.1 6 (by decide)
      have w7_τ73 : τ73.1 7 = τ_167.1 7 := hf_τ73.1 7 (by decide)
      have w8_τ73 : τ73.1 8 = τ_167.1 8 := hf_τ73.1 8 (by decide)
      have w9_τ73 : τ73.1 9 = τ_167.1 9 := hf_τ73.1 9 (by decide)
      have w10_τ73 : τ73.1 10 = τ_167.1 10 := hf_τ73.1 10 (by decide)
      have w11_τ73 : τ73.1 11 = τ_167.1 11 := hf_τ73.1 11 (by decide)
      have w13_τ73 : τ73.1 13 = τ_167.1 13 := hf_τ73.1 13 (by decide)
      have w15_τ73 : τ73.1 15 = τ_167.1 15 := hf_τ73.1 15 (by decide)
      have w16_τ73 : τ73.1 16 = τ_167.1 16 := hf_τ73.1 16 (by decide)
      have w17_τ73 : τ73.1 17 = τ_167.1 17 := hf_τ73.1 17 (by decide)
      have w18_τ73 : τ73.1 18 = τ_167.1 18 := hf_τ73.1 18 (by decide)
      have w19_τ73 : τ73.1 19 = τ_167.1 19 := hf_τ73.1 19 (by decide)
      have w22_τ73 : τ73.1 22 = τ_167.1 22 := hf_τ73.1 22 (by decide)
      have g6_τ73 : τ73.2.1 6 = τ_167.2.1 6 := hf_τ73.2.1 6 (by decide)
      have g7_τ73 : τ73.2.1 7 = τ_167.2.1 7 := hf_τ73.2.1 7 (by decide)
      have g8_τ73 : τ73.2.1 8 = τ_167.2.1 8 := hf_τ73.2.1 8 (by decide)
      have g9_τ73 : τ73.2.1 9 = τ_167.2.1 9 := hf_τ73.2.1 9 (by decide)
      have g10_τ73 : τ73.2.1 10 = τ_167.2.1 10 := hf_τ73.2.1 10 (by decide)
      have g11_τ73 : τ73.2.1 11 = τ_167.2.1 11 := hf_τ73.2.1 11 (by decide)
      have g12_τ73 : τ73.2.1 12 = τ_167.2.1 12 := hf_τ73.2.1 12 (by decide)
      have g13_τ73 : τ73.2.1 13 = τ_167.2.1 13 := hf_τ73.2.1 13 (by decide)
      have g14_τ73 : τ73.2.1 14 = τ_167.2.1 14 := hf_τ73.2.1 14 (by decide)
      have g15_τ73 : τ73.2.1 15 = τ_167.2.1 15 := hf_τ73.2.1 15 (by decide)
      have g16_τ73 : τ73.2.1 16 = τ_167.2.1 16 := hf_τ73.2.1 16 (by decide)
      have g17_τ73 : τ73.2.1 17 = τ_167.2.1 17 := hf_τ73.2.1 17 (by decide)
      have g31_τ73 : τ73.2.1 31 = τ_167.2.1 31 := hf_τ73.2.1 31 (by decide)
      have g35_τ73 : τ73.2.1 35 = τ_167.2.1 35 := hf_τ73.2.1 35 (by decide)
      first | (have ca_τ73 := congr (congrArg ca g9_τ73) w3_τ73) | skip
      first | (have o6_τ73 := congrArg oc g6_τ73) | skip
      first | (have o7_τ73 := congrArg oc g7_τ73) | skip
      have W0 : τ73.1 0 = σ.1 0 := by first | exact w0_τ73.trans W0 | omega
      have W3 : τ73.1 3 = σ.1 3 := by first | exact w3_τ73.trans W3 | omega
      have W7 : τ73.1 7 = σ.1 7 := by first | exact w7_τ73.trans W7 | omega
      have W8 : τ73.1 8 = σ.1 8 := by first | exact w8_τ73.trans W8 | omega
      have W9 : τ73.1 9 = σ.1 9 := by first | exact w9_τ73.trans W9 | omega
      have W10 : τ73.1 10 = σ.1 10 := by first | exact w10_τ73.trans W10 | omega
      have W11 : τ73.1 11 = σ.1 11 := by first | exact w11_τ73.trans W11 | omega
      have W15 : τ73.1 15 = σ.1 15 := by first | exact w15_τ73.trans W15 | omega
      have W22 : τ73.1 22 = σ.1 22 := by first | exact w22_τ73.trans W22 | omega
      have G6 : τ73.2.1 6 = σ.2.1 6 := (g6_τ73).trans G6
      have G7 : τ73.2.1 7 = σ.2.1 7 := (g7_τ73).trans G7
      have G8 : τ73.2.1 8 = σ.2.1 8 := (g8_τ73).trans G8
      have G9 : τ73.2.1 9 = σ.2.1 9 := (g9_τ73).trans G9
      have G14 : τ73.2.1 14 = σ.2.1 14 := (g14_τ73).trans G14
      have G35 : τ73.2.1 35 = σ.2.1 35 := (g35_τ73).trans G35
      have y14_22_τ73 : τ73.2.1 14 (τ73.1 22) = (τ_167.2.1 14) (τ_167.1 22) := by rw [g14_τ73, w22_τ73]
      have y15_22_τ73 : τ73.2.1 15 (τ73.1 22) = (τ_167.2.1 15) (τ_167.1 22) := by rw [g15_τ73, w22_τ73]
      have Z1 : τ73.2.1 14 (τ73.1 22) + τ73.2.1 15 (τ73.1 22) = (τ73.1 6) := by rw [show (τ73.2.1 14 (τ73.1 22) + τ73.2.1 15 (τ73.1 22) = (τ73.1 6)) = (τ_167.2.1 14 (τ_167.1 22) + τ_167.2.1 15 (τ_167.1 22) = (τ_167.1 6)) from by rw [w6_τ73, w22_τ73, g14_τ73, g15_τ73]]; exact Z1
      have Y20 : ca (τ73.2.1 12) ((τ73.1 3)) ≤ (τ73.1 4) := by rw [show (ca (τ73.2.1 12) ((τ73.1 3)) ≤ (τ73.1 4)) = (ca (τ_167.2.1 12) ((τ_167.1 3)) ≤ (τ_167.1 4)) from by rw [w3_τ73, w4_τ73, g12_τ73]]; exact Y20
      have Y1 : j_l2 (τ73.2.1 6) (τ73.1 3) := by rw [show (j_l2 (τ73.2.1 6) (τ73.1 3)) = (j_l2 (τ_167.2.1 6) (τ_167.1 3)) from by rw [w3_τ73, g6_τ73]]; exact Y1
      have STt : j_l2 (τ73.2.1 6) (τ73.1 3) := by rw [show (j_l2 (τ73.2.1 6) (τ73.1 3)) = (j_l2 (τ_167.2.1 6) (τ_167.1 3)) from by rw [w3_τ73, g6_τ73]]; exact STt
      have A6 : ∀ j, (-1) ≤ τ73.2.1 6 j ∧ τ73.2.1 6 j ≤ 999 := fun j => hT.2 6 j
      have A7 : ∀ j, (-1) ≤ τ73.2.1 7 j ∧ τ73.2.1 7 j ≤ 1499 := fun j => hT.2 7 j
      have A8 : ∀ j, 0 ≤ τ73.2.1 8 j ∧ τ73.2.1 8 j ≤ 1 := fun j => hT.2 8 j
      have A9 : ∀ j, 0 ≤ τ73.2.1 9 j ∧ τ73.2.1 9 j ≤ 1 := fun j => hT.2 9 j
      have A10 : ∀ j, (-1) ≤ τ73.2.1 10 j ∧ τ73.2.1 10 j ≤ 999 := fun j => hT.2 10 j
      have A11 : ∀ j, (-1) ≤ τ73.2.1 11 j ∧ τ73.2.1 11 j ≤ 1499 := fun j => hT.2 11 j
      have A12 : ∀ j, 0 ≤ τ73.2.1 12 j ∧ τ73.2.1 12 j ≤ 1 := fun j => hT.2 12 j
      have A13 : ∀ j, 0 ≤ τ73.2.1 13 j ∧ τ73.2.1 13 j ≤ 4 := fun j => hT.2 13 j
      have A14 : ∀ j, 0 ≤ τ73.2.1 14 j ∧ τ73.2.1 14 j ≤ 30000 := fun j => hT.2 14 j
      have A15 : ∀ j, 0 ≤ τ73.2.1 15 j ∧ τ73.2.1 15 j ≤ 300 := fun j => hT.2 15 j
      have A16 : ∀ j, 0 ≤ τ73.2.1 16 j ∧ τ73.2.1 16 j ≤ 999 := fun j => hT.2 16 j
      have A17 : ∀ j, (-1) ≤ τ73.2.1 17 j ∧ τ73.2.1 17 j ≤ 1499 := fun j => hT.2 17 j
      have A31 : ∀ j, 0 ≤ τ73.2.1 31 j ∧ τ73.2.1 31 j ≤ 1499 := fun j => hT.2 31 j
      have A35 : ∀ j, 0 ≤ τ73.2.1 35 j ∧ τ73.2.1 35 j ≤ 1500 := fun j => hT.2 35 j
      have v0 : 0 ≤ τ73.1 0 ∧ τ73.1 0 ≤ 60000 := hT.1 0
      have v3 : 0 ≤ τ73.1 3 ∧ τ73.1 3 ≤ 1000 := hT.1 3
      have v4 : 0 ≤ τ73.1 4 ∧ τ73.1 4 ≤ 100 := hT.1 4
      have v5 : 0 ≤ τ73.1 5 ∧ τ73.1 5 ≤ 1500 := hT.1 5
      have v6 : 0 ≤ τ73.1 6 ∧ τ73.1 6 ≤ 30000 := hT.1 6
      have v7 : 0 ≤ τ73.1 7 ∧ τ73.1 7 ≤ 90000 := hT.1 7
      have v8 : 0 ≤ τ73.1 8 ∧ τ73.1 8 ≤ 20000 := hT.1 8
      have v9 : 0 ≤ τ73.1 9 ∧ τ73.1 9 ≤ 20000 := hT.1 9
      have v10 : (-1) ≤ τ73.1 10 ∧ τ73.1 10 ≤ 999 := hT.1 10
      have v11 : (-1) ≤ τ73.1 11 ∧ τ73.1 11 ≤ 999 := hT.1 11
      have v13 : 0 ≤ τ73.1 13 ∧ τ73.1 13 ≤ 1500 := hT.1 13
      have v15 : 0 ≤ τ73.1 15 ∧ τ73.1 15 ≤ 50 := hT.1 15
      have v16 : 0 ≤ τ73.1 16 ∧ τ73.1 16 ≤ 60000 := hT.1 16
      have v17 : 0 ≤ τ73.1 17 ∧ τ73.1 17 ≤ 60000 := hT.1 17
      have v18 : 0 ≤ τ73.1 18 ∧ τ73.1 18 ≤ 60000 := hT.1 18
      have v19 : (-1) ≤ τ73.1 19 ∧ τ73.1 19 ≤ 125 := hT.1 19
      have v20 : 0 ≤ τ73.1 20 ∧ τ73.1 20 ≤ 19 := hT.1 20
      have v22 : 0 ≤ τ73.1 22 ∧ τ73.1 22 ≤ 1499 := hT.1 22
      have a14_22 : 0 ≤ τ73.2.1 14 (τ73.1 22) ∧ τ73.2.1 14 (τ73.1 22) ≤ 30000 := hT.2 14 _
      have a15_22 : 0 ≤ τ73.2.1 15 (τ73.1 22) ∧ τ73.2.1 15 (τ73.1 22) ≤ 300 := hT.2 15 _
      have av5 : σ.1 5 ≤ τ73.1 5 := ag.1 5 (by decide)
      have av6 : σ.1 6 ≤ τ73.1 6 := ag.1 6 (by decide)
      exact l_211 _ _ _ hT ag (show τ73.1 0 = σ.1 0 from by first | exact W0 | omega) (show τ73.1 3 = σ.1 3 from by first | exact W3 | omega) (show τ73.1 7 = σ.1 7 from by first | exact W7 | omega) (show τ73.1 8 = σ.1 8 from by first | exact W8 | omega) (show τ73.1 9 = σ.1 9 from by first | exact W9 | omega) (show τ73.1 10 = σ.1 10 from by first | exact W10 | omega) (show τ73.1 11 = σ.1 11 from by first | exact W11 | omega) (show τ73.1 15 = σ.1 15 from by first | exact W15 | omega) (show τ73.1 22 = σ.1 22 from by first | exact W22 | omega) G6 G7 G8 G9 G14 G35 (show (τ73.1 16) ≤ (τ73.1 0) from by (first | omega | (simp only [st_s] <;> omega) | assumption | omega | fail)) (show (τ73.1 17) + (τ73.1 18) ≤ (τ73.1 0) from by (first | omega | (simp only [st_s] <;> omega) | assumption | omega | fail)) (show oc (τ73.2.1 6) < 4096 from by (first | omega | (simp only [st_s] <;> omega) | assumption | omega | fail)) (show oc (τ73.2.1 7) < 4096 from by (first | omega | (simp only [st_s] <;> omega) | assumption | omega | fail)) (show ¬ (σ.1 20) = 0 → (τ73.1 20) = (σ.1 20) from by (first | omega | (simp only [st_s] <;> omega) | assumption | omega | fail)) (show τ73.2.1 14 (τ73.1 22) + τ73.2.1 15 (τ73.1 22) = (τ73.1 6) from Z1) (show ca (τ73.2.1 12) ((τ73.1 3)) ≤ (τ73.1 4) from Y20) (show (τ73.1 5) = (σ.1 5) from by (first | omega | (simp only [st_s] <;> omega) | assumption | omega | fail)) (show (τ73.1 13) = (σ.1 13) from by (first | omega | (simp only [st_s] <;> omega) | assumption | omega | fail)) (show τ73.2.1 15 (τ73.1 22) ≤ 2 from by (first | omega | (simp only [st_s] <;> omega) | assumption | omega | fail)) (show (σ.1 16) ≤ (τ73.1 16) from by (first | omega | (simp only [st_s] <;> omega) | assumption | omega | fail)) (show -1 ≤ u1_167 from by (first | omega | (simp only [st_s] <;> omega) | assumption | omega | fail)) (show u1_167 ≤ 999 from by (first | omega | (simp only [st_s] <;> omega) | assumption | omega | fail)) (show 0 ≤ u2_167 from by (first | omega | (simp only [st_s] <;> omega) | assumption | omega | fail)) (show u2_167 ≤ 999 from by (first | omega | (simp only [st_s] <;> omega) | assumption | omega | fail)) (show (τ73.1 20) = 0 → 0 ≤ u1_167 ∧ τ73.2.1 15 (τ73.1 22) = 1 ∧ (τ73.1 6) < 30000 from by (first | omega | (simp only [st_s] <;> omega) | assumption | omega | fail)) (show τ73.2.1 11 = σ.2.1 11 from by (first | exact i47_13 | exact i135_19 | exact i167_20 | (rw [g11_τ36]; exact i47_13) | (rw [g11_τ39]; exact i47_13) | (rw [g11_τ60]; exact i47_13) | (rw [g11_τ70]; exact i47_13) | (rw [g11_τ73]; exact i47_13) | (rw [g11_τ36]; exact i135_19) | (rw [g11_τ39]; exact i135_19) | (rw [g11_τ60]; exact i135_19) | (rw [g11_τ70]; exact i135_19) | (rw [g11_τ73]; exact i135_19) | (rw [g11_τ36]; exact i167_20) | (rw [g11_τ39]; exact i167_20) | (rw [g11_τ60]; exact i167_20) | (rw [g11_τ70]; exact i167_20) | (rw [g11_τ73]; exact i167_20) | fail)) (show τ73.2.1 31 = σ.2.1 31 from by (first | exact i47_14 | exact i135_20 | exact i167_21 | (rw [g31_τ36]; exact i47_14) | (rw [g31_τ39]; exact i47_14) | (rw [g31_τ60]; exact i47_14) | (rw [g31_τ70]; exact i47_14) | (rw [g31_τ73]; exact i47_14) | (rw [g31_τ36]; exact i135_20) | (rw [g31_τ39]; exact i135_20) | (rw [g31_τ60]; exact i135_20) | (rw [g31_τ70]; exact i135_20) | (rw [g31_τ73]; exact i135_20) | (rw [g31_τ36]; exact i167_21) | (rw [g31_τ39]; exact i167_21) | (rw [g31_τ60]; exact i167_21) | (rw [g31_τ70]; exact i167_21) | (rw [g31_τ73]; exact i167_21) | fail)) (show τ73.2.1 13 = σ.2.1 13 from by (first | exact i47_15 | exact i135_21 | exact i167_22 | (rw [g13_τ36]; exact i47_15) | (rw [g13_τ39]; exact i47_15) | (rw [g13_τ60]; exact i47_15) | (rw [g13_τ70]; exact i47_15) | (rw [g13_τ73]; exact i47_15) | (rw [g13_τ36]; exact i135_21) | (rw [g13_τ39]; exact i135_21) | (rw [g13_τ60]; exact i135_21) | (rw [g13_τ70]; exact i135_21) | (rw [g13_τ73]; exact i135_21) | (rw [g13_τ36]; exact i167_22) | (rw [g13_τ39]; exact i167_22) | (rw [g13_τ60]; exact i167_22) | (rw [g13_τ70]; exact i167_22) | (rw [g13_τ73]; exact i167_22) | fail)) (show τ73.2.1 10 = σ.2.1 10 from by (first | exact i47_16 | exact i135_22 | exact i167_23 | (rw [g10_τ36]; exact i47_16) | (rw [g10_τ39]; exact i47_16) | (rw [g10_τ60]; exact i47_16) | (rw [g10_τ70]; exact i47_16) | (rw [g10_τ73]; exact i47_16) | (rw [g10_τ36]; exact i135_22) | (rw [g10_τ39]; exact i135_22) | (rw [g10_τ60]; exact i135_22) | (rw [g10_τ70]; exact i135_22) | (rw [g10_τ73]; exact i135_22) | (rw [g10_τ36]; exact i167_23) | (rw [g10_τ39]; exact i167_23) | (rw [g10_τ60]; exact i167_23) | (rw [g10_τ70]; exact i167_23) | (rw [g10_τ73]; exact i167_23) | fail)) (show n_rl σ τ73 from by (first | exact i47_17 | exact n_rl_r i47_17 hf_τ36 rfl rfl | exact n_rl_r i47_17 hf_τ39 rfl rfl | exact n_rl_r i47_17 hf_τ60 rfl rfl | exact n_rl_r i47_17 hf_τ70 rfl rfl | exact n_rl_r i47_17 hf_τ73 rfl rfl | exact i135_23 | exact n_rl_r i135_23 hf_τ36 rfl rfl | exact n_rl_r i135_23 hf_τ39 rfl rfl | exact n_rl_r i135_23 hf_τ60 rfl rfl | exact n_rl_r i135_23 hf_τ70 rfl rfl | exact n_rl_r i135_23 hf_τ73 rfl rfl | exact i167_24 | exact n_rl_r i167_24 hf_τ36 rfl rfl | exact n_rl_r i167_24 hf_τ39 rfl rfl | exact n_rl_r i167_24 hf_τ60 rfl rfl | exact n_rl_r i167_24 hf_τ70 rfl rfl | exact n_rl_r i167_24 hf_τ73 rfl rfl | fail)) (show (τ73.1 20) = 0 → n_N (τ73.2.1 14 (τ73.1 22)) (τ73.2.1 14 (τ73.1 22) + τ73.2.1 15 (τ73.1 22)) (σ.1 3) (σ.2.1 8) (σ.2.1 11) (τ73.2.1 12) (τ73.2.1 16) (τ73.2.1 17) from by (intro z; first | (exfalso; omega) | exact i47_18 (by omega) | (rw [g14_τ36, g15_τ36, g12_τ36, g16_τ36, g17_τ36, w22_τ36]; exact i47_18 (by omega)) | (rw [g14_τ39, g15_τ39, g12_τ39, g16_τ39, g17_τ39, w22_τ39]; exact i47_18 (by omega)) | (rw [g14_τ60, g15_τ60, g12_τ60, g16_τ60, g17_τ60, w22_τ60]; exact i47_18 (by omega)) | (rw [g14_τ70, g15_τ70, g12_τ70, g16_τ70, g17_τ70, w22_τ70]; exact i47_18 (by omega)) | (rw [g14_τ73, g15_τ73, g12_τ73, g16_τ73, g17_τ73, w22_τ73]; exact i47_18 (by omega)) | exact i135_24 (by omega) | (rw [g14_τ36, g15_τ36, g12_τ36, g16_τ36, g17_τ36, w22_τ36]; exact i135_24 (by omega)) | (rw [g14_τ39, g15_τ39, g12_τ39, g16_τ39, g17_τ39, w22_τ39]; exact i135_24 (by omega)) | (rw [g14_τ60, g15_τ60, g12_τ60, g16_τ60, g17_τ60, w22_τ60]; exact i135_24 (by omega)) | (rw [g14_τ70, g15_τ70, g12_τ70, g16_τ70, g17_τ70, w22_τ70]; exact i135_24 (by omega)) | (rw [g14_τ73, g15_τ73, g12_τ73, g16_τ73, g17_τ73, w22_τ73]; exact i135_24 (by omega)) | exact i167_25 (by omega) | (rw [g14_τ36, g15_τ36, g12_τ36, g16_τ36, g17_τ36, w22_τ36]; exact i167_25 (by omega)) | (rw [g14_τ39, g15_τ39, g12_τ39, g16_τ39, g17_τ39, w22_τ39]; exact i167_25 (by omega)) | (rw [g14_τ60, g15_τ60, g12_τ60, g16_τ60, g17_τ60, w22_τ60]; exact i167_25 (by omega)) | (rw [g14_τ70, g15_τ70, g12_τ70, g16_τ70, g17_τ70, w22_τ70]; exact i167_25 (by omega)) | (rw [g14_τ73, g15_τ73, g12_τ73, g16_τ73, g17_τ73, w22_τ73]; exact i167_25 (by omega)))) (show (τ73.1 20) = 0 → u1_167 < (σ.1 3) ∧ ¬ σ.2.1 8 u1_167 = 0 ∧ σ.2.1 11 u1_167 = -1 ∧ (σ.2.1 10 u1_167 = -1 ∨ σ.2.1 10 u1_167 = u2_167) from by (intro z; first | (exfalso; omega) | exact ⟨i167_26, by rw [← G8, ← e_x62]; assumption, i167_27.resolve_left (by rw [← G8, ← e_x62]; assumption), by first | exact Or.inl (by rw [← i167_23, ← e_x64]; assumption) | exact Or.inr (by rw [← i167_23, ← e_x66]; assumption)⟩)) (show u2_167 = τ73.2.1 16 (τ73.2.1 14 (τ73.1 22)) from by (first | exact i167_28 | (rw [g16_τ60, g14_τ60, w22_τ60]; exact i135_27) | (rw [g16_τ70, g14_τ70, w22_τ70]; exact i167_28) | (rw [g16_τ73, g14_τ73, w22_τ73]; exact i167_28) | (rw [g16_τ36, g14_τ36, w22_τ36, e_x24, e_x22]) | (rw [g16_τ39, g14_τ39, w22_τ39, e_x24, e_x22]) | fail))
  have l_135 : ∀ (u1_135 : Int) (u2_135 : Int) (τ_135 : S0), (m_T τ_135) → (m_ag σ τ_135) → (τ_135.1 0 = σ.1 0) → (τ_135.1 3 = σ.1 3) → (τ_135.1 7 = σ.1 7) → (τ_135.1 8 = σ.1 8) → (τ_135.1 9 = σ.1 9) → (τ_135.1 10 = σ.1 10) → (τ_135.1 11 = σ.1 11) → (τ_135.1 15 = σ.1 15) → (τ_135.1 22 = σ.1 22) → (τ_135.2.1 6 = σ.2.1 6) → (τ_135.2.1 7 = σ.2.1 7) → (τ_135.2.1 8 = σ.2.1 8) → (τ_135.2.1 9 = σ.2.1 9) → (τ_135.2.1 14 = σ.2.1 14) → (τ_135.2.1 35 = σ.2.1 35) → ((τ_135.1 16) ≤ (τ_135.1 0)) → ((τ_135.1 17) + (τ_135.1 18) ≤ (τ_135.1 0)) → (oc (τ_135.2.1 6) < 4096) → (oc (τ_135.2.1 7) < 4096) → (¬ (σ.1 20) = 0 → (τ_135.1 20) = (σ.1 20)) → (τ_135.2.1 14 (τ_135.1 22) + τ_135.2.1 15 (τ_135.1 22) = (τ_135.1 6)) → (ca (τ_135.2.1 12) ((τ_135.1 3)) ≤ (τ_135.1 4)) → ((τ_135.1 5) = (σ.1 5)) → ((τ_135.1 13) = (σ.1 13)) → (τ_135.2.1 15 (τ_135.1 22) ≤ 2) → ((σ.1 16) ≤ (τ_135.1 16)) → (-1 ≤ u1_135) → (u1_135 ≤ 999) → (0 ≤ u2_135) → (u2_135 ≤ 999) → ((τ_135.1 20) = 0) → (τ_135.2.1 15 (τ_135.1 22) = 1) → ((τ_135.1 6) < 30000) → (τ_135.2.1 11 = σ.2.1 11) → (τ_135.2.1 31 = σ.2.1 31) → (τ_135.2.1 13 = σ.2.1 13) → (τ_135.2.1 10 = σ.2.1 10) → (n_rl σ τ_135) → ((τ_135.1 20) = 0 → n_N (τ_135.2.1 14 (τ_135.1 22)) (τ_135.2.1 14 (τ_135.1 22) + τ_135.2.1 15 (τ_135.1 22)) (σ.1 3) (σ.2.1 8) (σ.2.1 11) (τ_135.2.1 12) (τ_135.2.1 16) (τ_135.2.1 17)) → (u1_135 = -1 ∨ u1_135 < (σ.1 3)) → (u1_135 = -1 ∨ σ.2.1 8 u1_135 = 0 ∨ τ_135.2.1 9 u1_135 = 0 ∨ σ.2.1 11 u1_135 = -1) → (u2_135 = τ_135.2.1 16 (τ_135.2.1 14 (τ_135.1 22))) → P135 u1_135 u2_135 τ_135 := by
    intro u1_135 u2_135 τ_135 hT ag W0 W3 W7 W8 W9 W10 W11 W15 W22 G6 G7 G8 G9 G14 G35 i135_1 i135_2 i135_3 i135_4 i135_5 i135_6 i135_7 i135_8 i135_9 i135_10 i135_11 i135_12 i135_13 i135_14 i135_15 i135_16 i135_17 i135_18 i135_19 i135_20 i135_21 i135_22 i135_23 i135_24 i135_25 i135_26 i135_27
    have A6 : ∀ j, (-1) ≤ τ_135.2.1 6 j ∧ τ_135.2.1 6 j ≤ 999 := fun j => hT.2 6 j
    have A7 : ∀ j, (-1) ≤ τ_135.2.1 7 j ∧ τ_135.2.1 7 j ≤ 1499 := fun j => hT.2 7 j
    have A8 : ∀ j, 0 ≤ τ_135.2.1 8 j ∧ τ_135.2.1 8 j ≤ 1 := fun j => hT.2 8 j
    have A9 : ∀ j, 0 ≤ τ_135.2.1 9 j ∧ τ_135.2.1 9 j ≤ 1 := fun j => hT.2 9 j
    have A10 : ∀ j, (-1) ≤ τ_135.2.1 10 j ∧ τ_135.2.1 10 j ≤ 999 := fun j => hT.2 10 j
    have A11 : ∀ j, (-1) ≤ τ_135.2.1 11 j ∧ τ_135.2.1 11 j ≤ 1499 := fun j => hT.2 11 j
    have A12 : ∀ j, 0 ≤ τ_135.2.1 12 j ∧ τ_135.2.1 12 j ≤ 1 := fun j => hT.2 12 j
    have A13 : ∀ j, 0 ≤ τ_135.2.1 13 j ∧ τ_135.2.1 13 j ≤ 4 := fun j => hT.2 13 j
    have A14 : ∀ j, 0 ≤ τ_135.2.1 14 j ∧ τ_135.2.1 14 j ≤ 30000 := fun j => hT.2 14 j
    have A15 : ∀ j, 0 ≤ τ_135.2.1 15 j ∧ τ_135.2.1 15 j ≤ 300 := fun j => hT.2 15 j
    have A16 : ∀ j, 0 ≤ τ_135.2.1 16 j ∧ τ_135.2.1 16 j ≤ 999 := fun j => hT.2 16 j
    have A17 : ∀ j, (-1) ≤ τ_135.2.1 17 j ∧ τ_135.2.1 17 j ≤ 1499 := fun j => hT.2 17 j
    have A31 : ∀ j, 0 ≤ τ_135.2.1 31 j ∧ τ_135.2.1 31 j ≤ 1499 := fun j => hT.2 31 j
    have A35 : ∀ j, 0 ≤ τ_135.2.1 35 j ∧ τ_135.2.1 35 j ≤ 1500 := fun j => hT.2 35 j
    have v0 : 0 ≤ τ_135.1 0 ∧ τ_135.1 0 ≤ 60000 := hT.1 0
    have v3 : 0 ≤ τ_135.1 3 ∧ τ_135.1 3 ≤ 1000 := hT.1 3
    have v4 : 0 ≤ τ_135.1 4 ∧ τ_135.1 4 ≤ 100 := hT.1 4
    have v5 : 0 ≤ τ_135.1 5 ∧ τ_135.1 5 ≤ 1500 := hT.1 5
    have v6 : 0 ≤ τ_135.1 6 ∧ τ_135.1 6 ≤ 30000 := hT.1 6
    have v7 : 0 ≤ τ_135.1 7 ∧ τ_135.1 7 ≤ 90000 := hT.1 7
    have v8 : 0 ≤ τ_135.1 8 ∧ τ_135.1 8 ≤ 20000 := hT.1 8
    have v9 : 0 ≤ τ_135.1 9 ∧ τ_135.1 9 ≤ 20000 := hT.1 9
    have v10 : (-1) ≤ τ_135.1 10 ∧ τ_135.1 10 ≤ 999 := hT.1 10
    have v11 : (-1) ≤ τ_135.1 11 ∧ τ_135.1 11 ≤ 999 := hT.1 11
    have v13 : 0 ≤ τ_135.1 13 ∧ τ_135.1 13 ≤ 1500 := hT.1 13
    have v15 : 0 ≤ τ_135.1 15 ∧ τ_135.1 15 ≤ 50 := hT.1 15
    have v16 : 0 ≤ τ_135.1 16 ∧ τ_135.1 16 ≤ 60000 := hT.1 16
    have v17 : 0 ≤ τ_135.1 17 ∧ τ_135.1 17 ≤ 60000 := hT.1 17
    have v18 : 0 ≤ τ_135.1 18 ∧ τ_135.1 18 ≤ 60000 := hT.1 18
    have v19 : (-1) ≤ τ_135.1 19 ∧ τ_135.1 19 ≤ 125 := hT.1 19
    have v20 : 0 ≤ τ_135.1 20 ∧ τ_135.1 20 ≤ 19 := hT.1 20
    have v22 : 0 ≤ τ_135.1 22 ∧ τ_135.1 22 ≤ 1499 := hT.1 22
    have a14_22 : 0 ≤ τ_135.2.1 14 (τ_135.1 22) ∧ τ_135.2.1 14 (τ_135.1 22) ≤ 30000 := hT.2 14 _
    have a15_22 : 0 ≤ τ_135.2.1 15 (τ_135.1 22) ∧ τ_135.2.1 15 (τ_135.1 22) ≤ 300 := hT.2 15 _
    have av5 : σ.1 5 ≤ τ_135.1 5 := ag.1 5 (by decide)
    have av6 : σ.1 6 ≤ τ_135.1 6 := ag.1 6 (by decide)
    have y14_22_τ_135 : τ_135.2.1 14 (τ_135.1 22) = σ.2.1 14 (σ.1 22) := by rw [G14, W22]
    have o6_τ_135 := congrArg oc G6
    have o7_τ_135 := congrArg oc G7
    have ca_τ_135 := congr (congrArg ca G9) W3
    have Z1 : τ_135.2.1 14 (τ_135.1 22) + τ_135.2.1 15 (τ_135.1 22) = (τ_135.1 6) := i135_6
    have Y20 : ca (τ_135.2.1 12) ((τ_135.1 3)) ≤ (τ_135.1 4) := i135_7
    have Y1 : j_l2 (τ_135.2.1 6) (τ_135.1 3) := by rw [show (j_l2 (τ_135.2.1 6) (τ_135.1 3)) = (j_l2 (σ.2.1 6) (σ.1 3)) from by rw [W3, G6]]; exact Y1_0
    have STt : j_l2 (τ_135.2.1 6) (τ_135.1 3) := by rw [show (j_l2 (τ_135.2.1 6) (τ_135.1 3)) = (j_l2 (σ.2.1 6) (σ.1 3)) from by rw [W3, G6]]; exact STt_0
    refine h135 u1_135 u2_135 τ_135 ?_
    refine ⟨fun c40 => ?_, fun c40 => ?_⟩
    ·
      refine h158 _ _ _ ?_
      refine ⟨_, K_X13_failHere hT (show 0 ≤ (9 : Int) from by (first | omega | (simp only [st_s] <;> omega) | assumption | omega | fail)) (show (9 : Int) ≤ 19 from by (first | omega | (simp only [st_s] <;> omega) | assumption | omega | fail)), ?_⟩
      intro τ60 hn_τ60 hf_τ60 hq
      obtain ⟨hT, q58_1, q58_2⟩ := hq
      replace q58_1 : ¬ (τ_135.1 20) = 0 → (τ60.1 20) = (τ_135.1 20) := q58_1
      replace q58_2 : (τ_135.1 20) = 0 → (τ60.1 20) = (9 : Int) := q58_2
      replace ag : m_ag σ τ60 := ag_r ag hf_τ60 rfl rfl
      have w0_τ60 : τ60.1 0 = τ_135.1 0 := hf_τ60.1 0 (by decide)
      have w3_τ60 : τ60.1 3 = τ_135.1 3 := hf_τ60.1 3 (by decide)
      have w4_τ60 : τ60.1 4 = τ_135.1 4 := hf_τ60.1 4 (by decide)
      have w5_τ60 : τ60.1 5 = τ_135.1 5 := hf_τ60.1 5 (by decide)
      have w6_τ60 : τ60.1 6 = τ_135.1 6 := hf_τ60.1 6 (by decide)
      have w7_τ60 : τ60.1 7 = τ_135.1 7 := hf_τ60.1 7 (by decide)
      have w8_τ60 : τ60.1 8 = τ_135.1 8 := hf_τ60.1 8 (by decide)
      have w9_τ60 : τ60.1 9 = τ_135.1 9 := hf_τ60.1 9 (by decide)
      have w10_τ60 : τ60.1 10 = τ_135.1 10 := hf_τ60.1 10 (by decide)
      have w11_τ60 : τ60.1 11 = τ_135.1 11 := hf_τ60.1 11 (by decide)
      have w13_τ60 : τ60.1 13 = τ_135.1 13 := hf_τ60.1 13 (by decide)
      have w15_τ60 : τ60.1 15 = τ_135.1 15 := hf_τ60.1 15 (by decide)
      have w16_τ60 : τ60.1 16 = τ_135.1 16 := hf_τ60.1 16 (by decide)
      have w17_τ60 : τ60.1 17 = τ_135.1 17 := hf_τ60.1 17 (by decide)
      have w18_τ60 : τ60.1 18 = τ_135.1 18 := hf_τ60.1 18 (by decide)
      have w19_τ60 : τ60.1 19 = τ_135.1 19 := hf_τ60.1 19 (by decide)
      have w22_τ60 : τ60.1 22 = τ_135.1 22 := hf_τ60.1 22 (by decide)
      have g6_τ60 : τ60.2.1 6 = τ_135.2.1 6 := hf_τ60.2.1 6 (by decide)
      have g7_τ60 : τ60.2.1 7 = τ_135.2.1 7 := hf_τ60.2.1 7 (by decide)
      have g8_τ60 : τ60.2.1 8 = τ_135.2.1 8 := hf_τ60.2.1 8 (by decide)
      have g9_τ60 : τ60.2.1 9 = τ_135.2.1 9 := hf_τ60.2.1 9 (by decide)
      have g10_τ60 : τ60.2.1 10 = τ_135.2.1 10 := hf_τ60.2.1 10 (by decide)
      have g11_τ60 : τ60.2.1 11 = τ_135.2.1 11 := hf_τ60.2.1 11 (by decide)
      have g12_τ60 : τ60.2.1 12 = τ_135.2.1 12 := hf_τ60.2.1 12 (by decide)
      have g13_τ60 : τ60.2.1 13 = τ_135.2.1 13 := hf_τ60.2.1 13 (by decide)
      have g14_τ60 : τ60.2.1 14 = τ_135.2.1 14 := hf_τ60.2.1 14 (by decide)
      have g15_τ60 : τ60.2.1 15 = τ_135.2.1 15 := hf_τ60.2.1 15 (by decide)
      have g16_τ60 : τ60.2.1 16 = τ_135.2.1 16 := hf_τ60.2.1 16 (by decide)
      have g17_τ60 : τ60.2.1 17 = τ_135.2.1 17 := hf_τ60.2.1 17 (by decide)
      have g31_τ60 : τ60.2.1 31 = τ_135.2.1 31 := hf_τ60.2.1 31 (by decide)
      have g35_τ60 : τ60.2.1 35 = τ_135.2.1 35 := hf_τ60.2.1 35 (by decide)
      first | (have ca_τ60 := congr (congrArg ca g9_τ60) w3_τ60) | skip
      first | (have o6_τ60 := congrArg oc g6_τ60) | skip
      first | (have o7_τ60 := congrArg oc g7_τ60) | skip
      have W0 : τ60.1 0 = σ.1 0 := by first | exact w0_τ60.trans W0 | omega
      have W3 : τ60.1 3 = σ.1 3 := by first | exact w3_τ60.trans W3 | omega
      have W7 : τ60.1 7 = σ.1 7 := by first | exact w7_τ60.trans W7 | omega
      have W8 : τ60.1 8 = σ.1 8 := by first | exact w8_τ60.trans W8 | omega
      have W9 : τ60.1 9 = σ.1 9 := by first | exact w9_τ60.trans W9 | omega
      have W10 : τ60.1 10 = σ.1 10 := by first | exact w10_τ60.trans W10 | omega
      have W11 : τ60.1 11 = σ.1 11 := by first | exact w11_τ60.trans W11 | omega
      have W15 : τ60.1 15 = σ.1 15 := by first | exact w15_τ60.trans W15 | omega
      have W22 : τ60.1 22 = σ.1 22 := by first | exact w22_τ60.trans W22 | omega
      have G6 : τ60.2.1 6 = σ.2.1 6 := (g6_τ60).trans G6
      have G7 : τ60.2.1 7 = σ.2.1 7 := (g7_τ60).trans G7
      have G8 : τ60.2.1 8 = σ.2.1 8 := (g8_τ60).trans G8
      have G9 : τ60.2.1 9 = σ.2.1 9 := (g9_τ60).trans G9
      have G14 : τ60.2.1 14 = σ.2.1 14 := (g14_τ60).trans G14
      have G35 : τ60.2.1 35 = σ.2.1 35 := (g35_τ60).trans G35
      have y14_22_τ60 : τ60.2.1 14 (τ60.1 22) = (τ_135.2.1 14) (τ_135.1 22) := by rw [g14_τ60, w22_τ60]
      have y15_22_τ60 : τ60.2.1 15 (τ60.1 22) = (τ_135.2.1 15) (τ_135.1 22) := by rw [g15_τ60, w22_τ60]
      have Z1 : τ60.2.1 14 (τ60.1 22) + τ60.2.1 15 (τ60.1 22) = (τ60.1 6) := by rw [show (τ60.2.1 14 (τ60.1 22) + τ60.2.1 15 (τ60.1 22) = (τ60.1 6)) = (τ_135.2.1 14 (τ_135.1 22) + τ_135.2.1 15 (τ_135.1 22) = (τ_135.1 6)) from by rw [w6_τ60, w22_τ60, g14_τ60, g15_τ60]]; exact Z1
      have Y20 : ca (τ60.2.1 12) ((τ60.1 3)) ≤ (τ60.1 4) := by rw [show (ca (τ60.2.1 12) ((τ60.1 3)) ≤ (τ60.1 4)) = (ca (τ_135.2.1 12) ((τ_135.1 3)) ≤ (τ_135.1 4)) from by rw [w3_τ60, w4_τ60, g12_τ60]]; exact Y20
      have Y1 : j_l2 (τ60.2.1 6) (τ60.1 3) := by rw [show (j_l2 (τ60.2.1 6) (τ60.1 3)) = (j_l2 (τ_135.2.1 6) (τ_135.1 3)) from by rw [w3_τ60, g6_τ60]]; exact Y1
      have STt : j_l2 (τ60.2.1 6) (τ60.1 3) := by rw [show (j_l2 (τ60.2.1 6) (τ60.1 3)) = (j_l2 (τ_135.2.1 6) (τ_135.1 3)) from by rw [w3_τ60, g6_τ60]]; exact STt
      have A6 : ∀ j, (-1) ≤ τ60.2.1 6 j ∧ τ60.2.1 6 j ≤ 999 := fun j => hT.2 6 j
      have A7 : ∀ j, (-1) ≤ τ60.2.1 7 j ∧ τ60.2.1 7 j ≤ 1499 := fun j => hT.2 7 j
      have A8 : ∀ j, 0 ≤ τ60.2.1 8 j ∧ τ60.2.1 8 j ≤ 1 := fun j => hT.2 8 j
      have A9 : ∀ j, 0 ≤ τ60.2.1 9 j ∧ τ60.2.1 9 j ≤ 1 := fun j => hT.2 9 j
      have A10 : ∀ j, (-1) ≤ τ60.2.1 10 j ∧ τ60.2.1 10 j ≤ 999 := fun j => hT.2 10 j
      have A11 : ∀ j, (-1) ≤ τ60.2.1 11 j ∧ τ60.2.1 11 j ≤ 1499 := fun j => hT.2 11 j
      have A12 : ∀ j, 0 ≤ τ60.2.1 12 j ∧ τ60.2.1 12 j ≤ 1 := fun j => hT.2 12 j
      have A13 : ∀ j, 0 ≤ τ60.2.1 13 j ∧ τ60.2.1 13 j ≤ 4 := fun j => hT.2 13 j
      have A14 : ∀ j, 0 ≤ τ60.2.1 14 j ∧ τ60.2.1 14 j ≤ 30000 := fun j => hT.2 14 j
      have A15 : ∀ j, 0 ≤ τ60.2.1 15 j ∧ τ60.2.1 15 j ≤ 300 := fun j => hT.2 15 j
      have A16 : ∀ j, 0 ≤ τ60.2.1 16 j ∧ τ60.2.1 16 j ≤ 999 := fun j => hT.2 16 j
      have A17 : ∀ j, (-1) ≤ τ60.2.1 17 j ∧ τ60.2.1 17 j ≤ 1499 := fun j => hT.2 17 j
      have A31 : ∀ j, 0 ≤ τ60.2.1 31 j ∧ τ60.2.1 31 j ≤ 1499 := fun j => hT.2 31 j
      have A35 : ∀ j, 0 ≤ τ60.2.1 35 j ∧ τ60.2.1 35 j ≤ 1500 := fun j => hT.2 35 j
      have v0 : 0 ≤ τ60.1 0 ∧ τ60.1 0 ≤ 60000 := hT.1 0
      have v3 : 0 ≤ τ60.1 3 ∧ τ60.1 3 ≤ 1000 := hT.1 3
      have v4 : 0 ≤ τ60.1 4 ∧ τ60.1 4 ≤ 100 := hT.1 4
      have v5 : 0 ≤ τ60.1 5 ∧ τ60.1 5 ≤ 1500 := hT.1 5
      have v6 : 0 ≤ τ60.1 6 ∧ τ60.1 6 ≤ 30000 := hT.1 6
      have v7 : 0 ≤ τ60.1 7 ∧ τ60.1 7 ≤ 90000 := hT.1 7
      have v8 : 0 ≤ τ60.1 8 ∧ τ60.1 8 ≤ 20000 := hT.1 8
      have v9 : 0 ≤ τ60.1 9 ∧ τ60.1 9 ≤ 20000 := hT.1 9
      have v10 : (-1) ≤ τ60.1 10 ∧ τ60.1 10 ≤ 999 := hT.1 10
      have v11 : (-1) ≤ τ60.1 11 ∧ τ60.1 11 ≤ 999 := hT.1 11
      have v13 : 0 ≤ τ60.1 13 ∧ τ60.1 13 ≤ 1500 := hT.1 13
      have v15 : 0 ≤ τ60.1 15 ∧ τ60.1 15 ≤ 50 := hT.1 15
      have v16 : 0 ≤ τ60.1 16 ∧ τ60.1 16 ≤ 60000 := hT.1 16
      have v17 : 0 ≤ τ60.1 17 ∧ τ60.1 17 ≤ 60000 := hT.1 17
      have v18 : 0 ≤ τ60.1 18 ∧ τ60.1 18 ≤ 60000 := hT.1 18
      have v19 : (-1) ≤ τ60.1 19 ∧ τ60.1 19 ≤ 125 := hT.1 19
      have v20 : 0 ≤ τ60.1 20 ∧ τ60.1 20 ≤ 19 := hT.1 20
      have v22 : 0 ≤ τ60.1 22 ∧ τ60.1 22 ≤ 1499 := hT.1 22
      have a14_22 : 0 ≤ τ60.2.1 14 (τ60.1 22) ∧ τ60.2.1 14 (τ60.1 22) ≤ 30000 := hT.2 14 _
      have a15_22 : 0 ≤ τ60.2.1 15 (τ60.1 22) ∧ τ60.2.1 15 (τ60.1 22) ≤ 300 := hT.2 15 _
      have av5 : σ.1 5 ≤ τ60.1 5 := ag.1 5 (by decide)
      have av6 : σ.1 6 ≤ τ60.1 6 := ag.1 6 (by decide)
      exact l_211 _ _ _ hT ag (show τ60.1 0 = σ.1 0 from by first | exact W0 | omega) (show τ60.1 3 = σ.1 3 from by first | exact W3 | omega) (show τ60.1 7 = σ.1 7 from by first | exact W7 | omega) (show τ60.1 8 = σ.1 8 from by first | exact W8 | omega) (show τ60.1 9 = σ.1 9 from by first | exact W9 | omega) (show τ60.1 10 = σ.1 10 from by first | exact W10 | omega) (show τ60.1 11 = σ.1 11 from by first | exact W11 | omega) (show τ60.1 15 = σ.1 15 from by first | exact W15 | omega) (show τ60.1 22 = σ.1 22 from by first | exact W22 | omega) G6 G7 G8 G9 G14 G35 (show (τ60.1 16) ≤ (τ60.1 0) from by (first | omega | (simp only [st_s] <;> omega) | assumption | omega | fail)) (show (τ60.1 17) + (τ60.1 18) ≤ (τ60.1 0) from by (first | omega | (simp only [st_s] <;> omega) | assumption | omega | fail)) (show oc (τ60.2.1 6) < 4096 from by (first | omega | (simp only [st_s] <;> omega) | assumption | omega | fail)) (show oc (τ60.2.1 7) < 4096 from by (first | omega | (simp only [st_s] <;> omega) | assumption | omega | fail)) (show ¬ (σ.1 20) = 0 → (τ60.1 20) = (σ.1 20) from by (first | omega | (simp only [st_s] <;> omega) | assumption | omega | fail)) (show τ60.2.1 14 (τ60.1 22) + τ60.2.1 15 (τ60.1 22) = (τ60.1 6) from Z1) (show ca (τ60.2.1 12) ((τ60.1 3)) ≤ (τ60.1 4) from Y20) (show (τ60.1 5) = (σ.1 5) from by (first | omega | (simp only [st_s] <;> omega) | assumption | omega | fail)) (show (τ60.1 13) = (σ.1 13) from by (first | omega | (simp only [st_s] <;> omega) | assumption | omega | fail)) (show τ60.2.1 15 (τ60.1 22) ≤ 2 from by (first | omega | (simp only [st_s] <;> omega) | assumption | omega | fail)) (show (σ.1 16) ≤ (τ60.1 16) from by (first | omega | (simp only [st_s] <;> omega) | assumption | omega | fail)) (show -1 ≤ u1_135 from by (first | omega | (simp only [st_s] <;> omega) | assumption | omega | fail)) (show u1_135 ≤ 999 from by (first | omega | (simp only [st_s] <;> omega) | assumption | omega | fail)) (show 0 ≤ u2_135 from by (first | omega | (simp only [st_s] <;> omega) | assumption | omega | fail)) (show u2_135 ≤ 999 from by (first | omega | (simp only [st_s] <;> omega) | assumption | omega | fail)) (show (τ60.1 20) = 0 → 0 ≤ u1_135 ∧ τ60.2.1 15 (τ60.1 22) = 1 ∧ (τ60.1 6) < 30000 from by (first | omega | (simp only [st_s] <;> omega) | assumption | omega | fail)) (show τ60.2.1 11 = σ.2.1 11 from by (first | exact i47_13 | exact i135_19 | exact i167_20 | (rw [g11_τ36]; exact i47_13) | (rw [g11_τ39]; exact i47_13) | (rw [g11_τ60]; exact i47_13) | (rw [g11_τ70]; exact i47_13) | (rw [g11_τ73]; exact i47_13) | (rw [g11_τ36]; exact i135_19) | (rw [g11_τ39]; exact i135_19) | (rw [g11_τ60]; exact i135_19) | (rw [g11_τ70]; exact i135_19) | (rw [g11_τ73]; exact i135_19) | (rw [g11_τ36]; exact i167_20) | (rw [g11_τ39]; exact i167_20) | (rw [g11_τ60]; exact i167_20) | (rw [g11_τ70]; exact i167_20) | (rw [g11_τ73]; exact i167_20) | fail)) (show τ60.2.1 31 = σ.2.1 31 from by (first | exact i47_14 | exact i135_20 | exact i167_21 | (rw [g31_τ36]; exact i47_14) | (rw [g31_τ39]; exact i47_14) | (rw [g31_τ60]; exact i47_14) | (rw [g31_τ70]; exact i47_14) | (rw [g31_τ73]; exact i47_14) | (rw [g31_τ36]; exact i135_20) | (rw [g31_τ39]; exact i135_20) | (rw [g31_τ60]; exact i135_20) | (rw [g31_τ70]; exact i135_20) | (rw [g31_τ73]; exact i135_20) | (rw [g31_τ36]; exact i167_21) | (rw [g31_τ39]; exact i167_21) | (rw [g31_τ60]; exact i167_21) | (rw [g31_τ70]; exact i167_21) | (rw [g31_τ73]; exact i167_21) | fail)) (show τ60.2.1 13 = σ.2.1 13 from by (first | exact i47_15 | exact i135_21 | exact i167_22 | (rw [g13_τ36]; exact i47_15) | (rw [g13_τ39]; exact i47_15) | (rw [g13_τ60]; exact i47_15) | (rw [g13_τ70]; exact i47_15) | (rw [g13_τ73]; exact i47_15) | (rw [g13_τ36]; exact i135_21) | (rw [g13_τ39]; exact i135_21) | (rw [g13_τ60]; exact i135_21) | (rw [g13_τ70]; exact i135_21) | (rw [g13_τ73]; exact i135_21) | (rw [g13_τ36]; exact i167_22) | (rw [g13_τ39]; exact i167_22) | (rw [g13_τ60]; exact i167_22) | (rw [g13_τ70]; exact i167_22) | (rw [g13_τ73]; exact i167_22) | fail)) (show τ60.2.1 10 = σ.2.1 10 from by (first | exact i47_16 | exact i135_22 | exact i167_23 | (rw [g10_τ36]; exact i47_16) | (rw [g10_τ39]; exact i47_16) | (rw [g10_τ60]; exact i47_16) | (rw [g10_τ70]; exact i47_16) | (rw [g10_τ73]; exact i47_16) | (rw [g10_τ36]; exact i135_22) | (rw [g10_τ39]; exact i135_22) | (rw [g10_τ60]; exact i135_22) | (rw [g10_τ70]; exact i135_22) | (rw [g10_τ73]; exact i135_22) | (rw [g10_τ36]; exact i167_23) | (rw [g10_τ39]; exact i167_23) | (rw [g10_τ60]; exact i167_23) | (rw [g10_τ70]; exact i167_23) | (rw [g10_τ73]; exact i167_23) | fail)) (show n_rl σ τ60 from by (first | exact i47_17 | exact n_rl_r i47_17 hf_τ36 rfl rfl | exact n_rl_r i47_17 hf_τ39 rfl rfl | exact n_rl_r i47_17 hf_τ60 rfl rfl | exact n_rl_r i47_17 hf_τ70 rfl rfl | exact n_rl_r i47_17 hf_τ73 rfl rfl | exact i135_23 | exact n_rl_r i135_23 hf_τ36 rfl rfl | exact n_rl_r i135_23 hf_τ39 rfl rfl | exact n_rl_r i135_23 hf_τ60 rfl rfl | exact n_rl_r i135_23 hf_τ70 rfl rfl | exact n_rl_r i135_23 hf_τ73 rfl rfl | exact i167_24 | exact n_rl_r i167_24 hf_τ36 rfl rfl | exact n_rl_r i167_24 hf_τ39 rfl rfl | exact n_rl_r i167_24 hf_τ60 rfl rfl | exact n_rl_r i167_24 hf_τ70 rfl rfl | exact n_rl_r i167_24 hf_τ73 rfl rfl | fail)) (show (τ60.1 20) = 0 → n_N (τ60.2.1 14 (τ60.1 22)) (τ60.2.1 14 (τ60.1 22) + τ60.2.1 15 (τ60.1 22)) (σ.1 3) (σ.2.1 8) (σ.2.1 11) (τ60.2.1 12) (τ60.2.1 16) (τ60.2.1 17) from by (intro z; first | (exfalso; omega) | exact i47_18 (by omega) | (rw [g14_τ36, g15_τ36, g12_τ36, g16_τ36, g17_τ36, w22_τ36]; exact i47_18 (by omega)) | (rw [g14_τ39, g15_τ39, g12_τ39, g16_τ39, g17_τ39, w22_τ39]; exact i47_18 (by omega)) | (rw [g14_τ60, g15_τ60, g12_τ60, g16_τ60, g17_τ60, w22_τ60]; exact i47_18 (by omega)) | (rw [g14_τ70, g15_τ70, g12_τ70, g16_τ70, g17_τ70, w22_τ70]; exact i47_18 (by omega)) | (rw [g14_τ73, g15_τ73, g12_τ73, g16_τ73, g17_τ73, w22_τ73]; exact i47_18 (by omega)) | exact i135_24 (by omega) | (rw [g14_τ36, g15_τ36, g12_τ36, g16_τ36, g17_τ36, w22_τ36]; exact i135_24 (by omega)) | (rw [g14_τ39, g15_τ39, g12_τ39, g16_τ39, g17_τ39, w22_τ39]; exact i135_24 (by omega)) | (rw [g14_τ60, g15_τ60, g12_τ60, g16_τ60, g17_τ60, w22_τ60]; exact i135_24 (by omega)) | (rw [g14_τ70, g15_τ70, g12_τ70, g16_τ70, g17_τ70, w22_τ70]; exact i135_24 (by omega)) | (rw [g14_τ73, g15_τ73, g12_τ73, g16_τ73, g17_τ73, w22_τ73]; exact i135_24 (by omega)) | exact i167_25 (by omega) | (rw [g14_τ36, g15_τ36, g12_τ36, g16_τ36, g17_τ36, w22_τ36]; exact i167_25 (by omega)) | (rw [g14_τ39, g15_τ39, g12_τ39, g16_τ39, g17_τ39, w22_τ39]; exact i167_25 (by omega)) | (rw [g14_τ60, g15_τ60, g12_τ60, g16_τ60, g17_τ60, w22_τ60]; exact i167_25 (by omega)) | (rw [g14_τ70, g15_τ70, g12_τ70, g16_τ70, g17_τ70, w22_τ70]; exact i167_25 (by omega)) | (rw [g14_τ73, g15_τ73, g12_τ73, g16_τ73, g17_τ73, w22_τ73]; exact i167_25 (by omega)))) (show (τ60.1 20) = 0 → u1_135 < (σ.1 3) ∧ ¬ σ.2.1 8 u1_135 = 0 ∧ σ.2.1 11 u1_135 = -1 ∧ (σ.2.1 10 u1_135 = -1 ∨ σ.2.1 10 u1_135 = u2_135) from by (intro z; first | (exfalso; omega) | exact ⟨i167_26, by rw [← G8, ← e_x62]; assumption, i167_27.resolve_left (by rw [← G8, ← e_x62]; assumption), by first | exact Or.inl (by rw [← i167_23, ← e_x64]; assumption) | exact Or.inr (by rw [← i167_23, ← e_x66]; assumption)⟩)) (show u2_135 = τ60.2.1 16 (τ60.2.1 14 (τ60.1 22)) from by (first | exact i167_28 | (rw [g16_τ60, g14_τ60, w22_τ60]; exact i135_27) | (rw [g16_τ70, g14_τ70, w22_τ70]; exact i167_28) | (rw [g16_τ73, g14_τ73, w22_τ73]; exact i167_28) | (rw [g16_τ36, g14_τ36, w22_τ36, e_x24, e_x22]) | (rw [g16_τ39, g14_τ39, w22_τ39, e_x24, e_x22]) | fail))
    ·
      refine ⟨(show 0 ≤ u1_135 ∧ u1_135 < 1001 from by (first | omega | (simp only [st_s] <;> omega) | assumption | omega | fail)), ?_⟩
      intro x42 r_x42 e_x42
      have b_x42 : 0 ≤ x42 ∧ x42 ≤ 1 := by rw [e_x42]; exact hT.2 8 _
      refine ⟨fun c43 => ?_, fun c43 => ?_⟩
      ·
        exact l_167 _ _ _ hT ag (show τ_135.1 0 = σ.1 0 from by first | exact W0 | omega) (show τ_135.1 3 = σ.1 3 from by first | exact W3 | omega) (show τ_135.1 7 = σ.1 7 from by first | exact W7 | omega) (show τ_135.1 8 = σ.1 8 from by first | exact W8 | omega) (show τ_135.1 9 = σ.1 9 from by first | exact W9 | omega) (show τ_135.1 10 = σ.1 10 from by first | exact W10 | omega) (show τ_135.1 11 = σ.1 11 from by first | exact W11 | omega) (show τ_135.1 15 = σ.1 15 from by first | exact W15 | omega) (show τ_135.1 22 = σ.1 22 from by first | exact W22 | omega) G6 G7 G8 G9 G14 G35 (show (τ_135.1 16) ≤ (τ_135.1 0) from by (first | omega | (simp only [st_s] <;> omega) | assumption | omega | fail)) (show (τ_135.1 17) + (τ_135.1 18) ≤ (τ_135.1 0) from by (first | omega | (simp only [st_s] <;> omega) | assumption | omega | fail)) (show oc (τ_135.2.1 6) < 4096 from by (first | omega | (simp only [st_s] <;> omega) | assumption | omega | fail)) (show oc (τ_135.2.1 7) < 4096 from by (first | omega | (simp only [st_s] <;> omega) | assumption | omega | fail)) (show ¬ (σ.1 20) = 0 → (τ_135.1 20) = (σ.1 20) from by (first | omega | (simp only [st_s] <;> omega) | assumption | omega | fail)) (show τ_135.2.1 14 (τ_135.1 22) + τ_135.2.1 15 (τ_135.1 22) = (τ_135.1 6) from Z1) (show ca (τ_135.2.1 12) ((τ_135.1 3)) ≤ (τ_135.1 4) from Y20) (show (τ_135.1 5) = (σ.1 5) from by (first | omega | (simp only [st_s] <;> omega) | assumption | omega | fail)) (show (τ_135.1 13) = (σ.1 13) from by (first | omega | (simp only [st_s] <;> omega) | assumption | omega | fail)) (show τ_135.2.1 15 (τ_135.1 22) ≤ 2 from by (first | omega | (simp only [st_s] <;> omega) | assumption | omega | fail)) (show (σ.1 16) ≤ (τ_135.1 16) from by (first | omega | (simp only [st_s] <;> omega) | assumption | omega | fail)) (show -1 ≤ u1_135 from by (first | omega | (simp only [st_s] <;> omega) | assumption | omega | fail)) (show u1_135 ≤ 999 from by (first | omega | (simp only [st_s] <;> omega) | assumption | omega | fail)) (show 0 ≤ u2_135 from by (first | omega | (simp only [st_s] <;> omega) | assumption | omega | fail)) (show u2_135 ≤ 999 from by (first | omega | (simp only [st_s] <;> omega) | assumption | omega | fail)) (show 0 ≤ u1_135 from by (first | omega | (simp only [st_s] <;> omega) | assumption | omega | fail)) (show (τ_135.1 20) = 0 from by (first | omega | (simp only [st_s] <;> omega) | assumption | omega | fail)) (show τ_135.2.1 15 (τ_135.1 22) = 1 from by (first | omega | (simp only [st_s] <;> omega) | assumption | omega | fail)) (show (τ_135.1 6) < 30000 from by (first | omega | (simp only [st_s] <;> omega) | assumption | omega | fail)) (show τ_135.2.1 11 = σ.2.1 11 from by (first | exact i135_19 | fail)) (show τ_135.2.1 31 = σ.2.1 31 from by (first | exact i135_20 | fail)) (show τ_135.2.1 13 = σ.2.1 13 from by (first | exact i135_21 | fail)) (show τ_135.2.1 10 = σ.2.1 10 from by (first | exact i135_22 | fail)) (show n_rl σ τ_135 from by (first | exact i135_23 | fail)) (show (τ_135.1 20) = 0 → n_N (τ_135.2.1 14 (τ_135.1 22)) (τ_135.2.1 14 (τ_135.1 22) + τ_135.2.1 15 (τ_135.1 22)) (σ.1 3) (σ.2.1 8) (σ.2.1 11) (τ_135.2.1 12) (τ_135.2.1 16) (τ_135.2.1 17) from by (intro z; first | (exfalso; omega) | exact i135_24 (by omega))) (show u1_135 < (σ.1 3) from by (exact i135_25.resolve_left (by omega))) (show σ.2.1 8 u1_135 = 0 ∨ σ.2.1 11 u1_135 = -1 from by (have w := (i135_26).resolve_left (by omega); first | exact Or.inl (by rw [← G8, ← e_x42]; assumption) | exact Or.inr ((w.resolve_left (by rw [← G8, ← e_x42]; assumption)).resolve_left (by rw [← e_x44]; assumption)))) (show u2_135 = τ_135.2.1 16 (τ_135.2.1 14 (τ_135.1 22)) from by exact i135_27)
      ·
        intro x44 r_x44 e_x44
        have b_x44 : 0 ≤ x44 ∧ x44 ≤ 1 := by rw [e_x44]; exact hT.2 9 _
        refine ⟨fun c45 => ?_, fun c45 => ?_⟩
        ·
          exact l_167 _ _ _ hT ag (show τ_135.1 0 = σ.1 0 from by first | exact W0 | omega) (show τ_135.1 3 = σ.1 3 from by first | exact W3 | omega) (show τ_135.1 7 = σ.1 7 from by first | exact W7 | omega) (show τ_135.1 8 = σ.1 8 from by first | exact W8 | omega) (show τ_135.1 9 = σ.1 9 from by first | exact W9 | omega) (show τ_135.1 10 = σ.1 10 from by first | exact W10 | omega) (show τ_135.1 11 = σ.1 11 from by first | exact W11 | omega) (show τ_135.1 15 = σ.1 15 from by first | exact W15 | omega) (show τ_135.1 22 = σ.1 22 from by first | exact W22 | omega) G6 G7 G8 G9 G14 G35 (show (τ_135.1 16) ≤ (τ_135.1 0) from by (first | omega | (simp only [st_s] <;> omega) | assumption | omega | fail)) (show (τ_135.1 17) + (τ_135.1 18) ≤ (τ_135.1 0) from by (first | omega | (simp only [st_s] <;> omega) | assumption | omega | fail)) (show oc (τ_135.2.1 6) < 4096 from by (first | omega | (simp only [st_s] <;> omega) | assumption | omega | fail)) (show oc (τ_135.2.1 7) < 4096 from by (first | omega | (simp only [st_s] <;> omega) | assumption | omega | fail)) (show ¬ (σ.1 20) = 0 → (τ_135.1 20) = (σ.1 20) from by (first | omega | (simp only [st_s] <;> omega) | assumption | omega | fail)) (show τ_135.2.1 14 (τ_135.1 22) + τ_135.2.1 15 (τ_135.1 22) = (τ_135.1 6) from Z1) (show ca (τ_135.2.1 12) ((τ_135.1 3)) ≤ (τ_135.1 4) from Y20) (show (τ_135.1 5) = (σ.1 5) from by (first | omega | (simp only [st_s] <;> omega) | assumption | omega | fail)) (show (τ_135.1 13) = (σ.1 13) from by (first | omega | (simp only [st_s] <;> omega) | assumption | omega | fail)) (show τ_135.2.1 15 (τ_135.1 22) ≤ 2 from by (first | omega | (simp only [st_s] <;> omega) | assumption | omega | fail)) (show (σ.1 16) ≤ (τ_135.1 16) from by (first | omega | (simp only [st_s] <;> omega) | assumption | omega | fail)) (show -1 ≤ u1_135 from by (first | omega | (simp only [st_s] <;> omega) | assumption | omega | fail)) (show u1_135 ≤ 999 from by (first | omega | (simp only [st_s] <;> omega) | assumption | omega | fail)) (show 0 ≤ u2_135 from by (first | omega | (simp only [st_s] <;> omega) | assumption | omega | fail)) (show u2_135 ≤ 999 from by (first | omega | (simp only [st_s] <;> omega) | assumption | omega | fail)) (show 0 ≤ u1_135 from by (first | omega | (simp only [st_s] <;> omega) | assumption | omega | fail)) (show (τ_135.1 20) = 0 from by (first | omega | (simp only [st_s] <;> omega) | assumption | omega | fail)) (show τ_135.2.1 15 (τ_135.1 22) = 1 from by (first | omega | (simp only [st_s] <;> omega) | assumption | omega | fail)) (show (τ_135.1 6) < 30000 from by (first | omega | (simp only [st_s] <;> omega) | assumption | omega | fail)) (show τ_135.2.1 11 = σ.2.1 11 from by (first | exact i135_19 | fail)) (show τ_135.2.1 31 = σ.2.1 31 from by (first | exact i135_20 | fail)) (show τ_135.2.1 13 = σ.2.1 13 from by (first | exact i135_21 | fail)) (show τ_135.2.1 10 = σ.2.1 10 from by (first | exact i135_22 | fail)) (show n_rl σ τ_135 from by (first | exact i135_23 | fail)) (show (τ_135.1 20) = 0 → n_N (τ_135.2.1 14 (τ_135.1 22)) (τ_135.2.1 14 (τ_135.1 22) + τ_135.2.1 15 (τ_135.1 22)) (σ.1 3) (σ.2.1 8) (σ.2.1 11) (τ_135.2.1 12) (τ_135.2.1 16) (τ_135.2.1 17) from by (intro z; first | (exfalso; omega) | exact i135_24 (by omega))) (show u1_135 < (σ.1 3) from by (exact i135_25.resolve_left (by omega))) (show σ.2.1 8 u1_135 = 0 ∨ σ.2.1 11 u1_135 = -1 from by (have w := (i135_26).resolve_left (by omega); first | exact Or.inl (by rw [← G8, ← e_x42]; assumption) | exact Or.inr ((w.resolve_left (by rw [← G8, ← e_x42]; assumption)).resolve_left (by rw [← e_x44]; assumption)))) (show u2_135 = τ_135.2.1 16 (τ_135.2.1 14 (τ_135.1 22)) from by exact i135_27)
        ·
          refine h158 _ _ _ ?_
          refine ⟨_, K_X13_failHere hT (show 0 ≤ (9 : Int) from by (first | omega | (simp only [st_s] <;> omega) | assumption | omega | fail)) (show (9 : Int) ≤ 19 from by (first | omega | (simp only [st_s] <;> omega) | assumption | omega | fail)), ?_⟩
          intro τ60 hn_τ60 hf_τ60 hq
          obtain ⟨hT, q58_1, q58_2⟩ := hq
          replace q58_1 : ¬ (τ_135.1 20) = 0 → (τ60.1 20) = (τ_135.1 20) := q58_1
          replace q58_2 : (τ_135.1 20) = 0 → (τ60.1 20) = (9 : Int) := q58_2
          replace ag : m_ag σ τ60 := ag_r ag hf_τ60 rfl rfl
          have w0_τ60 : τ60.1 0 = τ_135.1 0 := hf_τ60.1 0 (by decide)
          have w3_τ60 : τ60.1 3 = τ_135.1 3 := hf_τ60.1 3 (by decide)
          have w4_τ60 : τ60.1 4 = τ_135.1 4 := hf_τ60.1 4 (by decide)
          have w5_τ60 : τ60.1 5 = τ_135.1 5 := hf_τ60.1 5 (by decide)
          have w6_τ60 : τ60.1 6 = τ_135.1 6 := hf_τ60.1 6 (by decide)
          have w7_τ60 : τ60.1 7 = τ_135.1 7 := hf_τ60.1 7 (by decide)
          have w8_τ60 : τ60.1 8 = τ_135.1 8 := hf_τ60.1 8 (by decide)
          have w9_τ60 : τ60.1 9 = τ_135.1 9 := hf_τ60.1 9 (by decide)
          have w10_τ60 : τ60.1 10 = τ_135.1 10 := hf_τ60.1 10 (by decide)
          have w11_τ60 : τ60.1 11 = τ_135.1 11 := hf_τ60.1 11 (by decide)
          have w13_τ60 : τ60.1 13 = τ_135.1 13 := hf_τ60.1 13 (by decide)
          have w15_τ60 : τ60.1 15 = τ_135.1 15 := hf_τ60.1 15 (by decide)
          have w16_τ60 : τ60.1 16 = τ_135.1 16 := hf_τ60.1 16 (by decide)
          have w17_τ60 : τ60.1 17 = τ_135.1 17 := hf_τ60.1 17 (by decide)
          have w18_τ60 : τ60.1 18 = τ_135.1 18 := hf_τ60.1 18 (by decide)
          have w19_τ60 : τ60.1 19 = τ_135.1 19 := hf_τ60.1 19 (by decide)
          have w22_τ60 : τ60.1 22 = τ_135.1 22 := hf_τ60.1 22 (by decide)
          have g6_τ60 : τ60.2.1 6 = τ_135.2.1 6 := hf_τ60.2.1 6 (by decide)
          have g7_τ60 : τ60.2.1 7 = τ_135.2.1 7 := hf_τ60.2.1 7 (by decide)
          have g8_τ60 : τ60.2.1 8 = τ_135.2.1 8 := hf_τ60.2.1 8 (by decide)
          have g9_τ60 : τ60.2.1 9 = τ_135.2.1 9 := hf_τ60.2.1 9 (by decide)
          have g10_τ60 : τ60.2.1 10 = τ_135.2.1 10 := hf_τ60.2.1 10 (by decide)
          have g11_τ60 : τ60.2.1 11 = τ_135.2.1 11 := hf_τ60.2.1 11 (by decide)
          have g12_τ60 : τ60.2.1 12 = τ_135.2.1 12 := hf_τ60.2.1 12 (by decide)
          have g13_τ60 : τ60.2.1 13 = τ_135.2.1 13 := hf_τ60.2.1 13 (by decide)
          have g14_τ60 : τ60.2.1 14 = τ_135.2.1 14 := hf_τ60.2.1 14 (by decide)
          have g15_τ60 : τ60.2.1 15 = τ_135.2.1 15 := hf_τ60.2.1 15 (by decide)
          have g16_τ60 : τ60.2.1 16 = τ_135.2.1 16 := hf_τ60.2.1 16 (by decide)
          have g17_τ60 : τ60.2.1 17 = τ_135.2.1 17 := hf_τ60.2.1 17 (by decide)
          have g31_τ60 : τ60.2.1 31 = τ_135.2.1 31 := hf_τ60.2.1 31 (by decide)
          have g35_τ60 : τ60.2.1 35 = τ_135.2.1 35 := hf_τ60.2.1 35 (by decide)
          first | (have ca_τ60 := congr (congrArg ca g9_τ60) w3_τ60) | skip
          first | (have o6_τ60 := congrArg oc g6_τ60) | skip
          first | (have o7_τ60 := congrArg oc g7_τ60) | skip
          have W0 : τ60.1 0 = σ.1 0 := by first | exact w0_τ60.trans W0 | omega
          have W3 : τ60.1 3 = σ.1 3 := by first | exact w3_τ60.trans W3 | omega
          have W7 : τ60.1 7 = σ.1 7 := by first | exact w7_τ60.trans W7 | omega
          have W8 : τ60.1 8 = σ.1 8 := by first | exact w8_τ60.trans W8 | omega
          have W9 : τ60.1 9 = σ.1 9 := by first | exact w9_τ60.trans W9 | omega
          have W10 : τ60.1 10 = σ.1 10 := by first | exact w10_τ60.trans W10 | omega
          have W11 : τ60.1 11 = σ.1 11 := by first | exact w11_τ60.trans W11 | omega
          have W15 : τ60.1 15 = σ.1 15 := by first | exact w15_τ60.trans W15 | omega
          have W22 : τ60.1 22 = σ.1 22 := by first | exact w22_τ60.trans W22 | omega
          have G6 : τ60.2.1 6 = σ.2.1 6 := (g6_τ60).trans G6
          have G7 : τ60.2.1 7 = σ.2.1 7 := (g7_τ60).trans G7
          have G8 : τ60.2.1 8 = σ.2.1 8 := (g8_τ60).trans G8
          have G9 : τ60.2.1 9 = σ.2.1 9 := (g9_τ60).trans G9
          have G14 : τ60.2.1 14 = σ.2.1 14 := (g14_τ60).trans G14
          have G35 : τ60.2.1 35 = σ.2.1 35 := (g35_τ60).trans G35
          have y14_22_τ60 : τ60.2.1 14 (τ60.1 22) = (τ_135.2.1 14) (τ_135.1 22) := by rw [g14_τ60, w22_τ60]
          have y15_22_τ60 : τ60.2.1 15 (τ60.1 22) = (τ_135.2.1 15) (τ_135.1 22) := by rw [g15_τ60, w22_τ60]
          have Z1 : τ60.2.1 14 (τ60.1 22) + τ60.2.1 15 (τ60.1 22) = (τ60.1 6) := by rw [show (τ60.2.1 14 (τ60.1 22) + τ60.2.1 15 (τ60.1 22) = (τ60.1 6)) = (τ_135.2.1 14 (τ_135.1 22) + τ_135.2.1 15 (τ_135.1 22) = (τ_135.1 6)) from by rw [w6_τ60, w22_τ60, g14_τ60, g15_τ60]]; exact Z1
          have Y20 : ca (τ60.2.1 12) ((τ60.1 3)) ≤ (τ60.1 4) := by rw [show (ca (τ60.2.1 12) ((τ60.1 3)) ≤ (τ60.1 4)) = (ca (τ_135.2.1 12) ((τ_135.1 3)) ≤ (τ_135.1 4)) from by rw [w3_τ60, w4_τ60, g12_τ60]]; exact Y20
          have Y1 : j_l2 (τ60.2.1 6) (τ60.1 3) := by rw [show (j_l2 (τ60.2.1 6) (τ60.1 3)) = (j_l2 (τ_135.2.1 6) (τ_135.1 3)) from by rw [w3_τ60, g6_τ60]]; exact Y1
          have STt : j_l2 (τ60.2.1 6) (τ60.1 3) := by rw [show (j_l2 (τ60.2.1 6) (τ60.1 3)) = (j_l2 (τ_135.2.1 6) (τ_135.1 3)) from by rw [w3_τ60, g6_τ60]]; exact STt
          have A6 : ∀ j, (-1) ≤ τ60.2.1 6 j ∧ τ60.2.1 6 j ≤ 999 := fun j => hT.2 6 j
          have A7 : ∀ j, (-1) ≤ τ60.2.1 7 j ∧ τ60.2.1 7 j ≤ 1499 := fun j => hT.2 7 j
          have A8 : ∀ j, 0 ≤ τ60.2.1 8 j ∧ τ60.2.1 8 j ≤ 1 := fun j => hT.2 8 j
          have A9 : ∀ j, 0 ≤ τ60.2.1 9 j ∧ τ60.2.1 9 j ≤ 1 := fun j => hT.2 9 j
          have A10 : ∀ j, (-1) ≤ τ60.2.1 10 j ∧ τ60.2.1 10 j ≤ 999 := fun j => hT.2 10 j
          have A11 : ∀ j, (-1) ≤ τ60.2.1 11 j ∧ τ60.2.1 11 j ≤ 1499 := fun j => hT.2 11 j
          have A12 : ∀ j, 0 ≤ τ60.2.1 12 j ∧ τ60.2.1 12 j ≤ 1 := fun j => hT.2 12 j
          have A13 : ∀ j, 0 ≤ τ60.2.1 13 j ∧ τ60.2.1 13 j ≤ 4 := fun j => hT.2 13 j
          have A14 : ∀ j, 0 ≤ τ60.2.1 14 j ∧ τ60.2.1 14 j ≤ 30000 := fun j => hT.2 14 j
          have A15 : ∀ j, 0 ≤ τ60.2.1 15 j ∧ τ60.2.1 15 j ≤ 300 := fun j => hT.2 15 j
          have A16 : ∀ j, 0 ≤ τ60.2.1 16 j ∧ τ60.2.1 16 j ≤ 999 := fun j => hT.2 16 j
          have A17 : ∀ j, (-1) ≤ τ60.2.1 17 j ∧ τ60.2.1 17 j ≤ 1499 := fun j => hT.2 17 j
          have A31 : ∀ j, 0 ≤ τ60.2.1 31 j ∧ τ60.2.1 31 j ≤ 1499 := fun j => hT.2 31 j
          have A35 : ∀ j, 0 ≤ τ60.2.1 35 j ∧ τ60.2.1 35 j ≤ 1500 := fun j => hT.2 35 j
          have v0 : 0 ≤ τ60.1 0 ∧ τ60.1 0 ≤ 60000 := hT.1 0
          have v3 : 0 ≤ τ60.1 3 ∧ τ60.1 3 ≤ 1000 := hT.1 3
          have v4 : 0 ≤ τ60.1 4 ∧ τ60.1 4 ≤ 100 := hT.1 4
          have v5 : 0 ≤ τ60.1 5 ∧ τ60.1 5 ≤ 1500 := hT.1 5
          have v6 : 0 ≤ τ60.1 6 ∧ τ60.1 6 ≤ 30000 := hT.1 6
          have v7 : 0 ≤ τ60.1 7 ∧ τ60.1 7 ≤ 90000 := hT.1 7
          have v8 : 0 ≤ τ60.1 8 ∧ τ60.1 8 ≤ 20000 := hT.1 8
          have v9 : 0 ≤ τ60.1 9 ∧ τ60.1 9 ≤ 20000 := hT.1 9
          have v10 : (-1) ≤ τ60.1 10 ∧ τ60.1 10 ≤ 999 := hT.1 10
          have v11 : (-1) ≤ τ60.1 11 ∧ τ60.1 11 ≤ 999 := hT.1 11
          have v13 : 0 ≤ τ60.1 13 ∧ τ60.1 13 ≤ 1500 := hT.1 13
          have v15 : 0 ≤ τ60.1 15 ∧ τ60.1 15 ≤ 50 := hT.1 15
          have v16 : 0 ≤ τ60.1 16 ∧ τ60.1 16 ≤ 60000 := hT.1 16
          have v17 : 0 ≤ τ60.1 17 ∧ τ60.1 17 ≤ 60000 := hT.1 17
          have v18 : 0 ≤ τ60.1 18 ∧ τ60.1 18 ≤ 60000 := hT.1 18
          have v19 : (-1) ≤ τ60.1 19 ∧ τ60.1 19 ≤ 125 := hT.1 19
          have v20 : 0 ≤ τ60.1 20 ∧ τ60.1 20 ≤ 19 := hT.1 20
          have v22 : 0 ≤ τ60.1 22 ∧ τ60.1 22 ≤ 1499 := hT.1 22
          have a14_22 : 0 ≤ τ60.2.1 14 (τ60.1 22) ∧ τ60.2.1 14 (τ60.1 22) ≤ 30000 := hT.2 14 _
          have a15_22 : 0 ≤ τ60.2.1 15 (τ60.1 22) ∧ τ60.2.1 15 (τ60.1 22) ≤ 300 := hT.2 15 _
          have av5 : σ.1 5 ≤ τ60.1 5 := ag.1 5 (by decide)
          have av6 : σ.1 6 ≤ τ60.1 6 := ag.1 6 (by decide)
          exact l_211 _ _ _ hT ag (show τ60.1 0 = σ.1 0 from by first | exact W0 | omega) (show τ60.1 3 = σ.1 3 from by first | exact W3 | omega) (show τ60.1 7 = σ.1 7 from by first | exact W7 | omega) (show τ60.1 8 = σ.1 8 from by first | exact W8 | omega) (show τ60.1 9 = σ.1 9 from by first | exact W9 | omega) (show τ60.1 10 = σ.1 10 from by first | exact W10 | omega) (show τ60.1 11 = σ.1 11 from by first | exact W11 | omega) (show τ60.1 15 = σ.1 15 from by first | exact W15 | omega) (show τ60.1 22 = σ.1 22 from by first | exact W22 | omega) G6 G7 G8 G9 G14 G35 (show (τ60.1 16) ≤ (τ60.1 0) from by (first | omega | (simp only [st_s] <;> omega) | assumption | omega | fail)) (show (τ60.1 17) + (τ60.1 18) ≤ (τ60.1 0) from by (first | omega | (simp only [st_s] <;> omega) | assumption | omega | fail)) (show oc (τ60.2.1 6) < 4096 from by (first | omega | (simp only [st_s] <;> omega) | assumption | omega | fail)) (show oc (τ60.2.1 7) < 4096 from by (first | omega | (simp only [st_s] <;> omega) | assumption | omega | fail)) (show ¬ (σ.1 20) = 0 → (τ60.1 20) = (σ.1 20) from by (first | omega | (simp only [st_s] <;> omega) | assumption | omega | fail)) (show τ60.2.1 14 (τ60.1 22) + τ60.2.1 15 (τ60.1 22) = (τ60.1 6) from Z1) (show ca (τ60.2.1 12) ((τ60.1 3)) ≤ (τ60.1 4) from Y20) (show (τ60.1 5) = (σ.1 5) from by (first | omega | (simp only [st_s] <;> omega) | assumption | omega | fail)) (show (τ60.1 13) = (σ.1 13) from by (first | omega | (simp only [st_s] <;> omega) | assumption | omega | fail)) (show τ60.2.1 15 (τ60.1 22) ≤ 2 from by (first | omega | (simp only [st_s] <;> omega) | assumption | omega | fail)) (show (σ.1 16) ≤ (τ60.1 16) from by (first | omega | (simp only [st_s] <;> omega) | assumption | omega | fail)) (show -1 ≤ u1_135 from by (first | omega | (simp only [st_s] <;> omega) | assumption | omega | fail)) (show u1_135 ≤ 999 from by (first | omega | (simp only [st_s] <;> omega) | assumption | omega | fail)) (show 0 ≤ u2_135 from by (first | omega | (simp only [st_s] <;> omega) | assumption | omega | fail)) (show u2_135 ≤ 999 from by (first | omega | (simp only [st_s] <;> omega) | assumption | omega | fail)) (show (τ60.1 20) = 0 → 0 ≤ u1_135 ∧ τ60.2.1 15 (τ60.1 22) = 1 ∧ (τ60.1 6) < 30000 from by (first | omega | (simp only [st_s] <;> omega) | assumption | omega | fail)) (show τ60.2.1 11 = σ.2.1 11 from by (first | exact i47_13 | exact i135_19 | exact i167_20 | (rw [g11_τ36]; exact i47_13) | (rw [g11_τ39]; exact i47_13) | (rw [g11_τ60]; exact i47_13) | (rw [g11_τ70]; exact i47_13) | (rw [g11_τ73]; exact i47_13) | (rw [g11_τ36]; exact i135_19) | (rw [g11_τ39]; exact i135_19) | (rw [g11_τ60]; exact i135_19) | (rw [g11_τ70]; exact i135_19) | (rw [g11_τ73]; exact i135_19) | (rw [g11_τ36]; exact i167_20) | (rw [g11_τ39]; exact i167_20) | (rw [g11_τ60]; exact i167_20) | (rw [g11_τ70]; exact i167_20) | (rw [g11_τ73]; exact i167_20) | fail)) (show τ60.2.1 31 = σ.2.1 31 from by (first | exact i47_14 | exact i135_20 | exact i167_21 | (rw [g31_τ36]; exact i47_14) | (rw [g31_τ39]; exact i47_14) | (rw [g31_τ60]; exact i47_14) | (rw [g31_τ70]; exact i47_14) | (rw [g31_τ73]; exact i47_14) | (rw [g31_τ36]; exact i135_20) | (rw [g31_τ39]; exact i135_20) | (rw [g31_τ60]; exact i135_20) | (rw [g31_τ70]; exact i135_20) | (rw [g31_τ73]; exact i135_20) | (rw [g31_τ36]; exact i167_21) | (rw [g31_τ39]; exact i167_21) | (rw [g31_τ60]; exact i167_21) | (rw [g31_τ70]; exact i167_21) | (rw [g31_τ73]; exact i167_21) | fail)) (show τ60.2.1 13 = σ.2.1 13 from by (first | exact i47_15 | exact i135_21 | exact i167_22 | (rw [g13_τ36]; exact i47_15) | (rw [g13_τ39]; exact i47_15) | (rw [g13_τ60]; exact i47_15) | (rw [g13_τ70]; exact i47_15) | (rw [g13_τ73]; exact i47_15) | (rw [g13_τ36]; exact i135_21) | (rw [g13_τ39]; exact i135_21) | (rw [g13_τ60]; exact i135_21) | (rw [g13_τ70]; exact i135_21) | (rw [g13_τ73]; exact i135_21) | (rw [g13_τ36]; exact i167_22) | (rw [g13_τ39]; exact i167_22) | (rw [g13_τ60]; exact i167_22) | (rw [g13_τ70]; exact i167_22) | (rw [g13_τ73]; exact i167_22) | fail)) (show τ60.2.1 10 = σ.2.1 10 from by (first | exact i47_16 | exact i135_22 | exact i167_23 | (rw [g10_τ36]; exact i47_16) | (rw [g10_τ39]; exact i47_16) | (rw [g10_τ60]; exact i47_16) | (rw [g10_τ70]; exact i47_16) | (rw [g10_τ73]; exact i47_16) | (rw [g10_τ36]; exact i135_22) | (rw [g10_τ39]; exact i135_22) | (rw [g10_τ60]; exact i135_22) | (rw [g10_τ70]; exact i135_22) | (rw [g10_τ73]; exact i135_22) | (rw [g10_τ36]; exact i167_23) | (rw [g10_τ39]; exact i167_23) | (rw [g10_τ60]; exact i167_23) | (rw [g10_τ70]; exact i167_23) | (rw [g10_τ73]; exact i167_23) | fail)) (show n_rl σ τ60 from by (first | exact i47_17 | exact n_rl_r i47_17 hf_τ36 rfl rfl | exact n_rl_r i47_17 hf_τ39 rfl rfl | exact n_rl_r i47_17 hf_τ60 rfl rfl | exact n_rl_r i47_17 hf_τ70 rfl rfl | exact n_rl_r i47_17 hf_τ73 rfl rfl | exact i135_23 | exact n_rl_r i135_23 hf_τ36 rfl rfl | exact n_rl_r i135_23 hf_τ39 rfl rfl | exact n_rl_r i135_23 hf_τ60 rfl rfl | exact n_rl_r i135_23 hf_τ70 rfl rfl | exact n_rl_r i135_23 hf_τ73 rfl rfl | exact i167_24 | exact n_rl_r i167_24 hf_τ36 rfl rfl | exact n_rl_r i167_24 hf_τ39 rfl rfl | exact n_rl_r i167_24 hf_τ60 rfl rfl | exact n_rl_r i167_24 hf_τ70 rfl rfl | exact n_rl_r i167_24 hf_τ73 rfl rfl | fail)) (show (τ60.1 20) = 0 → n_N (τ60.2.1 14 (τ60.1 22)) (τ60.2.1 14 (τ60.1 22) + τ60.2.1 15 (τ60.1 22)) (σ.1 3) (σ.2.1 8) (σ.2.1 11) (τ60.2.1 12) (τ60.2.1 16) (τ60.2.1 17) from by (intro z; first | (exfalso; omega) | exact i47_18 (by omega) | (rw [g14_τ36, g15_τ36, g12_τ36, g16_τ36, g17_τ36, w22_τ36]; exact i47_18 (by omega)) | (rw [g14_τ39, g15_τ39, g12_τ39, g16_τ39, g17_τ39, w22_τ39]; exact i47_18 (by omega)) | (rw [g14_τ60, g15_τ60, g12_τ60, g16_τ60, g17_τ60, w22_τ60]; exact i47_18 (by omega)) | (rw [g14_τ70, g15_τ70, g12_τ70, g16_τ70, g17_τ70, w22_τ70]; exact i47_18 (by omega)) | (rw [g14_τ73, g15_τ73, g12_τ73, g16_τ73, g17_τ73, w22_τ73]; exact i47_18 (by omega)) | exact i135_24 (by omega) | (rw [g14_τ36, g15_τ36, g12_τ36, g16_τ36, g17_τ36, w22_τ36]; exact i135_24 (by omega)) | (rw [g14_τ39, g15_τ39, g12_τ39, g16_τ39, g17_τ39, w22_τ39]; exact i135_24 (by omega)) | (rw [g14_τ60, g15_τ60, g12_τ60, g16_τ60, g17_τ60, w22_τ60]; exact i135_24 (by omega)) | (rw [g14_τ70, g15_τ70, g12_τ70, g16_τ70, g17_τ70, w22_τ70]; exact i135_24 (by omega)) | (rw [g14_τ73, g15_τ73, g12_τ73, g16_τ73, g17_τ73, w22_τ73]; exact i135_24 (by omega)) | exact i167_25 (by omega) | (rw [g14_τ36, g15_τ36, g12_τ36, g16_τ36, g17_τ36, w22_τ36]; exact i167_25 (by omega)) | (rw [g14_τ39, g15_τ39, g12_τ39, g16_τ39, g17_τ39, w22_τ39]; exact i167_25 (by omega)) | (rw [g14_τ60, g15_τ60, g12_τ60, g16_τ60, g17_τ60, w22_τ60]; exact i167_25 (by omega)) | (rw [g14_τ70, g15_τ70, g12_τ70, g16_τ70, g17_τ70, w22_τ70]; exact i167_25 (by omega)) | (rw [g14_τ73, g15_τ73, g12_τ73, g16_τ73, g17_τ73, w22_τ73]; exact i167_25 (by omega)))) (show (τ60.1 20) = 0 → u1_135 < (σ.1 3) ∧ ¬ σ.2.1 8 u1_135 = 0 ∧ σ.2.1 11 u1_135 = -1 ∧ (σ.2.1 10 u1_135 = -1 ∨ σ.2.1 10 u1_135 = u2_135) from by (intro z; first | (exfalso; omega) | exact ⟨i167_26, by rw [← G8, ← e_x62]; assumption, i167_27.resolve_left (by rw [← G8, ← e_x62]; assumption), by first | exact Or.inl (by rw [← i167_23, ← e_x64]; assumption) | exact Or.inr (by rw [← i167_23, ← e_x66]; assumption)⟩)) (show u2_135 = τ60.2.1 16 (τ60.2.1 14 (τ60.1 22)) from by (first | exact i167_28 | (rw [g16_τ60, g14_τ60, w22_τ60]; exact i135_27) | (rw [g16_τ70, g14_τ70, w22_τ70]; exact i167_28) | (rw [g16_τ73, g14_τ73, w22_τ73]; exact i167_28) | (rw [g16_τ36, g14_τ36, w22_τ36, e_x24, e_x22]) | (rw [g16_τ39, g14_τ39, w22_τ39, e_x24, e_x22]) | fail))
  have l_47 : ∀ (τ_47 : S0), (m_T τ_47) → (m_ag σ τ_47) → (τ_47.1 0 = σ.1 0) → (τ_47.1 3 = σ.1 3) → (τ_47.1 7 = σ.1 7) → (τ_47.1 8 = σ.1 8) → (τ_47.1 9 = σ.1 9) → (τ_47.1 10 = σ.1 10) → (τ_47.1 11 = σ.1 11) → (τ_47.1 15 = σ.1 15) → (τ_47.1 22 = σ.1 22) → (τ_47.2.1 6 = σ.2.1 6) → (τ_47.2.1 7 = σ.2.1 7) → (τ_47.2.1 8 = σ.2.1 8) → (τ_47.2.1 9 = σ.2.1 9) → (τ_47.2.1 14 = σ.2.1 14) → (τ_47.2.1 35 = σ.2.1 35) → ((τ_47.1 16) ≤ (τ_47.1 0)) → ((τ_47.1 17) + (τ_47.1 18) ≤ (τ_47.1 0)) → (oc (τ_47.2.1 6) < 4096) → (oc (τ_47.2.1 7) < 4096) → (¬ (σ.1 20) = 0 → (τ_47.1 20) = (σ.1 20)) → (τ_47.2.1 14 (τ_47.1 22) + τ_47.2.1 15 (τ_47.1 22) = (τ_47.1 6)) → (ca (τ_47.2.1 12) ((τ_47.1 3)) ≤ (τ_47.1 4)) → ((τ_47.1 5) = (σ.1 5)) → ((τ_47.1 13) = (σ.1 13)) → (τ_47.2.1 15 (τ_47.1 22) ≤ 2) → ((σ.1 16) ≤ (τ_47.1 16)) → ((τ_47.1 20) = 0 → τ_47.2.1 15 (τ_47.1 22) = 1) → (τ_47.2.1 11 = σ.2.1 11) → (τ_47.2.1 31 = σ.2.1 31) → (τ_47.2.1 13 = σ.2.1 13) → (τ_47.2.1 10 = σ.2.1 10) → (n_rl σ τ_47) → ((τ_47.1 20) = 0 → n_N (τ_47.2.1 14 (τ_47.1 22)) (τ_47.2.1 14 (τ_47.1 22) + τ_47.2.1 15 (τ_47.1 22)) (σ.1 3) (σ.2.1 8) (σ.2.1 11) (τ_47.2.1 12) (τ_47.2.1 16) (τ_47.2.1 17)) → P47 τ_47 := by
    intro τ_47 hT ag W0 W3 W7 W8 W9 W10 W11 W15 W22 G6 G7 G8 G9 G14 G35 i47_1 i47_2 i47_3 i47_4 i47_5 i47_6 i47_7 i47_8 i47_9 i47_10 i47_11 i47_12 i47_13 i47_14 i47_15 i47_16 i47_17 i47_18
    have A6 : ∀ j, (-1) ≤ τ_47.2.1 6 j ∧ τ_47.2.1 6 j ≤ 999 := fun j => hT.2 6 j
    have A7 : ∀ j, (-1) ≤ τ_47.2.1 7 j ∧ τ_47.2.1 7 j ≤ 1499 := fun j => hT.2 7 j
    have A8 : ∀ j, 0 ≤ τ_47.2.1 8 j ∧ τ_47.2.1 8 j ≤ 1 := fun j => hT.2 8 j
    have A9 : ∀ j, 0 ≤ τ_47.2.1 9 j ∧ τ_47.2.1 9 j ≤ 1 := fun j => hT.2 9 j
    have A10 : ∀ j, (-1) ≤ τ_47.2.1 10 j ∧ τ_47.2.1 10 j ≤ 999 := fun j => hT.2 10 j
    have A11 : ∀ j, (-1) ≤ τ_47.2.1 11 j ∧ τ_47.2.1 11 j ≤ 1499 := fun j => hT.2 11 j
    have A12 : ∀ j, 0 ≤ τ_47.2.1 12 j ∧ τ_47.2.1 12 j ≤ 1 := fun j => hT.2 12 j
    have A13 : ∀ j, 0 ≤ τ_47.2.1 13 j ∧ τ_47.2.1 13 j ≤ 4 := fun j => hT.2 13 j
    have A14 : ∀ j, 0 ≤ τ_47.2.1 14 j ∧ τ_47.2.1 14 j ≤ 30000 := fun j => hT.2 14 j
    have A15 : ∀ j, 0 ≤ τ_47.2.1 15 j ∧ τ_47.2.1 15 j ≤ 300 := fun j => hT.2 15 j
    have A16 : ∀ j, 0 ≤ τ_47.2.1 16 j ∧ τ_47.2.1 16 j ≤ 999 := fun j => hT.2 16 j
    have A17 : ∀ j, (-1) ≤ τ_47.2.1 17 j ∧ τ_47.2.1 17 j ≤ 1499 := fun j => hT.2 17 j
    have A31 : ∀ j, 0 ≤ τ_47.2.1 31 j ∧ τ_47.2.1 31 j ≤ 1499 := fun j => hT.2 31 j
    have A35 : ∀ j, 0 ≤ τ_47.2.1 35 j ∧ τ_47.2.1 35 j ≤ 1500 := fun j => hT.2 35 j
    have v0 : 0 ≤ τ_47.1 0 ∧ τ_47.1 0 ≤ 60000 := hT.1 0
    have v3 : 0 ≤ τ_47.1 3 ∧ τ_47.1 3 ≤ 1000 := hT.1 3
    have v4 : 0 ≤ τ_47.1 4 ∧ τ_47.1 4 ≤ 100 := hT.1 4
    have v5 : 0 ≤ τ_47.1 5 ∧ τ_47.1 5 ≤ 1500 := hT.1 5
    have v6 : 0 ≤ τ_47.1 6 ∧ τ_47.1 6 ≤ 30000 := hT.1 6
    have v7 : 0 ≤ τ_47.1 7 ∧ τ_47.1 7 ≤ 90000 := hT.1 7
    have v8 : 0 ≤ τ_47.1 8 ∧ τ_47.1 8 ≤ 20000 := hT.1 8
    have v9 : 0 ≤ τ_47.1 9 ∧ τ_47.1 9 ≤ 20000 := hT.1 9
    have v10 : (-1) ≤ τ_47.1 10 ∧ τ_47.1 10 ≤ 999 := hT.1 10
    have v11 : (-1) ≤ τ_47.1 11 ∧ τ_47.1 11 ≤ 999 := hT.1 11
    have v13 : 0 ≤ τ_47.1 13 ∧ τ_47.1 13 ≤ 1500 := hT.1 13
    have v15 : 0 ≤ τ_47.1 15 ∧ τ_47.1 15 ≤ 50 := hT.1 15
    have v16 : 0 ≤ τ_47.1 16 ∧ τ_47.1 16 ≤ 60000 := hT.1 16
    have v17 : 0 ≤ τ_47.1 17 ∧ τ_47.1 17 ≤ 60000 := hT.1 17
    have v18 : 0 ≤ τ_47.1 18 ∧ τ_47.1 18 ≤ 60000 := hT.1 18
    have v19 : (-1) ≤ τ_47.1 19 ∧ τ_47.1 19 ≤ 125 := hT.1 19
    have v20 : 0 ≤ τ_47.1 20 ∧ τ_47.1 20 ≤ 19 := hT.1 20
    have v22 : 0 ≤ τ_47.1 22 ∧ τ_47.1 22 ≤ 1499 := hT.1 22
    have a14_22 : 0 ≤ τ_47.2.1 14 (τ_47.1 22) ∧ τ_47.2.1 14 (τ_47.1 22) ≤ 30000 := hT.2 14 _
    have a15_22 : 0 ≤ τ_47.2.1 15 (τ_47.1 22) ∧ τ_47.2.1 15 (τ_47.1 22) ≤ 300 := hT.2 15 _
    have av5 : σ.1 5 ≤ τ_47.1 5 := ag.1 5 (by decide)
    have av6 : σ.1 6 ≤ τ_47.1 6 := ag.1 6 (by decide)
    have y14_22_τ_47 : τ_47.2.1 14 (τ_47.1 22) = σ.2.1 14 (σ.1 22) := by rw [G14, W22]
    have o6_τ_47 := congrArg oc G6
    have o7_τ_47 := congrArg oc G7
    have ca_τ_47 := congr (congrArg ca G9) W3
    have Z1 : τ_47.2.1 14 (τ_47.1 22) + τ_47.2.1 15 (τ_47.1 22) = (τ_47.1 6) := i47_6
    have Y20 : ca (τ_47.2.1 12) ((τ_47.1 3)) ≤ (τ_47.1 4) := i47_7
    have Y1 : j_l2 (τ_47.2.1 6) (τ_47.1 3) := by rw [show (j_l2 (τ_47.2.1 6) (τ_47.1 3)) = (j_l2 (σ.2.1 6) (σ.1 3)) from by rw [W3, G6]]; exact Y1_0
    have STt : j_l2 (τ_47.2.1 6) (τ_47.1 3) := by rw [show (j_l2 (τ_47.2.1 6) (τ_47.1 3)) = (j_l2 (σ.2.1 6) (σ.1 3)) from by rw [W3, G6]]; exact STt_0
    refine h47 τ_47 ?_
    refine ⟨fun c17 => ?_, fun c17 => ?_⟩
    ·
      refine ⟨_, K_X13_symbolHere hT (show (τ_47.1 17) + (τ_47.1 18) ≤ 60000 from by (first | omega | (simp only [st_s] <;> omega) | assumption | omega | fail)) (show oc (τ_47.2.1 6) < 4096 from by (first | omega | (simp only [st_s] <;> omega) | assumption | omega | fail)), ?_⟩
      intro x19 r_x19 hq
      obtain ⟨q18_1, q18_2⟩ := hq
      replace q18_1 : -1 ≤ x19 ∧ x19 ≤ 999 := q18_1
      replace q18_2 : x19 = -1 ∨ ∃ e : Int, (0 ≤ e ∧ e < 4096) ∧ x19 = τ_47.2.1 6 e := q18_2
      have x3lt : ¬ x19 = -1 → x19 < σ.1 3 := fun z => by (have q := q18_2.resolve_left z; obtain ⟨e, e1, e2⟩ := q; rw [e2, G6]; have w := p11 e e1.1 e1.2; omega)
      clear q18_2
      refine ⟨(show 0 ≤ τ_47.1 22 ∧ τ_47.1 22 < 1501 from by (first | omega | (simp only [st_s] <;> omega) | assumption | omega | fail)), ?_⟩
      intro x22 r_x22 e_x22
      have b_x22 : 0 ≤ x22 ∧ x22 ≤ 30000 := by rw [e_x22]; exact hT.2 14 _
      refine ⟨(show 0 ≤ x22 ∧ x22 < 30400 from by (first | omega | (simp only [st_s] <;> omega) | assumption | omega | fail)), ?_⟩
      intro x24 r_x24 e_x24
      have b_x24 : 0 ≤ x24 ∧ x24 ≤ 999 := by rw [e_x24]; exact hT.2 16 _
      refine ⟨fun c25 => ?_, fun c25 => ?_⟩
      ·
        refine ⟨fun c26 => ?_, fun c26 => ?_⟩
        ·
          exact l_135 _ _ _ hT ag (show τ_47.1 0 = σ.1 0 from by first | exact W0 | omega) (show τ_47.1 3 = σ.1 3 from by first | exact W3 | omega) (show τ_47.1 7 = σ.1 7 from by first | exact W7 | omega) (show τ_47.1 8 = σ.1 8 from by first | exact W8 | omega) (show τ_47.1 9 = σ.1 9 from by first | exact W9 | omega) (show τ_47.1 10 = σ.1 10 from by first | exact W10 | omega) (show τ_47.1 11 = σ.1 11 from by first | exact W11 | omega) (show τ_47.1 15 = σ.1 15 from by first | exact W15 | omega) (show τ_47.1 22 = σ.1 22 from by first | exact W22 | omega) G6 G7 G8 G9 G14 G35 (show (τ_47.1 16) ≤ (τ_47.1 0) from by (first | omega | (simp only [st_s] <;> omega) | assumption | omega | fail)) (show (τ_47.1 17) + (τ_47.1 18) ≤ (τ_47.1 0) from by (first | omega | (simp only [st_s] <;> omega) | assumption | omega | fail)) (show oc (τ_47.2.1 6) < 4096 from by (first | omega | (simp only [st_s] <;> omega) | assumption | omega | fail)) (show oc (τ_47.2.1 7) < 4096 from by (first | omega | (simp only [st_s] <;> omega) | assumption | omega | fail)) (show ¬ (σ.1 20) = 0 → (τ_47.1 20) = (σ.1 20) from by (first | omega | (simp only [st_s] <;> omega) | assumption | omega | fail)) (show τ_47.2.1 14 (τ_47.1 22) + τ_47.2.1 15 (τ_47.1 22) = (τ_47.1 6) from Z1) (show ca (τ_47.2.1 12) ((τ_47.1 3)) ≤ (τ_47.1 4) from Y20) (show (τ_47.1 5) = (σ.1 5) from by (first | omega | (simp only [st_s] <;> omega) | assumption | omega | fail)) (show (τ_47.1 13) = (σ.1 13) from by (first | omega | (simp only [st_s] <;> omega) | assumption | omega | fail)) (show τ_47.2.1 15 (τ_47.1 22) ≤ 2 from by (first | omega | (simp only [st_s] <;> omega) | assumption | omega | fail)) (show (σ.1 16) ≤ (τ_47.1 16) from by (first | omega | (simp only [st_s] <;> omega) | assumption | omega | fail)) (show -1 ≤ x19 from by (first | omega | (simp only [st_s] <;> omega) | assumption | omega | fail)) (show x19 ≤ 999 from by (first | omega | (simp only [st_s] <;> omega) | assumption | omega | fail)) (show 0 ≤ x24 from by (first | omega | (simp only [st_s] <;> omega) | assumption | omega | fail)) (show x24 ≤ 999 from by (first | omega | (simp only [st_s] <;> omega) | assumption | omega | fail)) (show (τ_47.1 20) = 0 from by (first | omega | (simp only [st_s] <;> omega) | assumption | omega | fail)) (show τ_47.2.1 15 (τ_47.1 22) = 1 from by (first | omega | (simp only [st_s] <;> omega) | assumption | omega | fail)) (show (τ_47.1 6) < 30000 from by (first | omega | (simp only [st_s] <;> omega) | assumption | omega | fail)) (show τ_47.2.1 11 = σ.2.1 11 from by (first | exact i47_13 | fail)) (show τ_47.2.1 31 = σ.2.1 31 from by (first | exact i47_14 | fail)) (show τ_47.2.1 13 = σ.2.1 13 from by (first | exact i47_15 | fail)) (show τ_47.2.1 10 = σ.2.1 10 from by (first | exact i47_16 | fail)) (show n_rl σ τ_47 from by (first | exact i47_17 | fail)) (show (τ_47.1 20) = 0 → n_N (τ_47.2.1 14 (τ_47.1 22)) (τ_47.2.1 14 (τ_47.1 22) + τ_47.2.1 15 (τ_47.1 22)) (σ.1 3) (σ.2.1 8) (σ.2.1 11) (τ_47.2.1 12) (τ_47.2.1 16) (τ_47.2.1 17) from by (intro z; first | (exfalso; omega) | exact i47_18 (by omega))) (show x19 = -1 ∨ x19 < (σ.1 3) from by (by_cases z : x19 = -1; exact Or.inl z; exact Or.inr (x3lt z))) (show x19 = -1 ∨ σ.2.1 8 x19 = 0 ∨ τ_47.2.1 9 x19 = 0 ∨ σ.2.1 11 x19 = -1 from by (first | exact Or.inl (by assumption) | exact Or.inr (Or.inl (by rw [← G8, ← e_x28]; assumption)) | exact Or.inr (Or.inr (Or.inl (by rw [← e_x30]; assumption))) | exact Or.inr (Or.inr (Or.inr (by rw [← i47_13, ← e_x32]; assumption))) | fail)) (show x24 = τ_47.2.1 16 (τ_47.2.1 14 (τ_47.1 22)) from by (rw [e_x24, e_x22]))
        ·
          refine ⟨(show 0 ≤ x19 ∧ x19 < 1001 from by (first | omega | (simp only [st_s] <;> omega) | assumption | omega | fail)), ?_⟩
          intro x28 r_x28 e_x28
          have b_x28 : 0 ≤ x28 ∧ x28 ≤ 1 := by rw [e_x28]; exact hT.2 8 _
          refine ⟨fun c29 => ?_, fun c29 => ?_⟩
          ·
            exact l_135 _ _ _ hT ag (show τ_47.1 0 = σ.1 0 from by first | exact W0 | omega) (show τ_47.1 3 = σ.1 3 from by first | exact W3 | omega) (show τ_47.1 7 = σ.1 7 from by first | exact W7 | omega) (show τ_47.1 8 = σ.1 8 from by first | exact W8 | omega) (show τ_47.1 9 = σ.1 9 from by first | exact W9 | omega) (show τ_47.1 10 = σ.1 10 from by first | exact W10 | omega) (show τ_47.1 11 = σ.1 11 from by first | exact W11 | omega) (show τ_47.1 15 = σ.1 15 from by first | exact W15 | omega) (show τ_47.1 22 = σ.1 22 from by first | exact W22 | omega) G6 G7 G8 G9 G14 G35 (show (τ_47.1 16) ≤ (τ_47.1 0) from by (first | omega | (simp only [st_s] <;> omega) | assumption | omega | fail)) (show (τ_47.1 17) + (τ_47.1 18) ≤ (τ_47.1 0) from by (first | omega | (simp only [st_s] <;> omega) | assumption | omega | fail)) (show oc (τ_47.2.1 6) < 4096 from by (first | omega | (simp only [st_s] <;> omega) | assumption | omega | fail)) (show oc (τ_47.2.1 7) < 4096 from by (first | omega | (simp only [st_s] <;> omega) | assumption | omega | fail)) (show ¬ (σ.1 20) = 0 → (τ_47.1 20) = (σ.1 20) from by (first | omega | (simp only [st_s] <;> omega) | assumption | omega | fail)) (show τ_47.2.1 14 (τ_47.1 22) + τ_47.2.1 15 (τ_47.1 22) = (τ_47.1 6) from Z1) (show ca (τ_47.2.1 12) ((τ_47.1 3)) ≤ (τ_47.1 4) from Y20) (show (τ_47.1 5) = (σ.1 5) from by (first | omega | (simp only [st_s] <;> omega) | assumption | omega | fail)) (show (τ_47.1 13) = (σ.1 13) from by (first | omega | (simp only [st_s] <;> omega) | assumption | omega | fail)) (show τ_47.2.1 15 (τ_47.1 22) ≤ 2 from by (first | omega | (simp only [st_s] <;> omega) | assumption | omega | fail)) (show (σ.1 16) ≤ (τ_47.1 16) from by (first | omega | (simp only [st_s] <;> omega) | assumption | omega | fail)) (show -1 ≤ x19 from by (first | omega | (simp only [st_s] <;> omega) | assumption | omega | fail)) (show x19 ≤ 999 from by (first | omega | (simp only [st_s] <;> omega) | assumption | omega | fail)) (show 0 ≤ x24 from by (first | omega | (simp only [st_s] <;> omega) | assumption | omega | fail)) (show x24 ≤ 999 from by (first | omega | (simp only [st_s] <;> omega) | assumption | omega | fail)) (show (τ_47.1 20) = 0 from by (first | omega | (simp only [st_s] <;> omega) | assumption | omega | fail)) (show τ_47.2.1 15 (τ_47.1 22) = 1 from by (first | omega | (simp only [st_s] <;> omega) | assumption | omega | fail)) (show (τ_47.1 6) < 30000 from by (first | omega | (simp only [st_s] <;> omega) | assumption | omega | fail)) (show τ_47.2.1 11 = σ.2.1 11 from by (first | exact i47_13 | fail)) (show τ_47.2.1 31 = σ.2.1 31 from by (first | exact i47_14 | fail)) (show τ_47.2.1 13 = σ.2.1 13 from by (first | exact i47_15 | fail)) (show τ_47.2.1 10 = σ.2.1 10 from by (first | exact i47_16 | fail)) (show n_rl σ τ_47 from by (first | exact i47_17 | fail)) (show (τ_47.1 20) = 0 → n_N (τ_47.2.1 14 (τ_47.1 22)) (τ_47.2.1 14 (τ_47.1 22) + τ_47.2.1 15 (τ_47.1 22)) (σ.1 3) (σ.2.1 8) (σ.2.1 11) (τ_47.2.1 12) (τ_47.2.1 16) (τ_47.2.1 17) from by (intro z; first | (exfalso; omega) | exact i47_18 (by omega))) (show x19 = -1 ∨ x19 < (σ.1 3) from by (by_cases z : x19 = -1; exact Or.inl z; exact Or.inr (x3lt z))) (show x19 = -1 ∨ σ.2.1 8 x19 = 0 ∨ τ_47.2.1 9 x19 = 0 ∨ σ.2.1 11 x19 = -1 from by (first | exact Or.inl (by assumption) | exact Or.inr (Or.inl (by rw [← G8, ← e_x28]; assumption)) | exact Or.inr (Or.inr (Or.inl (by rw [← e_x30]; assumption))) | exact Or.inr (Or.inr (Or.inr (by rw [← i47_13, ← e_x32]; assumption))) | fail)) (show x24 = τ_47.2.1 16 (τ_47.2.1 14 (τ_47.1 22)) from by (rw [e_x24, e_x22]))
          ·
            intro x30 r_x30 e_x30
            have b_x30 : 0 ≤ x30 ∧ x30 ≤ 1 := by rw [e_x30]; exact hT.2 9 _
            refine ⟨fun c31 => ?_, fun c31 => ?_⟩
            ·
              exact l_135 _ _ _ hT ag (show τ_47.1 0 = σ.1 0 from by first | exact W0 | omega) (show τ_47.1 3 = σ.1 3 from by first | exact W3 | omega) (show τ_47.1 7 = σ.1 7 from by first | exact W7 | omega) (show τ_47.1 8 = σ.1 8 from by first | exact W8 | omega) (show τ_47.1 9 = σ.1 9 from by first | exact W9 | omega) (show τ_47.1 10 = σ.1 10 from by first | exact W10 | omega) (show τ_47.1 11 = σ.1 11 from by first | exact W11 | omega) (show τ_47.1 15 = σ.1 15 from by first | exact W15 | omega) (show τ_47.1 22 = σ.1 22 from by first | exact W22 | omega) G6 G7 G8 G9 G14 G35 (show (τ_47.1 16) ≤ (τ_47.1 0) from by (first | omega | (simp only [st_s] <;> omega) | assumption | omega | fail)) (show (τ_47.1 17) + (τ_47.1 18) ≤ (τ_47.1 0) from by (first | omega | (simp only [st_s] <;> omega) | assumption | omega | fail)) (show oc (τ_47.2.1 6) < 4096 from by (first | omega | (simp only [st_s] <;> omega) | assumption | omega | fail)) (show oc (τ_47.2.1 7) < 4096 from by (first | omega | (simp only [st_s] <;> omega) | assumption | omega | fail)) (show ¬ (σ.1 20) = 0 → (τ_47.1 20) = (σ.1 20) from by (first | omega | (simp only [st_s] <;> omega) | assumption | omega | fail)) (show τ_47.2.1 14 (τ_47.1 22) + τ_47.2.1 15 (τ_47.1 22) = (τ_47.1 6) from Z1) (show ca (τ_47.2.1 12) ((τ_47.1 3)) ≤ (τ_47.1 4) from Y20) (show (τ_47.1 5) = (σ.1 5) from by (first | omega | (simp only [st_s] <;> omega) | assumption | omega | fail)) (show (τ_47.1 13) = (σ.1 13) from by (first | omega | (simp only [st_s] <;> omega) | assumption | omega | fail)) (show τ_47.2.1 15 (τ_47.1 22) ≤ 2 from by (first | omega | (simp only [st_s] <;> omega) | assumption | omega | fail)) (show (σ.1 16) ≤ (τ_47.1 16) from by (first | omega | (simp only [st_s] <;> omega) | assumption | omega | fail)) (show -1 ≤ x19 from by (first | omega | (simp only [st_s] <;> omega) | assumption | omega | fail)) (show x19 ≤ 999 from by (first | omega | (simp only [st_s] <;> omega) | assumption | omega | fail)) (show 0 ≤ x24 from by (first | omega | (simp only [st_s] <;> omega) | assumption | omega | fail)) (show x24 ≤ 999 from by (first | omega | (simp only [st_s] <;> omega) | assumption | omega | fail)) (show (τ_47.1 20) = 0 from by (first | omega | (simp only [st_s] <;> omega) | assumption | omega | fail)) (show τ_47.2.1 15 (τ_47.1 22) = 1 from by (first | omega | (simp only [st_s] <;> omega) | assumption | omega | fail)) (show (τ_47.1 6) < 30000 from by (first | omega | (simp only [st_s] <;> omega) | assumption | omega | fail)) (show τ_47.2.1 11 = σ.2.1 11 from by (first | exact i47_13 | fail)) (show τ_47.2.1 31 = σ.2.1 31 from by (first | exact i47_14 | fail)) (show τ_47.2.1 13 = σ.2.1 13 from by (first | exact i47_15 | fail)) (show τ_47.2.1 10 = σ.2.1 10 from by (first | exact i47_16 | fail)) (show n_rl σ τ_47 from by (first | exact i47_17 | fail)) (show (τ_47.1 20) = 0 → n_N (τ_47.2.1 14 (τ_47.1 22)) (τ_47.2.1 14 (τ_47.1 22) + τ_47.2.1 15 (τ_47.1 22)) (σ.1 3) (σ.2.1 8) (σ.2.1 11) (τ_47.2.1 12) (τ_47.2.1 16) (τ_47.2.1 17) from by (intro z; first | (exfalso; omega) | exact i47_18 (by omega))) (show x19 = -1 ∨ x19 < (σ.1 3) from by (by_cases z : x19 = -1; exact Or.inl z; exact Or.inr (x3lt z))) (show x19 = -1 ∨ σ.2.1 8 x19 = 0 ∨ τ_47.2.1 9 x19 = 0 ∨ σ.2.1 11 x19 = -1 from by (first | exact Or.inl (by assumption) | exact Or.inr (Or.inl (by rw [← G8, ← e_x28]; assumption)) | exact Or.inr (Or.inr (Or.inl (by rw [← e_x30]; assumption))) | exact Or.inr (Or.inr (Or.inr (by rw [← i47_13, ← e_x32]; assumption))) | fail)) (show x24 = τ_47.2.1 16 (τ_47.2.1 14 (τ_47.1 22)) from by (rw [e_x24, e_x22]))
            ·
              intro x32 r_x32 e_x32
              have b_x32 : (-1) ≤ x32 ∧ x32 ≤ 1499 := by rw [e_x32]; exact hT.2 11 _
              refine ⟨fun c33 => ?_, fun c33 => ?_⟩
              ·
                exact l_135 _ _ _ hT ag (show τ_47.1 0 = σ.1 0 from by first | exact W0 | omega) (show τ_47.1 3 = σ.1 3 from by first | exact W3 | omega) (show τ_47.1 7 = σ.1 7 from by first | exact W7 | omega) (show τ_47.1 8 = σ.1 8 from by first | exact W8 | omega) (show τ_47.1 9 = σ.1 9 from by first | exact W9 | omega) (show τ_47.1 10 = σ.1 10 from by first | exact W10 | omega) (show τ_47.1 11 = σ.1 11 from by first | exact W11 | omega) (show τ_47.1 15 = σ.1 15 from by first | exact W15 | omega) (show τ_47.1 22 = σ.1 22 from by first | exact W22 | omega) G6 G7 G8 G9 G14 G35 (show (τ_47.1 16) ≤ (τ_47.1 0) from by (first | omega | (simp only [st_s] <;> omega) | assumption | omega | fail)) (show (τ_47.1 17) + (τ_47.1 18) ≤ (τ_47.1 0) from by (first | omega | (simp only [st_s] <;> omega) | assumption | omega | fail)) (show oc (τ_47.2.1 6) < 4096 from by (first | omega | (simp only [st_s] <;> omega) | assumption | omega | fail)) (show oc (τ_47.2.1 7) < 4096 from by (first | omega | (simp only [st_s] <;> omega) | assumption | omega | fail)) (show ¬ (σ.1 20) = 0 → (τ_47.1 20) = (σ.1 20) from by (first | omega | (simp only [st_s] <;> omega) | assumption | omega | fail)) (show τ_47.2.1 14 (τ_47.1 22) + τ_47.2.1 15 (τ_47.1 22) = (τ_47.1 6) from Z1) (show ca (τ_47.2.1 12) ((τ_47.1 3)) ≤ (τ_47.1 4) from Y20) (show (τ_47.1 5) = (σ.1 5) from by (first | omega | (simp only [st_s] <;> omega) | assumption | omega | fail)) (show (τ_47.1 13) = (σ.1 13) from by (first | omega | (simp only [st_s] <;> omega) | assumption | omega | fail)) (show τ_47.2.1 15 (τ_47.1 22) ≤ 2 from by (first | omega | (simp only [st_s] <;> omega) | assumption | omega | fail)) (show (σ.1 16) ≤ (τ_47.1 16) from by (first | omega | (simp only [st_s] <;> omega) | assumption | omega | fail)) (show -1 ≤ x19 from by (first | omega | (simp only [st_s] <;> omega) | assumption | omega | fail)) (show x19 ≤ 999 from by (first | omega | (simp only [st_s] <;> omega) | assumption | omega | fail)) (show 0 ≤ x24 from by (first | omega | (simp only [st_s] <;> omega) | assumption | omega | fail)) (show x24 ≤ 999 from by (first | omega | (simp only [st_s] <;> omega) | assumption | omega | fail)) (show (τ_47.1 20) = 0 from by (first | omega | (simp only [st_s] <;> omega) | assumption | omega | fail)) (show τ_47.2.1 15 (τ_47.1 22) = 1 from by (first | omega | (simp only [st_s] <;> omega) | assumption | omega | fail)) (show (τ_47.1 6) < 30000 from by (first | omega | (simp only [st_s] <;> omega) | assumption | omega | fail)) (show τ_47.2.1 11 = σ.2.1 11 from by (first | exact i47_13 | fail)) (show τ_47.2.1 31 = σ.2.1 31 from by (first | exact i47_14 | fail)) (show τ_47.2.1 13 = σ.2.1 13 from by (first | exact i47_15 | fail)) (show τ_47.2.1 10 = σ.2.1 10 from by (first | exact i47_16 | fail)) (show n_rl σ τ_47 from by (first | exact i47_17 | fail)) (show (τ_47.1 20) = 0 → n_N (τ_47.2.1 14 (τ_47.1 22)) (τ_47.2.1 14 (τ_47.1 22) + τ_47.2.1 15 (τ_47.1 22)) (σ.1 3) (σ.2.1 8) (σ.2.1 11) (τ_47.2.1 12) (τ_47.2.1 16) (τ_47.2.1 17) from by (intro z; first | (exfalso; omega) | exact i47_18 (by omega))) (show x19 = -1 ∨ x19 < (σ.1 3) from by (by_cases z : x19 = -1; exact Or.inl z; exact Or.inr (x3lt z))) (show x19 = -1 ∨ σ.2.1 8 x19 = 0 ∨ τ_47.2.1 9 x19 = 0 ∨ σ.2.1 11 x19 = -1 from by (first | exact Or.inl (by assumption) | exact Or.inr (Or.inl (by rw [← G8, ← e_x28]; assumption)) | exact Or.inr (Or.inr (Or.inl (by rw [← e_x30]; assumption))) | exact Or.inr (Or.inr (Or.inr (by rw [← i47_13, ← e_x32]; assumption))) | fail)) (show x24 = τ_47.2.1 16 (τ_47.2.1 14 (τ_47.1 22)) from by (rw [e_x24, e_x22]))
              ·
                refine ⟨_, K_X13_failHere hT (show 0 ≤ (7 : Int) from by (first | omega | (simp only [st_s] <;> omega) | assumption | omega | fail)) (show (7 : Int) ≤ 19 from by (first | omega | (simp only [st_s] <;> omega) | assumption | omega | fail)), ?_⟩
                intro τ36 hn_τ36 hf_τ36 hq
                obtain ⟨hT, q34_1, q34_2⟩ := hq
                replace q34_1 : ¬ (τ_47.1 20) = 0 → (τ36.1 20) = (τ_47.1 20) := q34_1
                replace q34_2 : (τ_47.1 20) = 0 → (τ36.1 20) = (7 : Int) := q34_2
                replace ag : m_ag σ τ36 := ag_r ag hf_τ36 rfl rfl
                have w0_τ36 : τ36.1 0 = τ_47.1 0 := hf_τ36.1 0 (by decide)
                have w3_τ36 : τ36.1 3 = τ_47.1 3 := hf_τ36.1 3 (by decide)
                have w4_τ36 : τ36.1 4 = τ_47.1 4 := hf_τ36.1 4 (by decide)
                have w5_τ36 : τ36.1 5 = τ_47.1 5 := hf_τ36.1 5 (by decide)
                have w6_τ36 : τ36.1 6 = τ_47.1 6 := hf_τ36.1 6 (by decide)
                have w7_τ36 : τ36.1 7 = τ_47.1 7 := hf_τ36.1 7 (by decide)
                have w8_τ36 : τ36.1 8 = τ_47.1 8 := hf_τ36.1 8 (by decide)
                have w9_τ36 : τ36.1 9 = τ_47.1 9 := hf_τ36.1 9 (by decide)
                have w10_τ36 : τ36.1 10 = τ_47.1 10 := hf_τ36.1 10 (by decide)
                have w11_τ36 : τ36.1 11 = τ_47.1 11 := hf_τ36.1 11 (by decide)
                have w13_τ36 : τ36.1 13 = τ_47.1 13 := hf_τ36.1 13 (by decide)
                have w15_τ36 : τ36.1 15 = τ_47.1 15 := hf_τ36.1 15 (by decide)
                have w16_τ36 : τ36.1 16 = τ_47.1 16 := hf_τ36.1 16 (by decide)
                have w17_τ36 : τ36.1 17 = τ_47.1 17 := hf_τ36.1 17 (by decide)
                have w18_τ36 : τ36.1 18 = τ_47.1 18 := hf_τ36.1 18 (by decide)
                have w19_τ36 : τ36.1 19 = τ_47.1 19 := hf_τ36.1 19 (by decide)
                have w22_τ36 : τ36.1 22 = τ_47.1 22 := hf_τ36.1 22 (by decide)
                have g6_τ36 : τ36.2.1 6 = τ_47.2.1 6 := hf_τ36.2.1 6 (by decide)
                have g7_τ36 : τ36.2.1 7 = τ_47.2.1 7 := hf_τ36.2.1 7 (by decide)
                have g8_τ36 : τ36.2.1 8 = τ_47.2.1 8 := hf_τ36.2.1 8 (by decide)
                have g9_τ36 : τ36.2.1 9 = τ_47.2.1 9 := hf_τ36.2.1 9 (by decide)
                have g10_τ36 : τ36.2.1 10 = τ_47.2.1 10 := hf_τ36.2.1 10 (by decide)
                have g11_τ36 : τ36.2.1 11 = τ_47.2.1 11 := hf_τ36.2.1 11 (by decide)
                have g12_τ36 : τ36.2.1 12 = τ_47.2.1 12 := hf_τ36.2.1 12 (by decide)
                have g13_τ36 : τ36.2.1 13 = τ_47.2.1 13 := hf_τ36.2.1 13 (by decide)
                have g14_τ36 : τ36.2.1 14 = τ_47.2.1 14 := hf_τ36.2.1 14 (by decide)
                have g15_τ36 : τ36.2.1 15 = τ_47.2.1 15 := hf_τ36.2.1 15 (by decide)
                have g16_τ36 : τ36.2.1 16 = τ_47.2.1 16 := hf_τ36.2.1 16 (by decide)
                have g17_τ36 : τ36.2.1 17 = τ_47.2.1 17 := hf_τ36.2.1 17 (by decide)
                have g31_τ36 : τ36.2.1 31 = τ_47.2.1 31 := hf_τ36.2.1 31 (by decide)
                have g35_τ36 : τ36.2.1 35 = τ_47.2.1 35 := hf_τ36.2.1 35 (by decide)
                first | (have ca_τ36 := congr (congrArg ca g9_τ36) w3_τ36) | skip
                first | (have o6_τ36 := congrArg oc g6_τ36) | skip
                first | (have o7_τ36 := congrArg oc g7_τ36) | skip
                have W0 : τ36.1 0 = σ.1 0 := by first | exact w0_τ36.trans W0 | omega
                have W3 : τ36.1 3 = σ.1 3 := by first | exact w3_τ36.trans W3 | omega
                have W7 : τ36.1 7 = σ.1 7 := by first | exact w7_τ36.trans W7 | omega
                have W8 : τ36.1 8 = σ.1 8 := by first | exact w8_τ36.trans W8 | omega
                have W9 : τ36.1 9 = σ.1 9 := by first | exact w9_τ36.trans W9 | omega
                have W10 : τ36.1 10 = σ.1 10 := by first | exact w10_τ36.trans W10 | omega
                have W11 : τ36.1 11 = σ.1 11 := by first | exact w11_τ36.trans W11 | omega
                have W15 : τ36.1 15 = σ.1 15 := by first | exact w15_τ36.trans W15 | omega
                have W22 : τ36.1 22 = σ.1 22 := by first | exact w22_τ36.trans W22 | omega
                have G6 : τ36.2.1 6 = σ.2.1 6 := (g6_τ36).trans G6
                have G7 : τ36.2.1 7 = σ.2.1 7 := (g7_τ36).trans G7
                have G8 : τ36.2.1 8 = σ.2.1 8 := (g8_τ36).trans G8
                have G9 : τ36.2.1 9 = σ.2.1 9 := (g9_τ36).trans G9
                have G14 : τ36.2.1 14 = σ.2.1 14 := (g14_τ36).trans G14
                have G35 : τ36.2.1 35 = σ.2.1 35 := (g35_τ36).trans G35
                have y14_22_τ36 : τ36.2.1 14 (τ36.1 22) = (τ_47.2.1 14) (τ_47.1 22) := by rw [g14_τ36, w22_τ36]
                have y15_22_τ36 : τ36.2.1 15 (τ36.1 22) = (τ_47.2.1 15) (τ_47.1 22) := by rw [g15_τ36, w22_τ36]
                have Z1 : τ36.2.1 14 (τ36.1 22) + τ36.2.1 15 (τ36.1 22) = (τ36.1 6) := by rw [show (τ36.2.1 14 (τ36.1 22) + τ36.2.1 15 (τ36.1 22) = (τ36.1 6)) = (τ_47.2.1 14 (τ_47.1 22) + τ_47.2.1 15 (τ_47.1 22) = (τ_47.1 6)) from by rw [w6_τ36, w22_τ36, g14_τ36, g15_τ36]]; exact Z1
                have Y20 : ca (τ36.2.1 12) ((τ36.1 3)) ≤ (τ36.1 4) := by rw [show (ca (τ36.2.1 12) ((τ36.1 3)) ≤ (τ36.1 4)) = (ca (τ_47.2.1 12) ((τ_47.1 3)) ≤ (τ_47.1 4)) from by rw [w3_τ36, w4_τ36, g12_τ36]]; exact Y20
                have Y1 : j_l2 (τ36.2.1 6) (τ36.1 3) := by rw [show (j_l2 (τ36.2.1 6) (τ36.1 3)) = (j_l2 (τ_47.2.1 6) (τ_47.1 3)) from by rw [w3_τ36, g6_τ36]]; exact Y1
                have STt : j_l2 (τ36.2.1 6) (τ36.1 3) := by rw [show (j_l2 (τ36.2.1 6) (τ36.1 3)) = (j_l2 (τ_47.2.1 6) (τ_47.1 3)) from by rw [w3_τ36, g6_τ36]]; exact STt
                have A6 : ∀ j, (-1) ≤ τ36.2.1 6 j ∧ τ36.2.1 6 j ≤ 999 := fun j => hT.2 6 j
                have A7 : ∀ j, (-1) ≤ τ36.2.1 7 j ∧ τ36.2.1 7 j ≤ 1499 := fun j => hT.2 7 j
                have A8 : ∀ j, 0 ≤ τ36.2.1 8 j ∧ τ36.2.1 8 j ≤ 1 := fun j => hT.2 8 j
                have A9 : ∀ j, 0 ≤ τ36.2.1 9 j ∧ τ36.2.1 9 j ≤ 1 := fun j => hT.2 9 j
                have A10 : ∀ j, (-1) ≤ τ36.2.1 10 j ∧ τ36.2.1 10 j ≤ 999 := fun j => hT.2 10 j
                have A11 : ∀ j, (-1) ≤ τ36.2.1 11 j ∧ τ36.2.1 11 j ≤ 1499 := fun j => hT.2 11 j
                have A12 : ∀ j, 0 ≤ τ36.2.1 12 j ∧ τ36.2.1 12 j ≤ 1 := fun j => hT.2 12 j
                have A13 : ∀ j, 0 ≤ τ36.2.1 13 j ∧ τ36.2.1 13 j ≤ 4 := fun j => hT.2 13 j
                have A14 : ∀ j, 0 ≤ τ36.2.1 14 j ∧ τ36.2.1 14 j ≤ 30000 := fun j => hT.2 14 j
                have A15 : ∀ j, 0 ≤ τ36.2.1 15 j ∧ τ36.2.1 15 j ≤ 300 := fun j => hT.2 15 j
                have A16 : ∀ j, 0 ≤ τ36.2.1 16 j ∧ τ36.2.1 16 j ≤ 999 := fun j => hT.2 16 j
                have A17 : ∀ j, (-1) ≤ τ36.2.1 17 j ∧ τ36.2.1 17 j ≤ 1499 := fun j => hT.2 17 j
                have A31 : ∀ j, 0 ≤ τ36.2.1 31 j ∧ τ36.2.1 31 j ≤ 1499 := fun j => hT.2 31 j
                have A35 : ∀ j, 0 ≤ τ36.2.1 35 j ∧ τ36.2.1 35 j ≤ 1500 := fun j => hT.2 35 j
                have v0 : 0 ≤ τ36.1 0 ∧ τ36.1 0 ≤ 60000 := hT.1 0
                have v3 : 0 ≤ τ36.1 3 ∧ τ36.1 3 ≤ 1000 := hT.1 3
                have v4 : 0 ≤ τ36.1 4 ∧ τ36.1 4 ≤ 100 := hT.1 4
                have v5 : 0 ≤ τ36.1 5 ∧ τ36.1 5 ≤ 1500 := hT.1 5
                have v6 : 0 ≤ τ36.1 6 ∧ τ36.1 6 ≤ 30000 := hT.1 6
                have v7 : 0 ≤ τ36.1 7 ∧ τ36.1 7 ≤ 90000 := hT.1 7
                have v8 : 0 ≤ τ36.1 8 ∧ τ36.1 8 ≤ 20000 := hT.1 8
                have v9 : 0 ≤ τ36.1 9 ∧ τ36.1 9 ≤ 20000 := hT.1 9
                have v10 : (-1) ≤ τ36.1 10 ∧ τ36.1 10 ≤ 999 := hT.1 10
                have v11 : (-1) ≤ τ36.1 11 ∧ τ36.1 11 ≤ 999 := hT.1 11
                have v13 : 0 ≤ τ36.1 13 ∧ τ36.1 13 ≤ 1500 := hT.1 13
                have v15 : 0 ≤ τ36.1 15 ∧ τ36.1 15 ≤ 50 := hT.1 15
                have v16 : 0 ≤ τ36.1 16 ∧ τ36.1 16 ≤ 60000 := hT.1 16
                have v17 : 0 ≤ τ36.1 17 ∧ τ36.1 17 ≤ 60000 := hT.1 17
                have v18 : 0 ≤ τ36.1 18 ∧ τ36.1 18 ≤ 60000 := hT.1 18
                have v19 : (-1) ≤ τ36.1 19 ∧ τ36.1 19 ≤ 125 := hT.1 19
                have v20 : 0 ≤ τ36.1 20 ∧ τ36.1 20 ≤ 19 := hT.1 20
                have v22 : 0 ≤ τ36.1 22 ∧ τ36.1 22 ≤ 1499 := hT.1 22
                have a14_22 : 0 ≤ τ36.2.1 14 (τ36.1 22) ∧ τ36.2.1 14 (τ36.1 22) ≤ 30000 := hT.2 14 _
                have a15_22 : 0 ≤ τ36.2.1 15 (τ36.1 22) ∧ τ36.2.1 15 (τ36.1 22) ≤ 300 := hT.2 15 _
                have av5 : σ.1 5 ≤ τ36.1 5 := ag.1 5 (by decide)
                have av6 : σ.1 6 ≤ τ36.1 6 := ag.1 6 (by decide)
                exact l_211 _ _ _ hT ag (show τ36.1 0 = σ.1 0 from by first | exact W0 | omega) (show τ36.1 3 = σ.1 3 from by first | exact W3 | omega) (show τ36.1 7 = σ.1 7 from by first | exact W7 | omega) (show τ36.1 8 = σ.1 8 from by first | exact W8 | omega) (show τ36.1 9 = σ.1 9 from by first | exact W9 | omega) (show τ36.1 10 = σ.1 10 from by first | exact W10 | omega) (show τ36.1 11 = σ.1 11 from by first | exact W11 | omega) (show τ36.1 15 = σ.1 15 from by first | exact W15 | omega) (show τ36.1 22 = σ.1 22 from by first | exact W22 | omega) G6 G7 G8 G9 G14 G35 (show (τ36.1 16) ≤ (τ36.1 0) from by (first | omega | (simp only [st_s] <;> omega) | assumption | omega | fail)) (show (τ36.1 17) + (τ36.1 18) ≤ (τ36.1 0) from by (first | omega | (simp only [st_s] <;> omega) | assumption | omega | fail)) (show oc (τ36.2.1 6) < 4096 from by (first | omega | (simp only [st_s] <;> omega) | assumption | omega | fail)) (show oc (τ36.2.1 7) < 4096 from by (first | omega | (simp only [st_s] <;> omega) | assumption | omega | fail)) (show ¬ (σ.1 20) = 0 → (τ36.1 20) = (σ.1 20) from by (first | omega | (simp only [st_s] <;> omega) | assumption | omega | fail)) (show τ36.2.1 14 (τ36.1 22) + τ36.2.1 15 (τ36.1 22) = (τ36.1 6) from Z1) (show ca (τ36.2.1 12) ((τ36.1 3)) ≤ (τ36.1 4) from Y20) (show (τ36.1 5) = (σ.1 5) from by (first | omega | (simp only [st_s] <;> omega) | assumption | omega | fail)) (show (τ36.1 13) = (σ.1 13) from by (first | omega | (simp only [st_s] <;> omega) | assumption | omega | fail)) (show τ36.2.1 15 (τ36.1 22) ≤ 2 from by (first | omega | (simp only [st_s] <;> omega) | assumption | omega | fail)) (show (σ.1 16) ≤ (τ36.1 16) from by (first | omega | (simp only [st_s] <;> omega) | assumption | omega | fail)) (show -1 ≤ x19 from by (first | omega | (simp only [st_s] <;> omega) | assumption | omega | fail)) (show x19 ≤ 999 from by (first | omega | (simp only [st_s] <;> omega) | assumption | omega | fail)) (show 0 ≤ x24 from by (first | omega | (simp only [st_s] <;> omega) | assumption | omega | fail)) (show x24 ≤ 999 from by (first | omega | (simp only [st_s] <;> omega) | assumption | omega | fail)) (show (τ36.1 20) = 0 → 0 ≤ x19 ∧ τ36.2.1 15 (τ36.1 22) = 1 ∧ (τ36.1 6) < 30000 from by (first | omega | (simp only [st_s] <;> omega) | assumption | omega | fail)) (show τ36.2.1 11 = σ.2.1 11 from by (first | exact i47_13 | exact i135_19 | exact i167_20 | (rw [g11_τ36]; exact i47_13) | (rw [g11_τ39]; exact i47_13) | (rw [g11_τ60]; exact i47_13) | (rw [g11_τ70]; exact i47_13) | (rw [g11_τ73]; exact i47_13) | (rw [g11_τ36]; exact i135_19) | (rw [g11_τ39]; exact i135_19) | (rw [g11_τ60]; exact i135_19) | (rw [g11_τ70]; exact i135_19) | (rw [g11_τ73]; exact i135_19) | (rw [g11_τ36]; exact i167_20) | (rw [g11_τ39]; exact i167_20) | (rw [g11_τ60]; exact i167_20) | (rw [g11_τ70]; exact i167_20) | (rw [g11_τ73]; exact i167_20) | fail)) (show τ36.2.1 31 = σ.2.1 31 from by (first | exact i47_14 | exact i135_20 | exact i167_21 | (rw [g31_τ36]; exact i47_14) | (rw [g31_τ39]; exact i47_14) | (rw [g31_τ60]; exact i47_14) | (rw [g31_τ70]; exact i47_14) | (rw [g31_τ73]; exact i47_14) | (rw [g31_τ36]; exact i135_20) | (rw [g31_τ39]; exact i135_20) | (rw [g31_τ60]; exact i135_20) | (rw [g31_τ70]; exact i135_20) | (rw [g31_τ73]; exact i135_20) | (rw [g31_τ36]; exact i167_21) | (rw [g31_τ39]; exact i167_21) | (rw [g31_τ60]; exact i167_21) | (rw [g31_τ70]; exact i167_21) | (rw [g31_τ73]; exact i167_21) | fail)) (show τ36.2.1 13 = σ.2.1 13 from by (first | exact i47_15 | exact i135_21 | exact i167_22 | (rw [g13_τ36]; exact i47_15) | (rw [g13_τ39]; exact i47_15) | (rw [g13_τ60]; exact i47_15) | (rw [g13_τ70]; exact i47_15) | (rw [g13_τ73]; exact i47_15) | (rw [g13_τ36]; exact i135_21) | (rw [g13_τ39]; exact i135_21) | (rw [g13_τ60]; exact i135_21) | (rw [g13_τ70]; exact i135_21) | (rw [g13_τ73]; exact i135_21) | (rw [g13_τ36]; exact i167_22) | (rw [g13_τ39]; exact i167_22) | (rw [g13_τ60]; exact i167_22) | (rw [g13_τ70]; exact i167_22) | (rw [g13_τ73]; exact i167_22) | fail)) (show τ36.2.1 10 = σ.2.1 10 from by (first | exact i47_16 | exact i135_22 | exact i167_23 | (rw [g10_τ36]; exact i47_16) | (rw [g10_τ39]; exact i47_16) | (rw [g10_τ60]; exact i47_16) | (rw [g10_τ70]; exact i47_16) | (rw [g10_τ73]; exact i47_16) | (rw [g10_τ36]; exact i135_22) | (rw [g10_τ39]; exact i135_22) | (rw [g10_τ60]; exact i135_22) | (rw [g10_τ70]; exact i135_22) | (rw [g10_τ73]; exact i135_22) | (rw [g10_τ36]; exact i167_23) | (rw [g10_τ39]; exact i167_23) | (rw [g10_τ60]; exact i167_23) | (rw [g10_τ70]; exact i167_23) | (rw [g10_τ73]; exact i167_23) | fail)) (show n_rl σ τ36 from by (first | exact i47_17 | exact n_rl_r i47_17 hf_τ36 rfl rfl | exact n_rl_r i47_17 hf_τ39 rfl rfl | exact n_rl_r i47_17 hf_τ60 rfl rfl | exact n_rl_r i47_17 hf_τ70 rfl rfl | exact n_rl_r i47_17 hf_τ73 rfl rfl | exact i135_23 | exact n_rl_r i135_23 hf_τ36 rfl rfl | exact n_rl_r i135_23 hf_τ39 rfl rfl | exact n_rl_r i135_23 hf_τ60 rfl rfl | exact n_rl_r i135_23 hf_τ70 rfl rfl | exact n_rl_r i135_23 hf_τ73 rfl rfl | exact i167_24 | exact n_rl_r i167_24 hf_τ36 rfl rfl | exact n_rl_r i167_24 hf_τ39 rfl rfl | exact n_rl_r i167_24 hf_τ60 rfl rfl | exact n_rl_r i167_24 hf_τ70 rfl rfl | exact n_rl_r i167_24 hf_τ73 rfl rfl | fail)) (show (τ36.1 20) = 0 → n_N (τ36.2.1 14 (τ36.1 22)) (τ36.2.1 14 (τ36.1 22) + τ36.2.1 15 (τ36.1 22)) (σ.1 3) (σ.2.1 8) (σ.2.1 11) (τ36.2.1 12) (τ36.2.1 16) (τ36.2.1 17) from by (intro z; first | (exfalso; omega) | exact i47_18 (by omega) | (rw [g14_τ36, g15_τ36, g12_τ36, g16_τ36, g17_τ36, w22_τ36]; exact i47_18 (by omega)) | (rw [g14_τ39, g15_τ39, g12_τ39, g16_τ39, g17_τ39, w22_τ39]; exact i47_18 (by omega)) | (rw [g14_τ60, g15_τ60, g12_τ60, g16_τ60, g17_τ60, w22_τ60]; exact i47_18 (by omega)) | (rw [g14_τ70, g15_τ70, g12_τ70, g16_τ70, g17_τ70, w22_τ70]; exact i47_18 (by omega)) | (rw [g14_τ73, g15_τ73, g12_τ73, g16_τ73, g17_τ73, w22_τ73]; exact i47_18 (by omega)) | exact i135_24 (by omega) | (rw [g14_τ36, g15_τ36, g12_τ36, g16_τ36, g17_τ36, w22_τ36]; exact i135_24 (by omega)) | (rw [g14_τ39, g15_τ39, g12_τ39, g16_τ39, g17_τ39, w22_τ39]; exact i135_24 (by omega)) | (rw [g14_τ60, g15_τ60, g12_τ60, g16_τ60, g17_τ60, w22_τ60]; exact i135_24 (by omega)) | (rw [g14_τ70, g15_τ70, g12_τ70, g16_τ70, g17_τ70, w22_τ70]; exact i135_24 (by omega)) | (rw [g14_τ73, g15_τ73, g12_τ73, g16_τ73, g17_τ73, w22_τ73]; exact i135_24 (by omega)) | exact i167_25 (by omega) | (rw [g14_τ36, g15_τ36, g12_τ36, g16_τ36, g17_τ36, w22_τ36]; exact i167_25 (by omega)) | (rw [g14_τ39, g15_τ39, g12_τ39, g16_τ39, g17_τ39, w22_τ39]; exact i167_25 (by omega)) | (rw [g14_τ60, g15_τ60, g12_τ60, g16_τ60, g17_τ60, w22_τ60]; exact i167_25 (by omega)) | (rw [g14_τ70, g15_τ70, g12_τ70, g16_τ70, g17_τ70, w22_τ70]; exact i167_25 (by omega)) | (rw [g14_τ73, g15_τ73, g12_τ73, g16_τ73, g17_τ73, w22_τ73]; exact i167_25 (by omega)))) (show (τ36.1 20) = 0 → x19 < (σ.1 3) ∧ ¬ σ.2.1 8 x19 = 0 ∧ σ.2.1 11 x19 = -1 ∧ (σ.2.1 10 x19 = -1 ∨ σ.2.1 10 x19 = x24) from by (intro z; first | (exfalso; omega) | exact ⟨i167_26, by rw [← G8, ← e_x62]; assumption, i167_27.resolve_left (by rw [← G8, ← e_x62]; assumption), by first | exact Or.inl (by rw [← i167_23, ← e_x64]; assumption) | exact Or.inr (by rw [← i167_23, ← e_x66]; assumption)⟩)) (show x24 = τ36.2.1 16 (τ36.2.1 14 (τ36.1 22)) from by (first | exact i167_28 | (rw [g16_τ60, g14_τ60, w22_τ60]; exact i135_27) | (rw [g16_τ70, g14_τ70, w22_τ70]; exact i167_28) | (rw [g16_τ73, g14_τ73, w22_τ73]; exact i167_28) | (rw [g16_τ36, g14_τ36, w22_τ36, e_x24, e_x22]) | (rw [g16_τ39, g14_τ39, w22_τ39, e_x24, e_x22]) | fail))
      ·
        refine ⟨_, K_X13_failHere hT (show 0 ≤ (5 : Int) from by (first | omega | (simp only [st_s] <;> omega) | assumption | omega | fail)) (show (5 : Int) ≤ 19 from by (first | omega | (simp only [st_s] <;> omega) | assumption | omega | fail)), ?_⟩
        intro τ39 hn_τ39 hf_τ39 hq
        obtain ⟨hT, q37_1, q37_2⟩ := hq
        replace q37_1 : ¬ (τ_47.1 20) = 0 → (τ39.1 20) = (τ_47.1 20) := q37_1
        replace q37_2 : (τ_47.1 20) = 0 → (τ39.1 20) = (5 : Int) := q37_2
        replace ag : m_ag σ τ39 := ag_r ag hf_τ39 rfl rfl
        have w0_τ39 : τ39.1 0 = τ_47.1 0 := hf_τ39.1 0 (by decide)
        have w3_τ39 : τ39.1 3 = τ_47.1 3 := hf_τ39.1 3 (by decide)
        have w4_τ39 : τ39.1 4 = τ_47.1 4 := hf_τ39.1 4 (by decide)
        have w5_τ39 : τ39.1 5 = τ_47.1 5 := hf_τ39.1 5 (by decide)
        have w6_τ39 : τ39.1 6 = τ_47.1 6 := hf_τ39.1 6 (by decide)
        have w7_τ39 : τ39.1 7 = τ_47.1 7 := hf_τ39.1 7 (by decide)
        have w8_τ39 : τ39.1 8 = τ_47.1 8 := hf_τ39.1 8 (by decide)
        have w9_τ39 : τ39.1 9 = τ_47.1 9 := hf_τ39.1 9 (by decide)
        have w10_τ39 : τ39.1 10 = τ_47.1 10 := hf_τ39.1 10 (by decide)
        have w11_τ39 : τ39.1 11 = τ_47.1 11 := hf_τ39.1 11 (by decide)
        have w13_τ39 : τ39.1 13 = τ_47.1 13 := hf_τ39.1 13 (by decide)
        have w15_τ39 : τ39.1 15 = τ_47.1 15 := hf_τ39.1 15 (by decide)
        have w16_τ39 : τ39.1 16 = τ_47.1 16 := hf_τ39.1 16 (by decide)
        have w17_τ39 : τ39.1 17 = τ_47.1 17 := hf_τ39.1 17 (by decide)
        have w18_τ39 : τ39.1 18 = τ_47.1 18 := hf_τ39.1 18 (by decide)
        have w19_τ39 : τ39.1 19 = τ_47.1 19 := hf_τ39.1 19 (by decide)
        have w22_τ39 : τ39.1 22 = τ_47.1 22 := hf_τ39.1 22 (by decide)
        have g6_τ39 : τ39.2.1 6 = τ_47.2.1 6 := hf_τ39.2.1 6 (by decide)
        have g7_τ39 : τ39.2.1 7 = τ_47.2.1 7 := hf_τ39.2.1 7 (by decide)
        have g8_τ39 : τ39.2.1 8 = τ_47.2.1 8 := hf_τ39.2.1 8 (by decide)
        have g9_τ39 : τ39.2.1 9 = τ_47.2.1 9 := hf_τ39.2.1 9 (by decide)
        have g10_τ39 : τ39.2.1 10 = τ_47.2.1 10 := hf_τ39.2.1 10 (by decide)
        have g11_τ39 : τ39.2.1 11 = τ_47.2.1 11 := hf_τ39.2.1 11 (by decide)
        have g12_τ39 : τ39.2.1 12 = τ_47.2.1 12 := hf_τ39.2.1 12 (by decide)
        have g13_τ39 : τ39.2.1 13 = τ_47.2.1 13 := hf_τ39.2.1 13 (by decide)
        have g14_τ39 : τ39.2.1 14 = τ_47.2.1 14 := hf_τ39.2.1 14 (by decide)
        have g15_τ39 : τ39.2.1 15 = τ_47.2.1 15 := hf_τ39.2.1 15 (by decide)
        have g16_τ39 : τ39.2.1 16 = τ_47.2.1 16 := hf_τ39.2.1 16 (by decide)
        have g17_τ39 : τ39.2.1 17 = τ_47.2.1 17 := hf_τ39.2.1 17 (by decide)
        have g31_τ39 : τ39.2.1 31 = τ_47.2.1 31 := hf_τ39.2.1 31 (by decide)
        have g35_τ39 : τ39.2.1 35 = τ_47.2.1 35 := hf_τ39.2.1 35 (by decide)
        first | (have ca_τ39 := congr (congrArg ca g9_τ39) w3_τ39) | skip
        first | (have o6_τ39 := congrArg oc g6_τ39) | skip
        first | (have o7_τ39 := congrArg oc g7_τ39) | skip
        have W0 : τ39.1 0 = σ.1 0 := by first | exact w0_τ39.trans W0 | omega
        have W3 : τ39.1 3 = σ.1 3 := by first | exact w3_τ39.trans W3 | omega
        have W7 : τ39.1 7 = σ.1 7 := by first | exact w7_τ39.trans W7 | omega
        have W8 : τ39.1 8 = σ.1 8 := by first | exact w8_τ39.trans W8 | omega
        have W9 : τ39.1 9 = σ.1 9 := by first | exact w9_τ39.trans W9 | omega
        have W10 : τ39.1 10 = σ.1 10 := by first | exact w10_τ39.trans W10 | omega
        have W11 : τ39.1 11 = σ.1 11 := by first | exact w11_τ39.trans W11 | omega
        have W15 : τ39.1 15 = σ.1 15 := by first | exact w15_τ39.trans W15 | omega
        have W22 : τ39.1 22 = σ.1 22 := by first | exact w22_τ39.trans W22 | omega
        have G6 : τ39.2.1 6 = σ.2.1 6 := (g6_τ39).trans G6
        have G7 : τ39.2.1 7 = σ.2.1 7 := (g7_τ39).trans G7
        have G8 : τ39.2.1 8 = σ.2.1 8 := (g8_τ39).trans G8
        have G9 : τ39.2.1 9 = σ.2.1 9 := (g9_τ39).trans G9
        have G14 : τ39.2.1 14 = σ.2.1 14 := (g14_τ39).trans G14
        have G35 : τ39.2.1 35 = σ.2.1 35 := (g35_τ39).trans G35
        have y14_22_τ39 : τ39.2.1 14 (τ39.1 22) = (τ_47.2.1 14) (τ_47.1 22) := by rw [g14_τ39, w22_τ39]
        have y15_22_τ39 : τ39.2.1 15 (τ39.1 22) = (τ_47.2.1 15) (τ_47.1 22) := by rw [g15_τ39, w22_τ39]
        have Z1 : τ39.2.1 14 (τ39.1 22) + τ39.2.1 15 (τ39.1 22) = (τ39.1 6) := by rw [show (τ39.2.1 14 (τ39.1 22) + τ39.2.1 15 (τ39.1 22) = (τ39.1 6)) = (τ_47.2.1 14 (τ_47.1 22) + τ_47.2.1 15 (τ_47.1 22) = (τ_47.1 6)) from by rw [w6_τ39, w22_τ39, g14_τ39, g15_τ39]]; exact Z1
        have Y20 : ca (τ39.2.1 12) ((τ39.1 3)) ≤ (τ39.1 4) := by rw [show (ca (τ39.2.1 12) ((τ39.1 3)) ≤ (τ39.1 4)) = (ca (τ_47.2.1 12) ((τ_47.1 3)) ≤ (τ_47.1 4)) from by rw [w3_τ39, w4_τ39, g12_τ39]]; exact Y20
        have Y1 : j_l2 (τ39.2.1 6) (τ39.1 3) := by rw [show (j_l2 (τ39.2.1 6) (τ39.1 3)) = (j_l2 (τ_47.2.1 6) (τ_47.1 3)) from by rw [w3_τ39, g6_τ39]]; exact Y1
        have STt : j_l2 (τ39.2.1 6) (τ39.1 3) := by rw [show (j_l2 (τ39.2.1 6) (τ39.1 3)) = (j_l2 (τ_47.2.1 6) (τ_47.1 3)) from by rw [w3_τ39, g6_τ39]]; exact STt
        have A6 : ∀ j, (-1) ≤ τ39.2.1 6 j ∧ τ39.2.1 6 j ≤ 999 := fun j => hT.2 6 j
        have A7 : ∀ j, (-1) ≤ τ39.2.1 7 j ∧ τ39.2.1 7 j ≤ 1499 := fun j => hT.2 7 j
        have A8 : ∀ j, 0 ≤ τ39.2.1 8 j ∧ τ39.2.1 8 j ≤ 1 := fun j => hT.2 8 j
        have A9 : ∀ j, 0 ≤ τ39.2.1 9 j ∧ τ39.2.1 9 j ≤ 1 := fun j => hT.2 9 j
        have A10 : ∀ j, (-1) ≤ τ39.2.1 10 j ∧ τ39.2.1 10 j ≤ 999 := fun j => hT.2 10 j
        have A11 : ∀ j, (-1) ≤ τ39.2.1 11 j ∧ τ39.2.1 11 j ≤ 1499 := fun j => hT.2 11 j
        have A12 : ∀ j, 0 ≤ τ39.2.1 12 j ∧ τ39.2.1 12 j ≤ 1 := fun j => hT.2 12 j
        have A13 : ∀ j, 0 ≤ τ39.2.1 13 j ∧ τ39.2.1 13 j ≤ 4 := fun j => hT.2 13 j
        have A14 : ∀ j, 0 ≤ τ39.2.1 14 j ∧ τ39.2.1 14 j ≤ 30000 := fun j => hT.2 14 j
        have A15 : ∀ j, 0 ≤ τ39.2.1 15 j ∧ τ39.2.1 15 j ≤ 300 := fun j => hT.2 15 j
        have A16 : ∀ j, 0 ≤ τ39.2.1 16 j ∧ τ39.2.1 16 j ≤ 999 := fun j => hT.2 16 j
        have A17 : ∀ j, (-1) ≤ τ39.2.1 17 j ∧ τ39.2.1 17 j ≤ 1499 := fun j => hT.2 17 j
        have A31 : ∀ j, 0 ≤ τ39.2.1 31 j ∧ τ39.2.1 31 j ≤ 1499 := fun j => hT.2 31 j
        have A35 : ∀ j, 0 ≤ τ39.2.1 35 j ∧ τ39.2.1 35 j ≤ 1500 := fun j => hT.2 35 j
        have v0 : 0 ≤ τ39.1 0 ∧ τ39.1 0 ≤ 60000 := hT.1 0
        have v3 : 0 ≤ τ39.1 3 ∧ τ39.1 3 ≤ 1000 := hT.1 3
        have v4 : 0 ≤ τ39.1 4 ∧ τ39.1 4 ≤ 100 := hT.1 4
        have v5 : 0 ≤ τ39.1 5 ∧ τ39.1 5 ≤ 1500 := hT.1 5
        have v6 : 0 ≤ τ39.1 6 ∧ τ39.1 6 ≤ 30000 := hT.1 6
        have v7 : 0 ≤ τ39.1 7 ∧ τ39.1 7 ≤ 90000 := hT.1 7
        have v8 : 0 ≤ τ39.1 8 ∧ τ39.1 8 ≤ 20000 := hT.1 8
        have v9 : 0 ≤ τ39.1 9 ∧ τ39.1 9 ≤ 20000 := hT.1 9
        have v10 : (-1) ≤ τ39.1 10 ∧ τ39.1 10 ≤ 999 := hT.1 10
        have v11 : (-1) ≤ τ39.1 11 ∧ τ39.1 11 ≤ 999 := hT.1 11
        have v13 : 0 ≤ τ39.1 13 ∧ τ39.1 13 ≤ 1500 := hT.1 13
        have v15 : 0 ≤ τ39.1 15 ∧ τ39.1 15 ≤ 50 := hT.1 15
        have v16 : 0 ≤ τ39.1 16 ∧ τ39.1 16 ≤ 60000 := hT.1 16
        have v17 : 0 ≤ τ39.1 17 ∧ τ39.1 17 ≤ 60000 := hT.1 17
        have v18 : 0 ≤ τ39.1 18 ∧ τ39.1 18 ≤ 60000 := hT.1 18
        have v19 : (-1) ≤ τ39.1 19 ∧ τ39.1 19 ≤ 125 := hT.1 19
        have v20 : 0 ≤ τ39.1 20 ∧ τ39.1 20 ≤ 19 := hT.1 20
        have v22 : 0 ≤ τ39.1 22 ∧ τ39.1 22 ≤ 1499 := hT.1 22
        have a14_22 : 0 ≤ τ39.2.1 14 (τ39.1 22) ∧ τ39.2.1 14 (τ39.1 22) ≤ 30000 := hT.2 14 _
        have a15_22 : 0 ≤ τ39.2.1 15 (τ39.1 22) ∧ τ39.2.1 15 (τ39.1 22) ≤ 300 := hT.2 15 _
        have av5 : σ.1 5 ≤ τ39.1 5 := ag.1 5 (by decide)
        have av6 : σ.1 6 ≤ τ39.1 6 := ag.1 6 (by decide)
        exact l_211 _ _ _ hT ag (show τ39.1 0 = σ.1 0 from by first | exact W0 | omega) (show τ39.1 3 = σ.1 3 from by first | exact W3 | omega) (show τ39.1 7 = σ.1 7 from by first | exact W7 | omega) (show τ39.1 8 = σ.1 8 from by first | exact W8 | omega) (show τ39.1 9 = σ.1 9 from by first | exact W9 | omega) (show τ39.1 10 = σ.1 10 from by first | exact W10 | omega) (show τ39.1 11 = σ.1 11 from by first | exact W11 | omega) (show τ39.1 15 = σ.1 15 from by first | exact W15 | omega) (show τ39.1 22 = σ.1 22 from by first | exact W22 | omega) G6 G7 G8 G9 G14 G35 (show (τ39.1 16) ≤ (τ39.1 0) from by (first | omega | (simp only [st_s] <;> omega) | assumption | omega | fail)) (show (τ39.1 17) + (τ39.1 18) ≤ (τ39.1 0) from by (first | omega | (simp only [st_s] <;> omega) | assumption | omega | fail)) (show oc (τ39.2.1 6) < 4096 from by (first | omega | (simp only [st_s] <;> omega) | assumption | omega | fail)) (show oc (τ39.2.1 7) < 4096 from by (first | omega | (simp only [st_s] <;> omega) | assumption | omega | fail)) (show ¬ (σ.1 20) = 0 → (τ39.1 20) = (σ.1 20) from by (first | omega | (simp only [st_s] <;> omega) | assumption | omega | fail)) (show τ39.2.1 14 (τ39.1 22) + τ39.2.1 15 (τ39.1 22) = (τ39.1 6) from Z1) (show ca (τ39.2.1 12) ((τ39.1 3)) ≤ (τ39.1 4) from Y20) (show (τ39.1 5) = (σ.1 5) from by (first | omega | (simp only [st_s] <;> omega) | assumption | omega | fail)) (show (τ39.1 13) = (σ.1 13) from by (first | omega | (simp only [st_s] <;> omega) | assumption | omega | fail)) (show τ39.2.1 15 (τ39.1 22) ≤ 2 from by (first | omega | (simp only [st_s] <;> omega) | assumption | omega | fail)) (show (σ.1 16) ≤ (τ39.1 16) from by (first | omega | (simp only [st_s] <;> omega) | assumption | omega | fail)) (show -1 ≤ x19 from by (first | omega | (simp only [st_s] <;> omega) | assumption | omega | fail)) (show x19 ≤ 999 from by (first | omega | (simp only [st_s] <;> omega) | assumption | omega | fail)) (show 0 ≤ x24 from by (first | omega | (simp only [st_s] <;> omega) | assumption | omega | fail)) (show x24 ≤ 999 from by (first | omega | (simp only [st_s] <;> omega) | assumption | omega | fail)) (show (τ39.1 20) = 0 → 0 ≤ x19 ∧ τ39.2.1 15 (τ39.1 22) = 1 ∧ (τ39.1 6) < 30000 from by (first | omega | (simp only [st_s] <;> omega) | assumption | omega | fail)) (show τ39.2.1 11 = σ.2.1 11 from by (first | exact i47_13 | exact i135_19 | exact i167_20 | (rw [g11_τ36]; exact i47_13) | (rw [g11_τ39]; exact i47_13) | (rw [g11_τ60]; exact i47_13) | (rw [g11_τ70]; exact i47_13) | (rw [g11_τ73]; exact i47_13) | (rw [g11_τ36]; exact i135_19) | (rw [g11_τ39]; exact i135_19) | (rw [g11_τ60]; exact i135_19) | (rw [g11_τ70]; exact i135_19) | (rw [g11_τ73]; exact i135_19) | (rw [g11_τ36]; exact i167_20) | (rw [g11_τ39]; exact i167_20) | (rw [g11_τ60]; exact i167_20) | (rw [g11_τ70]; exact i167_20) | (rw [g11_τ73]; exact i167_20) | fail)) (show τ39.2.1 31 = σ.2.1 31 from by (first | exact i47_14 | exact i135_20 | exact i167_21 | (rw [g31_τ36]; exact i47_14) | (rw [g31_τ39]; exact i47_14) | (rw [g31_τ60]; exact i47_14) | (rw [g31_τ70]; exact i47_14) | (rw [g31_τ73]; exact i47_14) | (rw [g31_τ36]; exact i135_20) | (rw [g31_τ39]; exact i135_20) | (rw [g31_τ60]; exact i135_20) | (rw [g31_τ70]; exact i135_20) | (rw [g31_τ73]; exact i135_20) | (rw [g31_τ36]; exact i167_21) | (rw [g31_τ39]; exact i167_21) | (rw [g31_τ60]; exact i167_21) | (rw [g31_τ70]; exact i167_21) | (rw [g31_τ73]; exact i167_21) | fail)) (show τ39.2.1 13 = σ.2.1 13 from by (first | exact i47_15 | exact i135_21 | exact i167_22 | (rw [g13_τ36]; exact i47_15) | (rw [g13_τ39]; exact i47_15) | (rw [g13_τ60]; exact i47_15) | (rw [g13_τ70]; exact i47_15) | (rw [g13_τ73]; exact i47_15) | (rw [g13_τ36]; exact i135_21) | (rw [g13_τ39]; exact i135_21) | (rw [g13_τ60]; exact i135_21) | (rw [g13_τ70]; exact i135_21) | (rw [g13_τ73]; exact i135_21) | (rw [g13_τ36]; exact i167_22) | (rw [g13_τ39]; exact i167_22) | (rw [g13_τ60]; exact i167_22) | (rw [g13_τ70]; exact i167_22) | (rw [g13_τ73]; exact i167_22) | fail)) (show τ39.2.1 10 = σ.2.1 10 from by (first | exact i47_16 | exact i135_22 | exact i167_23 | (rw [g10_τ36]; exact i47_16) | (rw [g10_τ39]; exact i47_16) | (rw [g10_τ60]; exact i47_16) | (rw [g10_τ70]; exact i47_16) | (rw [g10_τ73]; exact i47_16) | (rw [g10_τ36]; exact i135_22) | (rw [g10_τ39]; exact i135_22) | (rw [g10_τ60]; exact i135_22) | (rw [g10_τ70]; exact i135_22) | (rw [g10_τ73]; exact i135_22) | (rw [g10_τ36]; exact i167_23) | (rw [g10_τ39]; exact i167_23) | (rw [g10_τ60]; exact i167_23) | (rw [g10_τ70]; exact i167_23) | (rw [g10_τ73]; exact i167_23) | fail)) (show n_rl σ τ39 from by (first | exact i47_17 | exact n_rl_r i47_17 hf_τ36 rfl rfl | exact n_rl_r i47_17 hf_τ39 rfl rfl | exact n_rl_r i47_17 hf_τ60 rfl rfl | exact n_rl_r i47_17 hf_τ70 rfl rfl | exact n_rl_r i47_17 hf_τ73 rfl rfl | exact i135_23 | exact n_rl_r i135_23 hf_τ36 rfl rfl | exact n_rl_r i135_23 hf_τ39 rfl rfl | exact n_rl_r i135_23 hf_τ60 rfl rfl | exact n_rl_r i135_23 hf_τ70 rfl rfl | exact n_rl_r i135_23 hf_τ73 rfl rfl | exact i167_24 | exact n_rl_r i167_24 hf_τ36 rfl rfl | exact n_rl_r i167_24 hf_τ39 rfl rfl | exact n_rl_r i167_24 hf_τ60 rfl rfl | exact n_rl_r i167_24 hf_τ70 rfl rfl | exact n_rl_r i167_24 hf_τ73 rfl rfl | fail)) (show (τ39.1 20) = 0 → n_N (τ39.2.1 14 (τ39.1 22)) (τ39.2.1 14 (τ39.1 22) + τ39.2.1 15 (τ39.1 22)) (σ.1 3) (σ.2.1 8) (σ.2.1 11) (τ39.2.1 12) (τ39.2.1 16) (τ39.2.1 17) from by (intro z; first | (exfalso; omega) | exact i47_18 (by omega) | (rw [g14_τ36, g15_τ36, g12_τ36, g16_τ36, g17_τ36, w22_τ36]; exact i47_18 (by omega)) | (rw [g14_τ39, g15_τ39, g12_τ39, g16_τ39, g17_τ39, w22_τ39]; exact i47_18 (by omega)) | (rw [g14_τ60, g15_τ60, g12_τ60, g16_τ60, g17_τ60, w22_τ60]; exact i47_18 (by omega)) | (rw [g14_τ70, g15_τ70, g12_τ70, g16_τ70, g17_τ70, w22_τ70]; exact i47_18 (by omega)) | (rw [g14_τ73, g15_τ73, g12_τ73, g16_τ73, g17_τ73, w22_τ73]; exact i47_18 (by omega)) | exact i135_24 (by omega) | (rw [g14_τ36, g15_τ36, g12_τ36, g16_τ36, g17_τ36, w22_τ36]; exact i135_24 (by omega)) | (rw [g14_τ39, g15_τ39, g12_τ39, g16_τ39, g17_τ39, w22_τ39]; exact i135_24 (by omega)) | (rw [g14_τ60, g15_τ60, g12_τ60, g16_τ60, g17_τ60, w22_τ60]; exact i135_24 (by omega)) | (rw [g14_τ70, g15_τ70, g12_τ70, g16_τ70, g17_τ70, w22_τ70]; exact i135_24 (by omega)) | (rw [g14_τ73, g15_τ73, g12_τ73, g16_τ73, g17_τ73, w22_τ73]; exact i135_24 (by omega)) | exact i167_25 (by omega) | (rw [g14_τ36, g15_τ36, g12_τ36, g16_τ36, g17_τ36, w22_τ36]; exact i167_25 (by omega)) | (rw [g14_τ39, g15_τ39, g12_τ39, g16_τ39, g17_τ39, w22_τ39]; exact i167_25 (by omega)) | (rw [g14_τ60, g15_τ60, g12_τ60, g16_τ60, g17_τ60, w22_τ60]; exact i167_25 (by omega)) | (rw [g14_τ70, g15_τ70, g12_τ70, g16_τ70, g17_τ70, w22_τ70]; exact i167_25 (by omega)) | (rw [g14_τ73, g15_τ73, g12_τ73, g16_τ73, g17_τ73, w22_τ73]; exact i167_25 (by omega)))) (show (τ39.1 20) = 0 → x19 < (σ.1 3) ∧ ¬ σ.2.1 8 x19 = 0 ∧ σ.2.1 11 x19 = -1 ∧ (σ.2.1 10 x19 = -1 ∨ σ.2.1 10 x19 = x24) from by (intro z; first | (exfalso; omega) | exact ⟨i167_26, by rw [← G8, ← e_x62]; assumption, i167_27.resolve_left (by rw [← G8, ← e_x62]; assumption), by first | exact Or.inl (by rw [← i167_23, ← e_x64]; assumption) | exact Or.inr (by rw [← i167_23, ← e_x66]; assumption)⟩)) (show x24 = τ39.2.1 16 (τ39.2.1 14 (τ39.1 22)) from by (first | exact i167_28 | (rw [g16_τ60, g14_τ60, w22_τ60]; exact i135_27) | (rw [g16_τ70, g14_τ70, w22_τ70]; exact i167_28) | (rw [g16_τ73, g14_τ73, w22_τ73]; exact i167_28) | (rw [g16_τ36, g14_τ36, w22_τ36, e_x24, e_x22]) | (rw [g16_τ39, g14_τ39, w22_τ39, e_x24, e_x22]) | fail))
    ·
      exact ⟨hT, (show (τ_47.1 16) ≤ (τ_47.1 0) from by (first | omega | (simp only [st_s] <;> omega) | assumption | omega | fail)), (show (τ_47.1 17) + (τ_47.1 18) ≤ (τ_47.1 0) from by (first | omega | (simp only [st_s] <;> omega) | assumption | omega | fail)), (show ¬ (σ.1 20) = 0 → (τ_47.1 20) = (σ.1 20) from by (first | omega | (simp only [st_s] <;> omega) | assumption | omega | fail)), (show τ_47.2.1 14 (τ_47.1 22) + τ_47.2.1 15 (τ_47.1 22) = (τ_47.1 6) from Z1), (show ca (τ_47.2.1 12) ((τ_47.1 3)) ≤ (τ_47.1 4) from Y20), (show (τ_47.1 13) ≤ (τ_47.1 5) from by (first | omega | (simp only [st_s] <;> omega) | assumption | omega | fail)), (show (τ_47.1 20) = 0 → (τ_47.1 5) = (σ.1 5) + 1 ∧ 2 ≤ τ_47.2.1 15 (τ_47.1 22) from by (first | omega | (simp only [st_s] <;> omega) | assumption | omega | fail)), (show (τ_47.1 5) ≤ (σ.1 5) + 1 from by (first | omega | (simp only [st_s] <;> omega) | assumption | omega | fail)), (show (σ.1 16) ≤ (τ_47.1 16) from by (first | omega | (simp only [st_s] <;> omega) | assumption | omega | fail)), ag, (show (τ_47.1 20) = 0 → n_J1 (σ.1 5) τ_47 ∧ n_S τ_47 from by (first | (intro z; exfalso; omega) | exact fun _ => ⟨j81, s81⟩ | fail)), (show n_rl σ τ_47 from by (first | exact i15_17 | exact i47_17 | exact i211_21 | exact i253_22 | exact rl81 | fail)), (show n_hk σ τ_47 from by (first | exact hk81 | exact n_hk_g (by omega) (by omega) i15_14 G35 | exact n_hk_g (by omega) (by omega) i47_14 G35 | exact n_hk_g (by omega) (by omega) i211_18 G35 | exact n_hk_g (by omega) (by omega) i253_19 G35 | fail))⟩
  have l_15 : ∀ (τ_15 : S0), (m_T τ_15) → (m_ag σ τ_15) → (τ_15.1 0 = σ.1 0) → (τ_15.1 3 = σ.1 3) → (τ_15.1 7 = σ.1 7) → (τ_15.1 8 = σ.1 8) → (τ_15.1 9 = σ.1 9) → (τ_15.1 10 = σ.1 10) → (τ_15.1 11 = σ.1 11) → (τ_15.1 15 = σ.1 15) → (τ_15.1 22 = σ.1 22) → (τ_15.2.1 6 = σ.2.1 6) → (τ_15.2.1 7 = σ.2.1 7) → (τ_15.2.1 8 = σ.2.1 8) → (τ_15.2.1 9 = σ.2.1 9) → (τ_15.2.1 14 = σ.2.1 14) → (τ_15.2.1 35 = σ.2.1 35) → ((τ_15.1 16) ≤ (τ_15.1 0)) → ((τ_15.1 17) + (τ_15.1 18) ≤ (τ_15.1 0)) → (oc (τ_15.2.1 6) < 4096) → (oc (τ_15.2.1 7) < 4096) → (¬ (σ.1 20) = 0 → (τ_15.1 20) = (σ.1 20)) → (τ_15.2.1 14 (τ_15.1 22) + τ_15.2.1 15 (τ_15.1 22) = (τ_15.1 6)) → (ca (τ_15.2.1 12) ((τ_15.1 3)) ≤ (τ_15.1 4)) → ((τ_15.1 5) = (σ.1 5)) → ((τ_15.1 13) = (σ.1 13)) → (τ_15.2.1 15 (τ_15.1 22) ≤ 2) → ((σ.1 16) ≤ (τ_15.1 16)) → ((τ_15.1 20) = 0 → τ_15.2.1 15 (τ_15.1 22) = 1) → (τ_15.2.1 11 = σ.2.1 11) → (τ_15.2.1 31 = σ.2.1 31) → (τ_15.2.1 13 = σ.2.1 13) → (τ_15.2.1 10 = σ.2.1 10) → (n_rl σ τ_15) → ((τ_15.1 20) = 0 → n_N (τ_15.2.1 14 (τ_15.1 22)) (τ_15.2.1 14 (τ_15.1 22) + τ_15.2.1 15 (τ_15.1 22)) (σ.1 3) (σ.2.1 8) (σ.2.1 11) (τ_15.2.1 12) (τ_15.2.1 16) (τ_15.2.1 17)) → P15 τ_15 := by
    intro τ_15 hT ag W0 W3 W7 W8 W9 W10 W11 W15 W22 G6 G7 G8 G9 G14 G35 i15_1 i15_2 i15_3 i15_4 i15_5 i15_6 i15_7 i15_8 i15_9 i15_10 i15_11 i15_12 i15_13 i15_14 i15_15 i15_16 i15_17 i15_18
    have A6 : ∀ j, (-1) ≤ τ_15.2.1 6 j ∧ τ_15.2.1 6 j ≤ 999 := fun j => hT.2 6 j
    have A7 : ∀ j, (-1) ≤ τ_15.2.1 7 j ∧ τ_15.2.1 7 j ≤ 1499 := fun j => hT.2 7 j
    have A8 : ∀ j, 0 ≤ τ_15.2.1 8 j ∧ τ_15.2.1 8 j ≤ 1 := fun j => hT.2 8 j
    have A9 : ∀ j, 0 ≤ τ_15.2.1 9 j ∧ τ_15.2.1 9 j ≤ 1 := fun j => hT.2 9 j
    have A10 : ∀ j, (-1) ≤ τ_15.2.1 10 j ∧ τ_15.2.1 10 j ≤ 999 := fun j => hT.2 10 j
    have A11 : ∀ j, (-1) ≤ τ_15.2.1 11 j ∧ τ_15.2.1 11 j ≤ 1499 := fun j => hT.2 11 j
    have A12 : ∀ j, 0 ≤ τ_15.2.1 12 j ∧ τ_15.2.1 12 j ≤ 1 := fun j => hT.2 12 j
    have A13 : ∀ j, 0 ≤ τ_15.2.1 13 j ∧ τ_15.2.1 13 j ≤ 4 := fun j => hT.2 13 j
    have A14 : ∀ j, 0 ≤ τ_15.2.1 14 j ∧ τ_15.2.1 14 j ≤ 30000 := fun j => hT.2 14 j
    have A15 : ∀ j, 0 ≤ τ_15.2.1 15 j ∧ τ_15.2.1 15 j ≤ 300 := fun j => hT.2 15 j
    have A16 : ∀ j, 0 ≤ τ_15.2.1 16 j ∧ τ_15.2.1 16 j ≤ 999 := fun j => hT.2 16 j
    have A17 : ∀ j, (-1) ≤ τ_15.2.1 17 j ∧ τ_15.2.1 17 j ≤ 1499 := fun j => hT.2 17 j
    have A31 : ∀ j, 0 ≤ τ_15.2.1 31 j ∧ τ_15.2.1 31 j ≤ 1499 := fun j => hT.2 31 j
    have A35 : ∀ j, 0 ≤ τ_15.2.1 35 j ∧ τ_15.2.1 35 j ≤ 1500 := fun j => hT.2 35 j
    have v0 : 0 ≤ τ_15.1 0 ∧ τ_15.1 0 ≤ 60000 := hT.1 0
    have v3 : 0 ≤ τ_15.1 3 ∧ τ_15.1 3 ≤ 1000 := hT.1 3
    have v4 : 0 ≤ τ_15.1 4 ∧ τ_15.1 4 ≤ 100 := hT.1 4
    have v5 : 0 ≤ τ_15.1 5 ∧ τ_15.1 5 ≤ 1500 := hT.1 5
    have v6 : 0 ≤ τ_15.1 6 ∧ τ_15.1 6 ≤ 30000 := hT.1 6
    have v7 : 0 ≤ τ_15.1 7 ∧ τ_15.1 7 ≤ 90000 := hT.1 7
    have v8 : 0 ≤ τ_15.1 8 ∧ τ_15.1 8 ≤ 20000 := hT.1 8
    have v9 : 0 ≤ τ_15.1 9 ∧ τ_15.1 9 ≤ 20000 := hT.1 9
    have v10 : (-1) ≤ τ_15.1 10 ∧ τ_15.1 10 ≤ 999 := hT.1 10
    have v11 : (-1) ≤ τ_15.1 11 ∧ τ_15.1 11 ≤ 999 := hT.1 11
    have v13 : 0 ≤ τ_15.1 13 ∧ τ_15.1 13 ≤ 1500 := hT.1 13
    have v15 : 0 ≤ τ_15.1 15 ∧ τ_15.1 15 ≤ 50 := hT.1 15
    have v16 : 0 ≤ τ_15.1 16 ∧ τ_15.1 16 ≤ 60000 := hT.1 16
    have v17 : 0 ≤ τ_15.1 17 ∧ τ_15.1 17 ≤ 60000 := hT.1 17
    have v18 : 0 ≤ τ_15.1 18 ∧ τ_15.1 18 ≤ 60000 := hT.1 18
    have v19 : (-1) ≤ τ_15.1 19 ∧ τ_15.1 19 ≤ 125 := hT.1 19
    have v20 : 0 ≤ τ_15.1 20 ∧ τ_15.1 20 ≤ 19 := hT.1 20
    have v22 : 0 ≤ τ_15.1 22 ∧ τ_15.1 22 ≤ 1499 := hT.1 22
    have a14_22 : 0 ≤ τ_15.2.1 14 (τ_15.1 22) ∧ τ_15.2.1 14 (τ_15.1 22) ≤ 30000 := hT.2 14 _
    have a15_22 : 0 ≤ τ_15.2.1 15 (τ_15.1 22) ∧ τ_15.2.1 15 (τ_15.1 22) ≤ 300 := hT.2 15 _
    have av5 : σ.1 5 ≤ τ_15.1 5 := ag.1 5 (by decide)
    have av6 : σ.1 6 ≤ τ_15.1 6 := ag.1 6 (by decide)
    have y14_22_τ_15 : τ_15.2.1 14 (τ_15.1 22) = σ.2.1 14 (σ.1 22) := by rw [G14, W22]
    have o6_τ_15 := congrArg oc G6
    have o7_τ_15 := congrArg oc G7
    have ca_τ_15 := congr (congrArg ca G9) W3
    have Z1 : τ_15.2.1 14 (τ_15.1 22) + τ_15.2.1 15 (τ_15.1 22) = (τ_15.1 6) := i15_6
    have Y20 : ca (τ_15.2.1 12) ((τ_15.1 3)) ≤ (τ_15.1 4) := i15_7
    have Y1 : j_l2 (τ_15.2.1 6) (τ_15.1 3) := by rw [show (j_l2 (τ_15.2.1 6) (τ_15.1 3)) = (j_l2 (σ.2.1 6) (σ.1 3)) from by rw [W3, G6]]; exact Y1_0
    have STt : j_l2 (τ_15.2.1 6) (τ_15.1 3) := by rw [show (j_l2 (τ_15.2.1 6) (τ_15.1 3)) = (j_l2 (σ.2.1 6) (σ.1 3)) from by rw [W3, G6]]; exact STt_0
    refine h15 τ_15 ?_
    refine ⟨fun c8 => ?_, fun c8 => ?_⟩
    ·
      refine ⟨_, K_X13_next hT (show (τ_15.1 16) ≤ (τ_15.1 0) from by (first | omega | (simp only [st_s] <;> omega) | assumption | omega | fail)), ?_⟩
      intro τ11 hn_τ11 hf_τ11 hq
      obtain ⟨hT, q9_1, q9_2, q9_3, q9_4, q9_5⟩ := hq
      replace q9_1 : (τ11.1 16) ≤ (τ11.1 0) := q9_1
      replace q9_2 : (τ11.1 17) + (τ11.1 18) ≤ (τ11.1 0) := q9_2
      replace q9_3 : (τ_15.1 16) ≤ (τ11.1 16) := q9_3
      replace q9_4 : ¬ (τ_15.1 20) = 0 → (τ11.1 20) = (τ_15.1 20) := q9_4
      replace q9_5 : (τ11.1 20) = 0 → ¬ (τ11.1 19) = 0 → (τ_15.1 16) < (τ11.1 16) ∧ 0 < (τ11.1 18) := q9_5
      replace ag : m_ag σ τ11 := ag_r ag hf_τ11 rfl rfl
      have w0_τ11 : τ11.1 0 = τ_15.1 0 := hf_τ11.1 0 (by decide)
      have w3_τ11 : τ11.1 3 = τ_15.1 3 := hf_τ11.1 3 (by decide)
      have w4_τ11 : τ11.1 4 = τ_15.1 4 := hf_τ11.1 4 (by decide)
      have w5_τ11 : τ11.1 5 = τ_15.1 5 := hf_τ11.1 5 (by decide)
      have w6_τ11 : τ11.1 6 = τ_15.1 6 := hf_τ11.1 6 (by decide)
      have w7_τ11 : τ11.1 7 = τ_15.1 7 := hf_τ11.1 7 (by decide)
      have w8_τ11 : τ11.1 8 = τ_15.1 8 := hf_τ11.1 8 (by decide)
      have w9_τ11 : τ11.1 9 = τ_15.1 9 := hf_τ11.1 9 (by decide)
      have w10_τ11 : τ11.1 10 = τ_15.1 10 := hf_τ11.1 10 (by decide)
      have w11_τ11 : τ11.1 11 = τ_15.1 11 := hf_τ11.1 11 (by decide)
      have w13_τ11 : τ11.1 13 = τ_15.1 13 := hf_τ11.1 13 (by decide)
      have w15_τ11 : τ11.1 15 = τ_15.1 15 := hf_τ11.1 15 (by decide)
      have w22_τ11 : τ11.1 22 = τ_15.1 22 := hf_τ11.1 22 (by decide)
      have g6_τ11 : τ11.2.1 6 = τ_15.2.1 6 := hf_τ11.2.1 6 (by decide)
      have g7_τ11 : τ11.2.1 7 = τ_15.2.1 7 := hf_τ11.2.1 7 (by decide)
      have g8_τ11 : τ11.2.1 8 = τ_15.2.1 8 := hf_τ11.2.1 8 (by decide)
      have g9_τ11 : τ11.2.1 9 = τ_15.2.1 9 := hf_τ11.2.1 9 (by decide)
      have g10_τ11 : τ11.2.1 10 = τ_15.2.1 10 := hf_τ11.2.1 10 (by decide)
      have g11_τ11 : τ11.2.1 11 = τ_15.2.1 11 := hf_τ11.2.1 11 (by decide)
      have g12_τ11 : τ11.2.1 12 = τ_15.2.1 12 := hf_τ11.2.1 12 (by decide)
      have g13_τ11 : τ11.2.1 13 = τ_15.2.1 13 := hf_τ11.2.1 13 (by decide)
      have g14_τ11 : τ11.2.1 14 = τ_15.2.1 14 := hf_τ11.2.1 14 (by decide)
      have g15_τ11 : τ11.2.1 15 = τ_15.2.1 15 := hf_τ11.2.1 15 (by decide)
      have g16_τ11 : τ11.2.1 16 = τ_15.2.1 16 := hf_τ11.2.1 16 (by decide)
      have g17_τ11 : τ11.2.1 17 = τ_15.2.1 17 := hf_τ11.2.1 17 (by decide)
      have g31_τ11 : τ11.2.1 31 = τ_15.2.1 31 := hf_τ11.2.1 31 (by decide)
      have g35_τ11 : τ11.2.1 35 = τ_15.2.1 35 := hf_τ11.2.1 35 (by decide)
      first | (have ca_τ11 := congr (congrArg ca g9_τ11) w3_τ11) | skip
      first | (have o6_τ11 := congrArg oc g6_τ11) | skip
      first | (have o7_τ11 := congrArg oc g7_τ11) | skip
      have W0 : τ11.1 0 = σ.1 0 := by first | exact w0_τ11.trans W0 | omega
      have W3 : τ11.1 3 = σ.1 3 := by first | exact w3_τ11.trans W3 | omega
      have W7 : τ11.1 7 = σ.1 7 := by first | exact w7_τ11.trans W7 | omega
      have W8 : τ11.1 8 = σ.1 8 := by first | exact w8_τ11.trans W8 | omega
      have W9 : τ11.1 9 = σ.1 9 := by first | exact w9_τ11.trans W9 | omega
      have W10 : τ11.1 10 = σ.1 10 := by first | exact w10_τ11.trans W10 | omega
      have W11 : τ11.1 11 = σ.1 11 := by first | exact w11_τ11.trans W11 | omega
      have W15 : τ11.1 15 = σ.1 15 := by first | exact w15_τ11.trans W15 | omega
      have W22 : τ11.1 22 = σ.1 22 := by first | exact w22_τ11.trans W22 | omega
      have G6 : τ11.2.1 6 = σ.2.1 6 := (g6_τ11).trans G6
      have G7 : τ11.2.1 7 = σ.2.1 7 := (g7_τ11).trans G7
      have G8 : τ11.2.1 8 = σ.2.1 8 := (g8_τ11).trans G8
      have G9 : τ11.2.1 9 = σ.2.1 9 := (g9_τ11).trans G9
      have G14 : τ11.2.1 14 = σ.2.1 14 := (g14_τ11).trans G14
      have G35 : τ11.2.1 35 = σ.2.1 35 := (g35_τ11).trans G35
      have y14_22_τ11 : τ11.2.1 14 (τ11.1 22) = (τ_15.2.1 14) (τ_15.1 22) := by rw [g14_τ11, w22_τ11]
      have y15_22_τ11 : τ11.2.1 15 (τ11.1 22) = (τ_15.2.1 15) (τ_15.1 22) := by rw [g15_τ11, w22_τ11]
      have Z1 : τ11.2.1 14 (τ11.1 22) + τ11.2.1 15 (τ11.1 22) = (τ11.1 6) := by rw [show (τ11.2.1 14 (τ11.1 22) + τ11.2.1 15 (τ11.1 22) = (τ11.1 6)) = (τ_15.2.1 14 (τ_15.1 22) + τ_15.2.1 15 (τ_15.1 22) = (τ_15.1 6)) from by rw [w6_τ11, w22_τ11, g14_τ11, g15_τ11]]; exact Z1
      have Y20 : ca (τ11.2.1 12) ((τ11.1 3)) ≤ (τ11.1 4) := by rw [show (ca (τ11.2.1 12) ((τ11.1 3)) ≤ (τ11.1 4)) = (ca (τ_15.2.1 12) ((τ_15.1 3)) ≤ (τ_15.1 4)) from by rw [w3_τ11, w4_τ11, g12_τ11]]; exact Y20
      have Y1 : j_l2 (τ11.2.1 6) (τ11.1 3) := by rw [show (j_l2 (τ11.2.1 6) (τ11.1 3)) = (j_l2 (τ_15.2.1 6) (τ_15.1 3)) from by rw [w3_τ11, g6_τ11]]; exact Y1
      have STt : j_l2 (τ11.2.1 6) (τ11.1 3) := by rw [show (j_l2 (τ11.2.1 6) (τ11.1 3)) = (j_l2 (τ_15.2.1 6) (τ_15.1 3)) from by rw [w3_τ11, g6_τ11]]; exact STt
      have A6 : ∀ j, (-1) ≤ τ11.2.1 6 j ∧ τ11.2.1 6 j ≤ 999 := fun j => hT.2 6 j
      have A7 : ∀ j, (-1) ≤ τ11.2.1 7 j ∧ τ11.2.1 7 j ≤ 1499 := fun j => hT.2 7 j
      have A8 : ∀ j, 0 ≤ τ11.2.1 8 j ∧ τ11.2.1 8 j ≤ 1 := fun j => hT.2 8 j
      have A9 : ∀ j, 0 ≤ τ11.2.1 9 j ∧ τ11.2.1 9 j ≤ 1 := fun j => hT.2 9 j
      have A10 : ∀ j, (-1) ≤ τ11.2.1 10 j ∧ τ11.2.1 10 j ≤ 999 := fun j => hT.2 10 j
      have A11 : ∀ j, (-1) ≤ τ11.2.1 11 j ∧ τ11.2.1 11 j ≤ 1499 := fun j => hT.2 11 j
      have A12 : ∀ j, 0 ≤ τ11.2.1 12 j ∧ τ11.2.1 12 j ≤ 1 := fun j => hT.2 12 j
      have A13 : ∀ j, 0 ≤ τ11.2.1 13 j ∧ τ11.2.1 13 j ≤ 4 := fun j => hT.2 13 j
      have A14 : ∀ j, 0 ≤ τ11.2.1 14 j ∧ τ11.2.1 14 j ≤ 30000 := fun j => hT.2 14 j
      have A15 : ∀ j, 0 ≤ τ11.2.1 15 j ∧ τ11.2.1 15 j ≤ 300 := fun j => hT.2 15 j
      have A16 : ∀ j, 0 ≤ τ11.2.1 16 j ∧ τ11.2.1 16 j ≤ 999 := fun j => hT.2 16 j
      have A17 : ∀ j, (-1) ≤ τ11.2.1 17 j ∧ τ11.2.1 17 j ≤ 1499 := fun j => hT.2 17 j
      have A31 : ∀ j, 0 ≤ τ11.2.1 31 j ∧ τ11.2.1 31 j ≤ 1499 := fun j => hT.2 31 j
      have A35 : ∀ j, 0 ≤ τ11.2.1 35 j ∧ τ11.2.1 35 j ≤ 1500 := fun j => hT.2 35 j
      have v0 : 0 ≤ τ11.1 0 ∧ τ11.1 0 ≤ 60000 := hT.1 0
      have v3 : 0 ≤ τ11.1 3 ∧ τ11.1 3 ≤ 1000 := hT.1 3
      have v4 : 0 ≤ τ11.1 4 ∧ τ11.1 4 ≤ 100 := hT.1 4
      have v5 : 0 ≤ τ11.1 5 ∧ τ11.1 5 ≤ 1500 := hT.1 5
      have v6 : 0 ≤ τ11.1 6 ∧ τ11.1 6 ≤ 30000 := hT.1 6
      have v7 : 0 ≤ τ11.1 7 ∧ τ11.1 7 ≤ 90000 := hT.1 7
      have v8 : 0 ≤ τ11.1 8 ∧ τ11.1 8 ≤ 20000 := hT.1 8
      have v9 : 0 ≤ τ11.1 9 ∧ τ11.1 9 ≤ 20000 := hT.1 9
      have v10 : (-1) ≤ τ11.1 10 ∧ τ11.1 10 ≤ 999 := hT.1 10
      have v11 : (-1) ≤ τ11.1 11 ∧ τ11.1 11 ≤ 999 := hT.1 11
      have v13 : 0 ≤ τ11.1 13 ∧ τ11.1 13 ≤ 1500 := hT.1 13
      have v15 : 0 ≤ τ11.1 15 ∧ τ11.1 15 ≤ 50 := hT.1 15
      have v16 : 0 ≤ τ11.1 16 ∧ τ11.1 16 ≤ 60000 := hT.1 16
      have v17 : 0 ≤ τ11.1 17 ∧ τ11.1 17 ≤ 60000 := hT.1 17
      have v18 : 0 ≤ τ11.1 18 ∧ τ11.1 18 ≤ 60000 := hT.1 18
      have v19 : (-1) ≤ τ11.1 19 ∧ τ11.1 19 ≤ 125 := hT.1 19
      have v20 : 0 ≤ τ11.1 20 ∧ τ11.1 20 ≤ 19 := hT.1 20
      have v22 : 0 ≤ τ11.1 22 ∧ τ11.1 22 ≤ 1499 := hT.1 22
      have a14_22 : 0 ≤ τ11.2.1 14 (τ11.1 22) ∧ τ11.2.1 14 (τ11.1 22) ≤ 30000 := hT.2 14 _
      have a15_22 : 0 ≤ τ11.2.1 15 (τ11.1 22) ∧ τ11.2.1 15 (τ11.1 22) ≤ 300 := hT.2 15 _
      have av5 : σ.1 5 ≤ τ11.1 5 := ag.1 5 (by decide)
      have av6 : σ.1 6 ≤ τ11.1 6 := ag.1 6 (by decide)
      refine ⟨fun c12 => ?_, fun c12 => ?_⟩
      ·
        exact l_47 _ hT ag (show τ11.1 0 = σ.1 0 from by first | exact W0 | omega) (show τ11.1 3 = σ.1 3 from by first | exact W3 | omega) (show τ11.1 7 = σ.1 7 from by first | exact W7 | omega) (show τ11.1 8 = σ.1 8 from by first | exact W8 | omega) (show τ11.1 9 = σ.1 9 from by first | exact W9 | omega) (show τ11.1 10 = σ.1 10 from by first | exact W10 | omega) (show τ11.1 11 = σ.1 11 from by first | exact W11 | omega) (show τ11.1 15 = σ.1 15 from by first | exact W15 | omega) (show τ11.1 22 = σ.1 22 from by first | exact W22 | omega) G6 G7 G8 G9 G14 G35 (show (τ11.1 16) ≤ (τ11.1 0) from by (first | omega | (simp only [st_s] <;> omega) | assumption | omega | fail)) (show (τ11.1 17) + (τ11.1 18) ≤ (τ11.1 0) from by (first | omega | (simp only [st_s] <;> omega) | assumption | omega | fail)) (show oc (τ11.2.1 6) < 4096 from by (first | omega | (simp only [st_s] <;> omega) | assumption | omega | fail)) (show oc (τ11.2.1 7) < 4096 from by (first | omega | (simp only [st_s] <;> omega) | assumption | omega | fail)) (show ¬ (σ.1 20) = 0 → (τ11.1 20) = (σ.1 20) from by (first | omega | (simp only [st_s] <;> omega) | assumption | omega | fail)) (show τ11.2.1 14 (τ11.1 22) + τ11.2.1 15 (τ11.1 22) = (τ11.1 6) from Z1) (show ca (τ11.2.1 12) ((τ11.1 3)) ≤ (τ11.1 4) from Y20) (show (τ11.1 5) = (σ.1 5) from by (first | omega | (simp only [st_s] <;> omega) | assumption | omega | fail)) (show (τ11.1 13) = (σ.1 13) from by (first | omega | (simp only [st_s] <;> omega) | assumption | omega | fail)) (show τ11.2.1 15 (τ11.1 22) ≤ 2 from by (first | omega | (simp only [st_s] <;> omega) | assumption | omega | fail)) (show (σ.1 16) ≤ (τ11.1 16) from by (first | omega | (simp only [st_s] <;> omega) | assumption | omega | fail)) (show (τ11.1 20) = 0 → τ11.2.1 15 (τ11.1 22) = 1 from by (first | omega | (simp only [st_s] <;> omega) | assumption | omega | fail)) (show τ11.2.1 11 = σ.2.1 11 from by (first | exact i15_13 | (rw [g11_τ11]; exact i15_13) | (rw [g11_τ16]; exact i15_13) | (rw [g11_τ16, g11_τ11]; exact i15_13) | fail)) (show τ11.2.1 31 = σ.2.1 31 from by (first | exact i15_14 | (rw [g31_τ11]; exact i15_14) | (rw [g31_τ16]; exact i15_14) | (rw [g31_τ16, g31_τ11]; exact i15_14) | fail)) (show τ11.2.1 13 = σ.2.1 13 from by (first | exact i15_15 | (rw [g13_τ11]; exact i15_15) | (rw [g13_τ16]; exact i15_15) | (rw [g13_τ16, g13_τ11]; exact i15_15) | fail)) (show τ11.2.1 10 = σ.2.1 10 from by (first | exact i15_16 | (rw [g10_τ11]; exact i15_16) | (rw [g10_τ16]; exact i15_16) | (rw [g10_τ16, g10_τ11]; exact i15_16) | fail)) (show n_rl σ τ11 from by (first | exact i15_17 | exact n_rl_r i15_17 hf_τ11 rfl rfl | exact n_rl_r i15_17 hf_τ16 rfl rfl | exact n_rl_r (n_rl_r i15_17 hf_τ11 rfl rfl) hf_τ16 rfl rfl | fail)) (show (τ11.1 20) = 0 → n_N (τ11.2.1 14 (τ11.1 22)) (τ11.2.1 14 (τ11.1 22) + τ11.2.1 15 (τ11.1 22)) (σ.1 3) (σ.2.1 8) (σ.2.1 11) (τ11.2.1 12) (τ11.2.1 16) (τ11.2.1 17) from by (intro z; first | (exfalso; omega) | exact i15_18 (by omega) | (rw [g14_τ11, g15_τ11, g12_τ11, g16_τ11, g17_τ11, w22_τ11]; exact i15_18 (by omega)) | (rw [g14_τ16, g15_τ16, g12_τ16, g16_τ16, g17_τ16, w22_τ16]; exact i15_18 (by omega)) | (rw [g14_τ16, g15_τ16, g12_τ16, g16_τ16, g17_τ16, w22_τ16, g14_τ11, g15_τ11, g12_τ11, g16_τ11, g17_τ11, w22_τ11]; exact i15_18 (by omega))))
      ·
        refine ⟨fun c13 => ?_, fun c13 => ?_⟩
        ·
          exact l_47 _ hT ag (show τ11.1 0 = σ.1 0 from by first | exact W0 | omega) (show τ11.1 3 = σ.1 3 from by first | exact W3 | omega) (show τ11.1 7 = σ.1 7 from by first | exact W7 | omega) (show τ11.1 8 = σ.1 8 from by first | exact W8 | omega) (show τ11.1 9 = σ.1 9 from by first | exact W9 | omega) (show τ11.1 10 = σ.1 10 from by first | exact W10 | omega) (show τ11.1 11 = σ.1 11 from by first | exact W11 | omega) (show τ11.1 15 = σ.1 15 from by first | exact W15 | omega) (show τ11.1 22 = σ.1 22 from by first | exact W22 | omega) G6 G7 G8 G9 G14 G35 (show (τ11.1 16) ≤ (τ11.1 0) from by (first | omega | (simp only [st_s] <;> omega) | assumption | omega | fail)) (show (τ11.1 17) + (τ11.1 18) ≤ (τ11.1 0) from by (first | omega | (simp only [st_s] <;> omega) | assumption | omega | fail)) (show oc (τ11.2.1 6) < 4096 from by (first | omega | (simp only [st_s] <;> omega) | assumption | omega | fail)) (show oc (τ11.2.1 7) < 4096 from by (first | omega | (simp only [st_s] <;> omega) | assumption | omega | fail)) (show ¬ (σ.1 20) = 0 → (τ11.1 20) = (σ.1 20) from by (first | omega | (simp only [st_s] <;> omega) | assumption | omega | fail)) (show τ11.2.1 14 (τ11.1 22) + τ11.2.1 15 (τ11.1 22) = (τ11.1 6) from Z1) (show ca (τ11.2.1 12) ((τ11.1 3)) ≤ (τ11.1 4) from Y20) (show (τ11.1 5) = (σ.1 5) from by (first | omega | (simp only [st_s] <;> omega) | assumption | omega | fail)) (show (τ11.1 13) = (σ.1 13) from by (first | omega | (simp only [st_s] <;> omega) | assumption | omega | fail)) (show τ11.2.1 15 (τ11.1 22) ≤ 2 from by (first | omega | (simp only [st_s] <;> omega) | assumption | omega | fail)) (show (σ.1 16) ≤ (τ11.1 16) from by (first | omega | (simp only [st_s] <;> omega) | assumption | omega | fail)) (show (τ11.1 20) = 0 → τ11.2.1 15 (τ11.1 22) = 1 from by (first | omega | (simp only [st_s] <;> omega) | assumption | omega | fail)) (show τ11.2.1 11 = σ.2.1 11 from by (first | exact i15_13 | (rw [g11_τ11]; exact i15_13) | (rw [g11_τ16]; exact i15_13) | (rw [g11_τ16, g11_τ11]; exact i15_13) | fail)) (show τ11.2.1 31 = σ.2.1 31 from by (first | exact i15_14 | (rw [g31_τ11]; exact i15_14) | (rw [g31_τ16]; exact i15_14) | (rw [g31_τ16, g31_τ11]; exact i15_14) | fail)) (show τ11.2.1 13 = σ.2.1 13 from by (first | exact i15_15 | (rw [g13_τ11]; exact i15_15) | (rw [g13_τ16]; exact i15_15) | (rw [g13_τ16, g13_τ11]; exact i15_15) | fail)) (show τ11.2.1 10 = σ.2.1 10 from by (first | exact i15_16 | (rw [g10_τ11]; exact i15_16) | (rw [g10_τ16]; exact i15_16) | (rw [g10_τ16, g10_τ11]; exact i15_16) | fail)) (show n_rl σ τ11 from by (first | exact i15_17 | exact n_rl_r i15_17 hf_τ11 rfl rfl | exact n_rl_r i15_17 hf_τ16 rfl rfl | exact n_rl_r (n_rl_r i15_17 hf_τ11 rfl rfl) hf_τ16 rfl rfl | fail)) (show (τ11.1 20) = 0 → n_N (τ11.2.1 14 (τ11.1 22)) (τ11.2.1 14 (τ11.1 22) + τ11.2.1 15 (τ11.1 22)) (σ.1 3) (σ.2.1 8) (σ.2.1 11) (τ11.2.1 12) (τ11.2.1 16) (τ11.2.1 17) from by (intro z; first | (exfalso; omega) | exact i15_18 (by omega) | (rw [g14_τ11, g15_τ11, g12_τ11, g16_τ11, g17_τ11, w22_τ11]; exact i15_18 (by omega)) | (rw [g14_τ16, g15_τ16, g12_τ16, g16_τ16, g17_τ16, w22_τ16]; exact i15_18 (by omega)) | (rw [g14_τ16, g15_τ16, g12_τ16, g16_τ16, g17_τ16, w22_τ16, g14_τ11, g15_τ11, g12_τ11, g16_τ11, g17_τ11, w22_τ11]; exact i15_18 (by omega))))
        ·
          refine ⟨_, K_X13_failHere hT (show 0 ≤ (4 : Int) from by (first | omega | (simp only [st_s] <;> omega) | assumption | omega | fail)) (show (4 : Int) ≤ 19 from by (first | omega | (simp only [st_s] <;> omega) | assumption | omega | fail)), ?_⟩
          intro τ16 hn_τ16 hf_τ16 hq
          obtain ⟨hT, q14_1, q14_2⟩ := hq
          replace q14_1 : ¬ (τ11.1 20) = 0 → (τ16.1 20) = (τ11.1 20) := q14_1
          replace q14_2 : (τ11.1 20) = 0 → (τ16.1 20) = (4 : Int) := q14_2
          replace ag : m_ag σ τ16 := ag_r ag hf_τ16 rfl rfl
          have w0_τ16 : τ16.1 0 = τ11.1 0 := hf_τ16.1 0 (by decide)
          have w3_τ16 : τ16.1 3 = τ11.1 3 := hf_τ16.1 3 (by decide)
          have w4_τ16 : τ16.1 4 = τ11.1 4 := hf_τ16.1 4 (by decide)
          have w5_τ16 : τ16.1 5 = τ11.1 5 := hf_τ16.1 5 (by decide)
          have w6_τ16 : τ16.1 6 = τ11.1 6 := hf_τ16.1 6 (by decide)
          have w7_τ16 : τ16.1 7 = τ11.1 7 := hf_τ16.1 7 (by decide)
          have w8_τ16 : τ16.1 8 = τ11.1 8 := hf_τ16.1 8 (by decide)
          have w9_τ16 : τ16.1 9 = τ11.1 9 := hf_τ16.1 9 (by decide)
          have w10_τ16 : τ16.1 10 = τ11.1 10 := hf_τ16.1 10 (by decide)
          have w11_τ16 : τ16.1 11 = τ11.1 11 := hf_τ16.1 11 (by decide)
          have w13_τ16 : τ16.1 13 = τ11.1 13 := hf_τ16.1 13 (by decide)
          have w15_τ16 : τ16.1 15 = τ11.1 15 := hf_τ16.1 15 (by decide)
          have w16_τ16 : τ16.1 16 = τ11.1 16 := hf_τ16.1 16 (by decide)
          have w17_τ16 : τ16.1 17 = τ11.1 17 := hf_τ16.1 17 (by decide)
          have w18_τ16 : τ16.1 18 = τ11.1 18 := hf_τ16.1 18 (by decide)
          have w19_τ16 : τ16.1 19 = τ11.1 19 := hf_τ16.1 19 (by decide)
          have w22_τ16 : τ16.1 22 = τ11.1 22 := hf_τ16.1 22 (by decide)
          have g6_τ16 : τ16.2.1 6 = τ11.2.1 6 := hf_τ16.2.1 6 (by decide)
          have g7_τ16 : τ16.2.1 7 = τ11.2.1 7 := hf_τ16.2.1 7 (by decide)
          have g8_τ16 : τ16.2.1 8 = τ11.2.1 8 := hf_τ16.2.1 8 (by decide)
          have g9_τ16 : τ16.2.1 9 = τ11.2.1 9 := hf_τ16.2.1 9 (by decide)
          have g10_τ16 : τ16.2.1 10 = τ11.2.1 10 := hf_τ16.2.1 10 (by decide)
          have g11_τ16 : τ16.2.1 11 = τ11.2.1 11 := hf_τ16.2.1 11 (by decide)
          have g12_τ16 : τ16.2.1 12 = τ11.2.1 12 := hf_τ16.2.1 12 (by decide)
          have g13_τ16 : τ16.2.1 13 = τ11.2.1 13 := hf_τ16.2.1 13 (by decide)
          have g14_τ16 : τ16.2.1 14 = τ11.2.1 14 := hf_τ16.2.1 14 (by decide)
          have g15_τ16 : τ16.2.1 15 = τ11.2.1 15 := hf_τ16.2.1 15 (by decide)
          have g16_τ16 : τ16.2.1 16 = τ11.2.1 16 := hf_τ16.2.1 16 (by decide)
          have g17_τ16 : τ16.2.1 17 = τ11.2.1 17 := hf_τ16.2.1 17 (by decide)
          have g31_τ16 : τ16.2.1 31 = τ11.2.1 31 := hf_τ16.2.1 31 (by decide)
          have g35_τ16 : τ16.2.1 35 = τ11.2.1 35 := hf_τ16.2.1 35 (by decide)
          first | (have ca_τ16 := congr (congrArg ca g9_τ16) w3_τ16) | skip
          first | (have o6_τ16 := congrArg oc g6_τ16) | skip
          first | (have o7_τ16 := congrArg oc g7_τ16) | skip
          have W0 : τ16.1 0 = σ.1 0 := by first | exact w0_τ16.trans W0 | omega
          have W3 : τ16.1 3 = σ.1 3 := by first | exact w3_τ16.trans W3 | omega
          have W7 : τ16.1 7 = σ.1 7 := by first | exact w7_τ16.trans W7 | omega
          have W8 : τ16.1 8 = σ.1 8 := by first | exact w8_τ16.trans W8 | omega
          have W9 : τ16.1 9 = σ.1 9 := by first | exact w9_τ16.trans W9 | omega
          have W10 : τ16.1 10 = σ.1 10 := by first | exact w10_τ16.trans W10 | omega
          have W11 : τ16.1 11 = σ.1 11 := by first | exact w11_τ16.trans W11 | omega
          have W15 : τ16.1 15 = σ.1 15 := by first | exact w15_τ16.trans W15 | omega
          have W22 : τ16.1 22 = σ.1 22 := by first | exact w22_τ16.trans W22 | omega
          have G6 : τ16.2.1 6 = σ.2.1 6 := (g6_τ16).trans G6
          have G7 : τ16.2.1 7 = σ.2.1 7 := (g7_τ16).trans G7
          have G8 : τ16.2.1 8 = σ.2.1 8 := (g8_τ16).trans G8
          have G9 : τ16.2.1 9 = σ.2.1 9 := (g9_τ16).trans G9
          have G14 : τ16.2.1 14 = σ.2.1 14 := (g14_τ16).trans G14
          have G35 : τ16.2.1 35 = σ.2.1 35 := (g35_τ16).trans G35
          have y14_22_τ16 : τ16.2.1 14 (τ16.1 22) = (τ11.2.1 14) (τ11.1 22) := by rw [g14_τ16, w22_τ16]
          have y15_22_τ16 : τ16.2.1 15 (τ16.1 22) = (τ11.2.1 15) (τ11.1 22) := by rw [g15_τ16, w22_τ16]
          have Z1 : τ16.2.1 14 (τ16.1 22) + τ16.2.1 15 (τ16.1 22) = (τ16.1 6) := by rw [show (τ16.2.1 14 (τ16.1 22) + τ16.2.1 15 (τ16.1 22) = (τ16.1 6)) = (τ11.2.1 14 (τ11.1 22) + τ11.2.1 15 (τ11.1 22) = (τ11.1 6)) from by rw [w6_τ16, w22_τ16, g14_τ16, g15_τ16]]; exact Z1
          have Y20 : ca (τ16.2.1 12) ((τ16.1 3)) ≤ (τ16.1 4) := by rw [show (ca (τ16.2.1 12) ((τ16.1 3)) ≤ (τ16.1 4)) = (ca (τ11.2.1 12) ((τ11.1 3)) ≤ (τ11.1 4)) from by rw [w3_τ16, w4_τ16, g12_τ16]]; exact Y20
          have Y1 : j_l2 (τ16.2.1 6) (τ16.1 3) := by rw [show (j_l2 (τ16.2.1 6) (τ16.1 3)) = (j_l2 (τ11.2.1 6) (τ11.1 3)) from by rw [w3_τ16, g6_τ16]]; exact Y1
          have STt : j_l2 (τ16.2.1 6) (τ16.1 3) := by rw [show (j_l2 (τ16.2.1 6) (τ16.1 3)) = (j_l2 (τ11.2.1 6) (τ11.1 3)) from by rw [w3_τ16, g6_τ16]]; exact STt
          have A6 : ∀ j, (-1) ≤ τ16.2.1 6 j ∧ τ16.2.1 6 j ≤ 999 := fun j => hT.2 6 j
          have A7 : ∀ j, (-1) ≤ τ16.2.1 7 j ∧ τ16.2.1 7 j ≤ 1499 := fun j => hT.2 7 j
          have A8 : ∀ j, 0 ≤ τ16.2.1 8 j ∧ τ16.2.1 8 j ≤ 1 := fun j => hT.2 8 j
          have A9 : ∀ j, 0 ≤ τ16.2.1 9 j ∧ τ16.2.1 9 j ≤ 1 := fun j => hT.2 9 j
          have A10 : ∀ j, (-1) ≤ τ16.2.1 10 j ∧ τ16.2.1 10 j ≤ 999 := fun j => hT.2 10 j
          have A11 : ∀ j, (-1) ≤ τ16.2.1 11 j ∧ τ16.2.1 11 j ≤ 1499 := fun j => hT.2 11 j
          have A12 : ∀ j, 0 ≤ τ16.2.1 12 j ∧ τ16.2.1 12 j ≤ 1 := fun j => hT.2 12 j
          have A13 : ∀ j, 0 ≤ τ16.2.1 13 j ∧ τ16.2.1 13 j ≤ 4 := fun j => hT.2 13 j
          have A14 : ∀ j, 0 ≤ τ16.2.1 14 j ∧ τ16.2.1 14 j ≤ 30000 := fun j => hT.2 14 j
          have A15 : ∀ j, 0 ≤ τ16.2.1 15 j ∧ τ16.2.1 15 j ≤ 300 := fun j => hT.2 15 j
          have A16 : ∀ j, 0 ≤ τ16.2.1 16 j ∧ τ16.2.1 16 j ≤ 999 := fun j => hT.2 16 j
          have A17 : ∀ j, (-1) ≤ τ16.2.1 17 j ∧ τ16.2.1 17 j ≤ 1499 := fun j => hT.2 17 j
          have A31 : ∀ j, 0 ≤ τ16.2.1 31 j ∧ τ16.2.1 31 j ≤ 1499 := fun j => hT.2 31 j
          have A35 : ∀ j, 0 ≤ τ16.2.1 35 j ∧ τ16.2.1 35 j ≤ 1500 := fun j => hT.2 35 j
          have v0 : 0 ≤ τ16.1 0 ∧ τ16.1 0 ≤ 60000 := hT.1 0
          have v3 : 0 ≤ τ16.1 3 ∧ τ16.1 3 ≤ 1000 := hT.1 3
          have v4 : 0 ≤ τ16.1 4 ∧ τ16.1 4 ≤ 100 := hT.1 4
          have v5 : 0 ≤ τ16.1 5 ∧ τ16.1 5 ≤ 1500 := hT.1 5
          have v6 : 0 ≤ τ16.1 6 ∧ τ16.1 6 ≤ 30000 := hT.1 6
          have v7 : 0 ≤ τ16.1 7 ∧ τ16.1 7 ≤ 90000 := hT.1 7
          have v8 : 0 ≤ τ16.1 8 ∧ τ16.1 8 ≤ 20000 := hT.1 8
          have v9 : 0 ≤ τ16.1 9 ∧ τ16.1 9 ≤ 20000 := hT.1 9
          have v10 : (-1) ≤ τ16.1 10 ∧ τ16.1 10 ≤ 999 := hT.1 10
          have v11 : (-1) ≤ τ16.1 11 ∧ τ16.1 11 ≤ 999 := hT.1 11
          have v13 : 0 ≤ τ16.1 13 ∧ τ16.1 13 ≤ 1500 := hT.1 13
          have v15 : 0 ≤ τ16.1 15 ∧ τ16.1 15 ≤ 50 := hT.1 15
          have v16 : 0 ≤ τ16.1 16 ∧ τ16.1 16 ≤ 60000 := hT.1 16
          have v17 : 0 ≤ τ16.1 17 ∧ τ16.1 17 ≤ 60000 := hT.1 17
          have v18 : 0 ≤ τ16.1 18 ∧ τ16.1 18 ≤ 60000 := hT.1 18
          have v19 : (-1) ≤ τ16.1 19 ∧ τ16.1 19 ≤ 125 := hT.1 19
          have v20 : 0 ≤ τ16.1 20 ∧ τ16.1 20 ≤ 19 := hT.1 20
          have v22 : 0 ≤ τ16.1 22 ∧ τ16.1 22 ≤ 1499 := hT.1 22
          have a14_22 : 0 ≤ τ16.2.1 14 (τ16.1 22) ∧ τ16.2.1 14 (τ16.1 22) ≤ 30000 := hT.2 14 _
          have a15_22 : 0 ≤ τ16.2.1 15 (τ16.1 22) ∧ τ16.2.1 15 (τ16.1 22) ≤ 300 := hT.2 15 _
          have av5 : σ.1 5 ≤ τ16.1 5 := ag.1 5 (by decide)
          have av6 : σ.1 6 ≤ τ16.1 6 := ag.1 6 (by decide)
          exact l_47 _ hT ag (show τ16.1 0 = σ.1 0 from by first | exact W0 | omega) (show τ16.1 3 = σ.1 3 from by first | exact W3 | omega) (show τ16.1 7 = σ.1 7 from by first | exact W7 | omega) (show τ16.1 8 = σ.1 8 from by first | exact W8 | omega) (show τ16.1 9 = σ.1 9 from by first | exact W9 | omega) (show τ16.1 10 = σ.1 10 from by first | exact W10 | omega) (show τ16.1 11 = σ.1 11 from by first | exact W11 | omega) (show τ16.1 15 = σ.1 15 from by first | exact W15 | omega) (show τ16.1 22 = σ.1 22 from by first | exact W22 | omega) G6 G7 G8 G9 G14 G35 (show (τ16.1 16) ≤ (τ16.1 0) from by (first | omega | (simp only [st_s] <;> omega) | assumption | omega | fail)) (show (τ16.1 17) + (τ16.1 18) ≤ (τ16.1 0) from by (first | omega | (simp only [st_s] <;> omega) | assumption | omega | fail)) (show oc (τ16.2.1 6) < 4096 from by (first | omega | (simp only [st_s] <;> omega) | assumption | omega | fail)) (show oc (τ16.2.1 7) < 4096 from by (first | omega | (simp only [st_s] <;> omega) | assumption | omega | fail)) (show ¬ (σ.1 20) = 0 → (τ16.1 20) = (σ.1 20) from by (first | omega | (simp only [st_s] <;> omega) | assumption | omega | fail)) (show τ16.2.1 14 (τ16.1 22) + τ16.2.1 15 (τ16.1 22) = (τ16.1 6) from Z1) (show ca (τ16.2.1 12) ((τ16.1 3)) ≤ (τ16.1 4) from Y20) (show (τ16.1 5) = (σ.1 5) from by (first | omega | (simp only [st_s] <;> omega) | assumption | omega | fail)) (show (τ16.1 13) = (σ.1 13) from by (first | omega | (simp only [st_s] <;> omega) | assumption | omega | fail)) (show τ16.2.1 15 (τ16.1 22) ≤ 2 from by (first | omega | (simp only [st_s] <;> omega) | assumption | omega | fail)) (show (σ.1 16) ≤ (τ16.1 16) from by (first | omega | (simp only [st_s] <;> omega) | assumption | omega | fail)) (show (τ16.1 20) = 0 → τ16.2.1 15 (τ16.1 22) = 1 from by (first | omega | (simp only [st_s] <;> omega) | assumption | omega | fail)) (show τ16.2.1 11 = σ.2.1 11 from by (first | exact i15_13 | (rw [g11_τ11]; exact i15_13) | (rw [g11_τ16]; exact i15_13) | (rw [g11_τ16, g11_τ11]; exact i15_13) | fail)) (show τ16.2.1 31 = σ.2.1 31 from by (first | exact i15_14 | (rw [g31_τ11]; exact i15_14) | (rw [g31_τ16]; exact i15_14) | (rw [g31_τ16, g31_τ11]; exact i15_14) | fail)) (show τ16.2.1 13 = σ.2.1 13 from by (first | exact i15_15 | (rw [g13_τ11]; exact i15_15) | (rw [g13_τ16]; exact i15_15) | (rw [g13_τ16, g13_τ11]; exact i15_15) | fail)) (show τ16.2.1 10 = σ.2.1 10 from by (first | exact i15_16 | (rw [g10_τ11]; exact i15_16) | (rw [g10_τ16]; exact i15_16) | (rw [g10_τ16, g10_τ11]; exact i15_16) | fail)) (show n_rl σ τ16 from by (first | exact i15_17 | exact n_rl_r i15_17 hf_τ11 rfl rfl | exact n_rl_r i15_17 hf_τ16 rfl rfl | exact n_rl_r (n_rl_r i15_17 hf_τ11 rfl rfl) hf_τ16 rfl rfl | fail)) (show (τ16.1 20) = 0 → n_N (τ16.2.1 14 (τ16.1 22)) (τ16.2.1 14 (τ16.1 22) + τ16.2.1 15 (τ16.1 22)) (σ.1 3) (σ.2.1 8) (σ.2.1 11) (τ16.2.1 12) (τ16.2.1 16) (τ16.2.1 17) from by (intro z; first | (exfalso; omega) | exact i15_18 (by omega) | (rw [g14_τ11, g15_τ11, g12_τ11, g16_τ11, g17_τ11, w22_τ11]; exact i15_18 (by omega)) | (rw [g14_τ16, g15_τ16, g12_τ16, g16_τ16, g17_τ16, w22_τ16]; exact i15_18 (by omega)) | (rw [g14_τ16, g15_τ16, g12_τ16, g16_τ16, g17_τ16, w22_τ16, g14_τ11, g15_τ11, g12_τ11, g16_τ11, g17_τ11, w22_τ11]; exact i15_18 (by omega))))
    ·
      exact ⟨hT, (show (τ_15.1 16) ≤ (τ_15.1 0) from by (first | omega | (simp only [st_s] <;> omega) | assumption | omega | fail)), (show (τ_15.1 17) + (τ_15.1 18) ≤ (τ_15.1 0) from by (first | omega | (simp only [st_s] <;> omega) | assumption | omega | fail)), (show ¬ (σ.1 20) = 0 → (τ_15.1 20) = (σ.1 20) from by (first | omega | (simp only [st_s] <;> omega) | assumption | omega | fail)), (show τ_15.2.1 14 (τ_15.1 22) + τ_15.2.1 15 (τ_15.1 22) = (τ_15.1 6) from Z1), (show ca (τ_15.2.1 12) ((τ_15.1 3)) ≤ (τ_15.1 4) from Y20), (show (τ_15.1 13) ≤ (τ_15.1 5) from by (first | omega | (simp only [st_s] <;> omega) | assumption | omega | fail)), (show (τ_15.1 20) = 0 → (τ_15.1 5) = (σ.1 5) + 1 ∧ 2 ≤ τ_15.2.1 15 (τ_15.1 22) from by (first | omega | (simp only [st_s] <;> omega) | assumption | omega | fail)), (show (τ_15.1 5) ≤ (σ.1 5) + 1 from by (first | omega | (simp only [st_s] <;> omega) | assumption | omega | fail)), (show (σ.1 16) ≤ (τ_15.1 16) from by (first | omega | (simp only [st_s] <;> omega) | assumption | omega | fail)), ag, (show (τ_15.1 20) = 0 → n_J1 (σ.1 5) τ_15 ∧ n_S τ_15 from by (first | (intro z; exfalso; omega) | exact fun _ => ⟨j81, s81⟩ | fail)), (show n_rl σ τ_15 from by (first | exact i15_17 | exact i47_17 | exact i211_21 | exact i253_22 | exact rl81 | fail)), (show n_hk σ τ_15 from by (first | exact hk81 | exact n_hk_g (by omega) (by omega) i15_14 G35 | exact n_hk_g (by omega) (by omega) i47_14 G35 | exact n_hk_g (by omega) (by omega) i211_18 G35 | exact n_hk_g (by omega) (by omega) i253_19 G35 | fail))⟩
  refine ⟨_, K_X13_next hT (show (σ.1 16) ≤ (σ.1 0) from by (first | omega | (simp only [st_s] <;> omega) | assumption | omega | fail)), ?_⟩
  intro τ3 hn_τ3 hf_τ3 hq
  obtain ⟨hT, q1_1, q1_2, q1_3, q1_4, q1_5⟩ := hq
  replace q1_1 : (τ3.1 16) ≤ (τ3.1 0) := q1_1
  replace q1_2 : (τ3.1 17) + (τ3.1 18) ≤ (τ3.1 0) := q1_2
  replace q1_3 : (σ.1 16) ≤ (τ3.1 16) := q1_3
  replace q1_4 : ¬ (σ.1 20) = 0 → (τ3.1 20) = (σ.1 20) := q1_4
  replace q1_5 : (τ3.1 20) = 0 → ¬ (τ3.1 19) = 0 → (σ.1 16) < (τ3.1 16) ∧ 0 < (τ3.1 18) := q1_5
  replace ag : m_ag σ τ3 := ag_r ag hf_τ3 rfl rfl
  have w0_τ3 : τ3.1 0 = σ.1 0 := hf_τ3.1 0 (by decide)
  have w3_τ3 : τ3.1 3 = σ.1 3 := hf_τ3.1 3 (by decide)
  have w4_τ3 : τ3.1 4 = σ.1 4 := hf_τ3.1 4 (by decide)
  have w5_τ3 : τ3.1 5 = σ.1 5 := hf_τ3.1 5 (by decide)
  have w6_τ3 : τ3.1 6 = σ.1 6 := hf_τ3.1 6 (by decide)
  have w7_τ3 : τ3.1 7 = σ.1 7 := hf_τ3.1 7 (by decide)
  have w8_τ3 : τ3.1 8 = σ.1 8 := hf_τ3.1 8 (by decide)
  have w9_τ3 : τ3.1 9 = σ.1 9 := hf_τ3.1 9 (by decide)
  have w10_τ3 : τ3.1 10 = σ.1 10 := hf_τ3.1 10 (by decide)
  have w11_τ3 : τ3.1 11 = σ.1 11 := hf_τ3.1 11 (by decide)
  have w13_τ3 : τ3.1 13 = σ.1 13 := hf_τ3.1 13 (by decide)
  have w15_τ3 : τ3.1 15 = σ.1 15 := hf_τ3.1 15 (by decide)
  have w22_τ3 : τ3.1 22 = σ.1 22 := hf_τ3.1 22 (by decide)
  have g6_τ3 : τ3.2.1 6 = σ.2.1 6 := hf_τ3.2.1 6 (by decide)
  have g7_τ3 : τ3.2.1 7 = σ.2.1 7 := hf_τ3.2.1 7 (by decide)
  have g8_τ3 : τ3.2.1 8 = σ.2.1 8 := hf_τ3.2.1 8 (by decide)
  have g9_τ3 : τ3.2.1 9 = σ.2.1 9 := hf_τ3.2.1 9 (by decide)
  have g10_τ3 : τ3.2.1 10 = σ.2.1 10 := hf_τ3.2.1 10 (by decide)
  have g11_τ3 : τ3.2.1 11 = σ.2.1 11 := hf_τ3.2.1 11 (by decide)
  have g12_τ3 : τ3.2.1 12 = σ.2.1 12 := hf_τ3.2.1 12 (by decide)
  have g13_τ3 : τ3.2.1 13 = σ.2.1 13 := hf_τ3.2.1 13 (by decide)
  have g14_τ3 : τ3.2.1 14 = σ.2.1 14 := hf_τ3.2.1 14 (by decide)
  have g15_τ3 : τ3.2.1 15 = σ.2.1 15 := hf_τ3.2.1 15 (by decide)
  have g16_τ3 : τ3.2.1 16 = σ.2.1 16 := hf_τ3.2.1 16 (by decide)
  have g17_τ3 : τ3.2.1 17 = σ.2.1 17 := hf_τ3.2.1 17 (by decide)
  have g31_τ3 : τ3.2.1 31 = σ.2.1 31 := hf_τ3.2.1 31 (by decide)
  have g35_τ3 : τ3.2.1 35 = σ.2.1 35 := hf_τ3.2.1 35 (by decide)
  first | (have ca_τ3 := congr (congrArg ca g9_τ3) w3_τ3) | skip
  first | (have o6_τ3 := congrArg oc g6_τ3) | skip
  first | (have o7_τ3 := congrArg oc g7_τ3) | skip
  have W0 : τ3.1 0 = σ.1 0 := by first | exact w0_τ3.trans W0 | omega
  have W3 : τ3.1 3 = σ.1 3 := by first | exact w3_τ3.trans W3 | omega
  have W7 : τ3.1 7 = σ.1 7 := by first | exact w7_τ3.trans W7 | omega
  have W8 : τ3.1 8 = σ.1 8 := by first | exact w8_τ3.trans W8 | omega
  have W9 : τ3.1 9 = σ.1 9 := by first | exact w9_τ3.trans W9 | omega
  have W10 : τ3.1 10 = σ.1 10 := by first | exact w10_τ3.trans W10 | omega
  have W11 : τ3.1 11 = σ.1 11 := by first | exact w11_τ3.trans W11 | omega
  have W15 : τ3.1 15 = σ.1 15 := by first | exact w15_τ3.trans W15 | omega
  have W22 : τ3.1 22 = σ.1 22 := by first | exact w22_τ3.trans W22 | omega
  have G6 : τ3.2.1 6 = σ.2.1 6 := (g6_τ3).trans G6
  have G7 : τ3.2.1 7 = σ.2.1 7 := (g7_τ3).trans G7
  have G8 : τ3.2.1 8 = σ.2.1 8 := (g8_τ3).trans G8
  have G9 : τ3.2.1 9 = σ.2.1 9 := (g9_τ3).trans G9
  have G14 : τ3.2.1 14 = σ.2.1 14 := (g14_τ3).trans G14
  have G35 : τ3.2.1 35 = σ.2.1 35 := (g35_τ3).trans G35
  have y14_22_τ3 : τ3.2.1 14 (τ3.1 22) = (σ.2.1 14) (σ.1 22) := by rw [g14_τ3, w22_τ3]
  have y15_22_τ3 : τ3.2.1 15 (τ3.1 22) = (σ.2.1 15) (σ.1 22) := by rw [g15_τ3, w22_τ3]
  have Z1 : τ3.2.1 14 (τ3.1 22) + τ3.2.1 15 (τ3.1 22) = (τ3.1 6) := by rw [show (τ3.2.1 14 (τ3.1 22) + τ3.2.1 15 (τ3.1 22) = (τ3.1 6)) = (σ.2.1 14 (σ.1 22) + σ.2.1 15 (σ.1 22) = (σ.1 6)) from by rw [w6_τ3, w22_τ3, g14_τ3, g15_τ3]]; exact Z1
  have Y20 : ca (τ3.2.1 12) ((τ3.1 3)) ≤ (τ3.1 4) := by rw [show (ca (τ3.2.1 12) ((τ3.1 3)) ≤ (τ3.1 4)) = (ca (σ.2.1 12) ((σ.1 3)) ≤ (σ.1 4)) from by rw [w3_τ3, w4_τ3, g12_τ3]]; exact Y20
  have Y1 : j_l2 (τ3.2.1 6) (τ3.1 3) := by rw [show (j_l2 (τ3.2.1 6) (τ3.1 3)) = (j_l2 (σ.2.1 6) (σ.1 3)) from by rw [w3_τ3, g6_τ3]]; exact Y1
  have STt : j_l2 (τ3.2.1 6) (τ3.1 3) := by rw [show (j_l2 (τ3.2.1 6) (τ3.1 3)) = (j_l2 (σ.2.1 6) (σ.1 3)) from by rw [w3_τ3, g6_τ3]]; exact STt
  have A6 : ∀ j, (-1) ≤ τ3.2.1 6 j ∧ τ3.2.1 6 j ≤ 999 := fun j => hT.2 6 j
  have A7 : ∀ j, (-1) ≤ τ3.2.1 7 j ∧ τ3.2.1 7 j ≤ 1499 := fun j => hT.2 7 j
  have A8 : ∀ j, 0 ≤ τ3.2.1 8 j ∧ τ3.2.1 8 j ≤ 1 := fun j => hT.2 8 j
  have A9 : ∀ j, 0 ≤ τ3.2.1 9 j ∧ τ3.2.1 9 j ≤ 1 := fun j => hT.2 9 j
  have A10 : ∀ j, (-1) ≤ τ3.2.1 10 j ∧ τ3.2.1 10 j ≤ 999 := fun j => hT.2 10 j
  have A11 : ∀ j, (-1) ≤ τ3.2.1 11 j ∧ τ3.2.1 11 j ≤ 1499 := fun j => hT.2 11 j
  have A12 : ∀ j, 0 ≤ τ3.2.1 12 j ∧ τ3.2.1 12 j ≤ 1 := fun j => hT.2 12 j
  have A13 : ∀ j, 0 ≤ τ3.2.1 13 j ∧ τ3.2.1 13 j ≤ 4 := fun j => hT.2 13 j
  have A14 : ∀ j, 0 ≤ τ3.2.1 14 j ∧ τ3.2.1 14 j ≤ 30000 := fun j => hT.2 14 j
  have A15 : ∀ j, 0 ≤ τ3.2.1 15 j ∧ τ3.2.1 15 j ≤ 300 := fun j => hT.2 15 j
  have A16 : ∀ j, 0 ≤ τ3.2.1 16 j ∧ τ3.2.1 16 j ≤ 999 := fun j => hT.2 16 j
  have A17 : ∀ j, (-1) ≤ τ3.2.1 17 j ∧ τ3.2.1 17 j ≤ 1499 := fun j => hT.2 17 j
  have A31 : ∀ j, 0 ≤ τ3.2.1 31 j ∧ τ3.2.1 31 j ≤ 1499 := fun j => hT.2 31 j
  have A35 : ∀ j, 0 ≤ τ3.2.1 35 j ∧ τ3.2.1 35 j ≤ 1500 := fun j => hT.2 35 j
  have v0 : 0 ≤ τ3.1 0 ∧ τ3.1 0 ≤ 60000 := hT.1 0
  have v3 : 0 ≤ τ3.1 3 ∧ τ3.1 3 ≤ 1000 := hT.1 3
  have v4 : 0 ≤ τ3.1 4 ∧ τ3.1 4 ≤ 100 := hT.1 4
  have v5 : 0 ≤ τ3.1 5 ∧ τ3.1 5 ≤ 1500 := hT.1 5
  have v6 : 0 ≤ τ3.1 6 ∧ τ3.1 6 ≤ 30000 := hT.1 6
  have v7 : 0 ≤ τ3.1 7 ∧ τ3.1 7 ≤ 90000 := hT.1 7
  have v8 : 0 ≤ τ3.1 8 ∧ τ3.1 8 ≤ 20000 := hT.1 8
  have v9 : 0 ≤ τ3.1 9 ∧ τ3.1 9 ≤ 20000 := hT.1 9
  have v10 : (-1) ≤ τ3.1 10 ∧ τ3.1 10 ≤ 999 := hT.1 10
  have v11 : (-1) ≤ τ3.1 11 ∧ τ3.1 11 ≤ 999 := hT.1 11
  have v13 : 0 ≤ τ3.1 13 ∧ τ3.1 13 ≤ 1500 := hT.1 13
  have v15 : 0 ≤ τ3.1 15 ∧ τ3.1 15 ≤ 50 := hT.1 15
  have v16 : 0 ≤ τ3.1 16 ∧ τ3.1 16 ≤ 60000 := hT.1 16
  have v17 : 0 ≤ τ3.1 17 ∧ τ3.1 17 ≤ 60000 := hT.1 17
  have v18 : 0 ≤ τ3.1 18 ∧ τ3.1 18 ≤ 60000 := hT.1 18
  have v19 : (-1) ≤ τ3.1 19 ∧ τ3.1 19 ≤ 125 := hT.1 19
  have v20 : 0 ≤ τ3.1 20 ∧ τ3.1 20 ≤ 19 := hT.1 20
  have v22 : 0 ≤ τ3.1 22 ∧ τ3.1 22 ≤ 1499 := hT.1 22
  have a14_22 : 0 ≤ τ3.2.1 14 (τ3.1 22) ∧ τ3.2.1 14 (τ3.1 22) ≤ 30000 := hT.2 14 _
  have a15_22 : 0 ≤ τ3.2.1 15 (τ3.1 22) ∧ τ3.2.1 15 (τ3.1 22) ≤ 300 := hT.2 15 _
  have av5 : σ.1 5 ≤ τ3.1 5 := ag.1 5 (by decide)
  have av6 : σ.1 6 ≤ τ3.1 6 := ag.1 6 (by decide)
  refine ⟨fun c4 => ?_, fun c4 => ?_⟩
  ·
    exact l_15 _ hT ag (show τ3.1 0 = σ.1 0 from by first | exact W0 | omega) (show τ3.1 3 = σ.1 3 from by first | exact W3 | omega) (show τ3.1 7 = σ.1 7 from by first | exact W7 | omega) (show τ3.1 8 = σ.1 8 from by first | exact W8 | omega) (show τ3.1 9 = σ.1 9 from by first | exact W9 | omega) (show τ3.1 10 = σ.1 10 from by first | exact W10 | omega) (show τ3.1 11 = σ.1 11 from by first | exact W11 | omega) (show τ3.1 15 = σ.1 15 from by first | exact W15 | omega) (show τ3.1 22 = σ.1 22 from by first | exact W22 | omega) G6 G7 G8 G9 G14 G35 (show (τ3.1 16) ≤ (τ3.1 0) from by (first | omega | (simp only [st_s] <;> omega) | assumption | omega | fail)) (show (τ3.1 17) + (τ3.1 18) ≤ (τ3.1 0) from by (first | omega | (simp only [st_s] <;> omega) | assumption | omega | fail)) (show oc (τ3.2.1 6) < 4096 from by (first | omega | (simp only [st_s] <;> omega) | assumption | omega | fail)) (show oc (τ3.2.1 7) < 4096 from by (first | omega | (simp only [st_s] <;> omega) | assumption | omega | fail)) (show ¬ (σ.1 20) = 0 → (τ3.1 20) = (σ.1 20) from by (first | omega | (simp only [st_s] <;> omega) | assumption | omega | fail)) (show τ3.2.1 14 (τ3.1 22) + τ3.2.1 15 (τ3.1 22) = (τ3.1 6) from Z1) (show ca (τ3.2.1 12) ((τ3.1 3)) ≤ (τ3.1 4) from Y20) (show (τ3.1 5) = (σ.1 5) from by (first | omega | (simp only [st_s] <;> omega) | assumption | omega | fail)) (show (τ3.1 13) = (σ.1 13) from by (first | omega | (simp only [st_s] <;> omega) | assumption | omega | fail)) (show τ3.2.1 15 (τ3.1 22) ≤ 2 from by (first | omega | (simp only [st_s] <;> omega) | assumption | omega | fail)) (show (σ.1 16) ≤ (τ3.1 16) from by (first | omega | (simp only [st_s] <;> omega) | assumption | omega | fail)) (show (τ3.1 20) = 0 → τ3.2.1 15 (τ3.1 22) = 1 from by (first | omega | (simp only [st_s] <;> omega) | assumption | omega | fail)) (show τ3.2.1 11 = σ.2.1 11 from by (first | exact g11_τ3 | (rw [g11_τ7, g11_τ3]) | fail)) (show τ3.2.1 31 = σ.2.1 31 from by (first | exact g31_τ3 | (rw [g31_τ7, g31_τ3]) | fail)) (show τ3.2.1 13 = σ.2.1 13 from by (first | exact g13_τ3 | (rw [g13_τ7, g13_τ3]) | fail)) (show τ3.2.1 10 = σ.2.1 10 from by (first | exact g10_τ3 | (rw [g10_τ7, g10_τ3]) | fail)) (show n_rl σ τ3 from by (first | exact n_rl_h hf_τ3 rfl rfl | exact n_rl_t (n_rl_h hf_τ3 rfl rfl) q5_8 | fail)) (show (τ3.1 20) = 0 → n_N (τ3.2.1 14 (τ3.1 22)) (τ3.2.1 14 (τ3.1 22) + τ3.2.1 15 (τ3.1 22)) (σ.1 3) (σ.2.1 8) (σ.2.1 11) (τ3.2.1 12) (τ3.2.1 16) (τ3.2.1 17) from by (intro z; first | (exfalso; omega) | exact r57 (by omega)))
  ·
    refine ⟨_, K3_X13_readFirst hT (show (τ3.1 17) + (τ3.1 18) ≤ (τ3.1 0) from by (first | omega | (simp only [st_s] <;> omega) | assumption | omega | fail)) (show oc (τ3.2.1 6) < 4096 from by (first | omega | (simp only [st_s] <;> omega) | assumption | omega | fail)) (show τ3.2.1 15 (τ3.1 22) = 0 from by (first | omega | (simp only [st_s] <;> omega) | assumption | omega | fail)) (show (τ3.1 22) = (τ3.1 5) from by (first | omega | (simp only [st_s] <;> omega) | assumption | omega | fail)) (show τ3.2.1 14 (τ3.1 22) + τ3.2.1 15 (τ3.1 22) = (τ3.1 6) from Z1) (show ca (τ3.2.1 12) ((τ3.1 3)) ≤ (τ3.1 4) from Y20) (show j_l2 (τ3.2.1 6) (τ3.1 3) from STt), ?_⟩
    intro τ7 hn_τ7 hf_τ7 hq
    obtain ⟨hT, q5_1, q5_2, q5_3, q5_4, q5_5, q5_6, q5_7, q5_8, q5_9⟩ := hq
    replace q5_1 : (τ7.1 20) = 0 → τ7.2.1 15 (τ7.1 22) = 1 := q5_1
    replace q5_2 : τ7.2.1 15 (τ7.1 22) ≤ 1 := q5_2
    replace q5_3 : ¬ (τ3.1 20) = 0 → (τ7.1 20) = (τ3.1 20) := q5_3
    replace q5_4 : τ7.2.1 14 (τ7.1 22) + τ7.2.1 15 (τ7.1 22) = (τ7.1 6) := q5_4
    replace q5_5 : ca (τ7.2.1 12) ((τ7.1 3)) ≤ (τ7.1 4) := q5_5
    replace q5_6 : m_ag τ3 τ7 := q5_6
    replace q5_7 : (τ7.1 20) = 0 → n_N (τ7.2.1 14 (τ7.1 22)) (τ7.2.1 14 (τ7.1 22) + τ7.2.1 15 (τ7.1 22)) (τ3.1 3) (τ3.2.1 8) (τ3.2.1 11) (τ7.2.1 12) (τ7.2.1 16) (τ7.2.1 17) := q5_7
    replace q5_8 : n_rl τ3 τ7 := q5_8
    replace q5_9 : ∀ s : Int, ¬ τ3.2.1 12 s = 0 → ¬ τ7.2.1 12 s = 0 := q5_9
    replace ag : m_ag σ τ7 := ag_t ag q5_6 rfl
    have w0_τ7 : τ7.1 0 = τ3.1 0 := hf_τ7.1 0 (by decide)
    have w3_τ7 : τ7.1 3 = τ3.1 3 := hf_τ7.1 3 (by decide)
    have w5_τ7 : τ7.1 5 = τ3.1 5 := hf_τ7.1 5 (by decide)
    have w7_τ7 : τ7.1 7 = τ3.1 7 := hf_τ7.1 7 (by decide)
    have w8_τ7 : τ7.1 8 = τ3.1 8 := hf_τ7.1 8 (by decide)
    have w9_τ7 : τ7.1 9 = τ3.1 9 := hf_τ7.1 9 (by decide)
    have w10_τ7 : τ7.1 10 = τ3.1 10 := hf_τ7.1 10 (by decide)
    have w11_τ7 : τ7.1 11 = τ3.1 11 := hf_τ7.1 11 (by decide)
    have w13_τ7 : τ7.1 13 = τ3.1 13 := hf_τ7.1 13 (by decide)
    have w15_τ7 : τ7.1 15 = τ3.1 15 := hf_τ7.1 15 (by decide)
    have w16_τ7 : τ7.1 16 = τ3.1 16 := hf_τ7.1 16 (by decide)
    have w17_τ7 : τ7.1 17 = τ3.1 17 := hf_τ7.1 17 (by decide)
    have w18_τ7 : τ7.1 18 = τ3.1 18 := hf_τ7.1 18 (by decide)
    have w19_τ7 : τ7.1 19 = τ3.1 19 := hf_τ7.1 19 (by decide)
    have w22_τ7 : τ7.1 22 = τ3.1 22 := hf_τ7.1 22 (by decide)
    have g6_τ7 : τ7.2.1 6 = τ3.2.1 6 := hf_τ7.2.1 6 (by decide)
    have g7_τ7 : τ7.2.1 7 = τ3.2.1 7 := hf_τ7.2.1 7 (by decide)
    have g8_τ7 : τ7.2.1 8 = τ3.2.1 8 := hf_τ7.2.1 8 (by decide)
    have g9_τ7 : τ7.2.1 9 = τ3.2.1 9 := hf_τ7.2.1 9 (by decide)
    have g10_τ7 : τ7.2.1 10 = τ3.2.1 10 := hf_τ7.2.1 10 (by decide)
    have g11_τ7 : τ7.2.1 11 = τ3.2.1 11 := hf_τ7.2.1 11 (by decide)
    have g13_τ7 : τ7.2.1 13 = τ3.2.1 13 := hf_τ7.2.1 13 (by decide)
    have g14_τ7 : τ7.2.1 14 = τ3.2.1 14 := hf_τ7.2.1 14 (by decide)
    have g31_τ7 : τ7.2.1 31 = τ3.2.1 31 := hf_τ7.2.1 31 (by decide)
    have g35_τ7 : τ7.2.1 35 = τ3.2.1 35 := hf_τ7.2.1 35 (by decide)
    first | (have ca_τ7 := congr (congrArg ca g9_τ7) w3_τ7) | skip
    first | (have o6_τ7 := congrArg oc g6_τ7) | skip
    first | (have o7_τ7 := congrArg oc g7_τ7) | skip
    have W0 : τ7.1 0 = σ.1 0 := by first | exact w0_τ7.trans W0 | omega
    have W3 : τ7.1 3 = σ.1 3 := by first | exact w3_τ7.trans W3 | omega
    have W7 : τ7.1 7 = σ.1 7 := by first | exact w7_τ7.trans W7 | omega
    have W8 : τ7.1 8 = σ.1 8 := by first | exact w8_τ7.trans W8 | omega
    have W9 : τ7.1 9 = σ.1 9 := by first | exact w9_τ7.trans W9 | omega
    have W10 : τ7.1 10 = σ.1 10 := by first | exact w10_τ7.trans W10 | omega
    have W11 : τ7.1 11 = σ.1 11 := by first | exact w11_τ7.trans W11 | omega
    have W15 : τ7.1 15 = σ.1 15 := by first | exact w15_τ7.trans W15 | omega
    have W22 : τ7.1 22 = σ.1 22 := by first | exact w22_τ7.trans W22 | omega
    have G6 : τ7.2.1 6 = σ.2.1 6 := (g6_τ7).trans G6
    have G7 : τ7.2.1 7 = σ.2.1 7 := (g7_τ7).trans G7
    have G8 : τ7.2.1 8 = σ.2.1 8 := (g8_τ7).trans G8
    have G9 : τ7.2.1 9 = σ.2.1 9 := (g9_τ7).trans G9
    have G14 : τ7.2.1 14 = σ.2.1 14 := (g14_τ7).trans G14
    have G35 : τ7.2.1 35 = σ.2.1 35 := (g35_τ7).trans G35
    have y14_22_τ7 : τ7.2.1 14 (τ7.1 22) = (τ3.2.1 14) (τ3.1 22) := by rw [g14_τ7, w22_τ7]
    have Z1 : τ7.2.1 14 (τ7.1 22) + τ7.2.1 15 (τ7.1 22) = (τ7.1 6) := q5_4
    have Y20 : ca (τ7.2.1 12) ((τ7.1 3)) ≤ (τ7.1 4) := q5_5
    have Y1 : j_l2 (τ7.2.1 6) (τ7.1 3) := by rw [show (j_l2 (τ7.2.1 6) (τ7.1 3)) = (j_l2 (τ3.2.1 6) (τ3.1 3)) from by rw [w3_τ7, g6_τ7]]; exact Y1
    have STt : j_l2 (τ7.2.1 6) (τ7.1 3) := by rw [show (j_l2 (τ7.2.1 6) (τ7.1 3)) = (j_l2 (τ3.2.1 6) (τ3.1 3)) from by rw [w3_τ7, g6_τ7]]; exact STt
    have A6 : ∀ j, (-1) ≤ τ7.2.1 6 j ∧ τ7.2.1 6 j ≤ 999 := fun j => hT.2 6 j
    have A7 : ∀ j, (-1) ≤ τ7.2.1 7 j ∧ τ7.2.1 7 j ≤ 1499 := fun j => hT.2 7 j
    have A8 : ∀ j, 0 ≤ τ7.2.1 8 j ∧ τ7.2.1 8 j ≤ 1 := fun j => hT.2 8 j
    have A9 : ∀ j, 0 ≤ τ7.2.1 9 j ∧ τ7.2.1 9 j ≤ 1 := fun j => hT.2 9 j
    have A10 : ∀ j, (-1) ≤ τ7.2.1 10 j ∧ τ7.2.1 10 j ≤ 999 := fun j => hT.2 10 j
    have A11 : ∀ j, (-1) ≤ τ7.2.1 11 j ∧ τ7.2.1 11 j ≤ 1499 := fun j => hT.2 11 j
    have A12 : ∀ j, 0 ≤ τ7.2.1 12 j ∧ τ7.2.1 12 j ≤ 1 := fun j => hT.2 12 j
    have A13 : ∀ j, 0 ≤ τ7.2.1 13 j ∧ τ7.2.1 13 j ≤ 4 := fun j => hT.2 13 j
    have A14 : ∀ j, 0 ≤ τ7.2.1 14 j ∧ τ7.2.1 14 j ≤ 30000 := fun j => hT.2 14 j
    have A15 : ∀ j, 0 ≤ τ7.2.1 15 j ∧ τ7.2.1 15 j ≤ 300 := fun j => hT.2 15 j
    have A16 : ∀ j, 0 ≤ τ7.2.1 16 j ∧ τ7.2.1 16 j ≤ 999 := fun j => hT.2 16 j
    have A17 : ∀ j, (-1) ≤ τ7.2.1 17 j ∧ τ7.2.1 17 j ≤ 1499 := fun j => hT.2 17 j
    have A31 : ∀ j, 0 ≤ τ7.2.1 31 j ∧ τ7.2.1 31 j ≤ 1499 := fun j => hT.2 31 j
    have A35 : ∀ j, 0 ≤ τ7.2.1 35 j ∧ τ7.2.1 35 j ≤ 1500 := fun j => hT.2 35 j
    have v0 : 0 ≤ τ7.1 0 ∧ τ7.1 0 ≤ 60000 := hT.1 0
    have v3 : 0 ≤ τ7.1 3 ∧ τ7.1 3 ≤ 1000 := hT.1 3
    have v4 : 0 ≤ τ7.1 4 ∧ τ7.1 4 ≤ 100 := hT.1 4
    have v5 : 0 ≤ τ7.1 5 ∧ τ7.1 5 ≤ 1500 := hT.1 5
    have v6 : 0 ≤ τ7.1 6 ∧ τ7.1 6 ≤ 30000 := hT.1 6
    have v7 : 0 ≤ τ7.1 7 ∧ τ7.1 7 ≤ 90000 := hT.1 7
    have v8 : 0 ≤ τ7.1 8 ∧ τ7.1 8 ≤ 20000 := hT.1 8
    have v9 : 0 ≤ τ7.1 9 ∧ τ7.1 9 ≤ 20000 := hT.1 9
    have v10 : (-1) ≤ τ7.1 10 ∧ τ7.1 10 ≤ 999 := hT.1 10
    have v11 : (-1) ≤ τ7.1 11 ∧ τ7.1 11 ≤ 999 := hT.1 11
    have v13 : 0 ≤ τ7.1 13 ∧ τ7.1 13 ≤ 1500 := hT.1 13
    have v15 : 0 ≤ τ7.1 15 ∧ τ7.1 15 ≤ 50 := hT.1 15
    have v16 : 0 ≤ τ7.1 16 ∧ τ7.1 16 ≤ 60000 := hT.1 16
    have v17 : 0 ≤ τ7.1 17 ∧ τ7.1 17 ≤ 60000 := hT.1 17
    have v18 : 0 ≤ τ7.1 18 ∧ τ7.1 18 ≤ 60000 := hT.1 18
    have v19 : (-1) ≤ τ7.1 19 ∧ τ7.1 19 ≤ 125 := hT.1 19
    have v20 : 0 ≤ τ7.1 20 ∧ τ7.1 20 ≤ 19 := hT.1 20
    have v22 : 0 ≤ τ7.1 22 ∧ τ7.1 22 ≤ 1499 := hT.1 22
    have a14_22 : 0 ≤ τ7.2.1 14 (τ7.1 22) ∧ τ7.2.1 14 (τ7.1 22) ≤ 30000 := hT.2 14 _
    have a15_22 : 0 ≤ τ7.2.1 15 (τ7.1 22) ∧ τ7.2.1 15 (τ7.1 22) ≤ 300 := hT.2 15 _
    have av5 : σ.1 5 ≤ τ7.1 5 := ag.1 5 (by decide)
    have av6 : σ.1 6 ≤ τ7.1 6 := ag.1 6 (by decide)
    have r57 : τ7.1 20 = 0 → n_N (τ7.2.1 14 (τ7.1 22)) (τ7.2.1 14 (τ7.1 22) + τ7.2.1 15 (τ7.1 22)) (σ.1 3) (σ.2.1 8) (σ.2.1 11) (τ7.2.1 12) (τ7.2.1 16) (τ7.2.1 17) := fun z => by (have w := q5_7 z; rw [w3_τ3, g8_τ3, g11_τ3] at w; exact w)
    exact l_15 _ hT ag (show τ7.1 0 = σ.1 0 from by first | exact W0 | omega) (show τ7.1 3 = σ.1 3 from by first | exact W3 | omega) (show τ7.1 7 = σ.1 7 from by first | exact W7 | omega) (show τ7.1 8 = σ.1 8 from by first | exact W8 | omega) (show τ7.1 9 = σ.1 9 from by first | exact W9 | omega) (show τ7.1 10 = σ.1 10 from by first | exact W10 | omega) (show τ7.1 11 = σ.1 11 from by first | exact W11 | omega) (show τ7.1 15 = σ.1 15 from by first | exact W15 | omega) (show τ7.1 22 = σ.1 22 from by first | exact W22 | omega) G6 G7 G8 G9 G14 G35 (show (τ7.1 16) ≤ (τ7.1 0) from by (first | omega | (simp only [st_s] <;> omega) | assumption | omega | fail)) (show (τ7.1 17) + (τ7.1 18) ≤ (τ7.1 0) from by (first | omega | (simp only [st_s] <;> omega) | assumption | omega | fail)) (show oc (τ7.2.1 6) < 4096 from by (first | omega | (simp only [st_s] <;> omega) | assumption | omega | fail)) (show oc (τ7.2.1 7) < 4096 from by (first | omega | (simp only [st_s] <;> omega) | assumption | omega | fail)) (show ¬ (σ.1 20) = 0 → (τ7.1 20) = (σ.1 20) from by (first | omega | (simp only [st_s] <;> omega) | assumption | omega | fail)) (show τ7.2.1 14 (τ7.1 22) + τ7.2.1 15 (τ7.1 22) = (τ7.1 6) from Z1) (show ca (τ7.2.1 12) ((τ7.1 3)) ≤ (τ7.1 4) from Y20) (show (τ7.1 5) = (σ.1 5) from by (first | omega | (simp only [st_s] <;> omega) | assumption | omega | fail)) (show (τ7.1 13) = (σ.1 13) from by (first | omega | (simp only [st_s] <;> omega) | assumption | omega | fail)) (show τ7.2.1 15 (τ7.1 22) ≤ 2 from by (first | omega | (simp only [st_s] <;> omega) | assumption | omega | fail)) (show (σ.1 16) ≤ (τ7.1 16) from by (first | omega | (simp only [st_s] <;> omega) | assumption | omega | fail)) (show (τ7.1 20) = 0 → τ7.2.1 15 (τ7.1 22) = 1 from by (first | omega | (simp only [st_s] <;> omega) | assumption | omega | fail)) (show τ7.2.1 11 = σ.2.1 11 from by (first | exact g11_τ3 | (rw [g11_τ7, g11_τ3]) | fail)) (show τ7.2.1 31 = σ.2.1 31 from by (first | exact g31_τ3 | (rw [g31_τ7, g31_τ3]) | fail)) (show τ7.2.1 13 = σ.2.1 13 from by (first | exact g13_τ3 | (rw [g13_τ7, g13_τ3]) | fail)) (show τ7.2.1 10 = σ.2.1 10 from by (first | exact g10_τ3 | (rw [g10_τ7, g10_τ3]) | fail)) (show n_rl σ τ7 from by (first | exact n_rl_h hf_τ3 rfl rfl | exact n_rl_t (n_rl_h hf_τ3 rfl rfl) q5_8 | fail)) (show (τ7.1 20) = 0 → n_N (τ7.2.1 14 (τ7.1 22)) (τ7.2.1 14 (τ7.1 22) + τ7.2.1 15 (τ7.1 22)) (σ.1 3) (σ.2.1 8) (σ.2.1 11) (τ7.2.1 12) (τ7.2.1 16) (τ7.2.1 17) from by (intro z; first | (exfalso; omega) | exact r57 (by omega)))
