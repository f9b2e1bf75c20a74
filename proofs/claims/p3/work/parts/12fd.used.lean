
set_option maxHeartbeats 8000000 in
theorem K_X13_isUsedBefore {n1 : Int} {n2 : Int} {σ : S0} (hT : m_T σ) (p1 : 0 ≤ n1) (p2 : n1 ≤ (σ.1 5)) (p3 : 0 ≤ n2) (p4 : n2 < (σ.1 5)) (p5 : ca (σ.2.1 12) ((σ.1 3)) ≤ (σ.1 4)) (p6 : n_J σ) (p7 : m_J σ) (p8 : (σ.1 10) < (σ.1 3)) (p9 : (σ.1 49) = 0 ∨ (y_TT σ σ (σ.1 5) (σ.1 5) ∧ y_Un σ (σ.1 5) (σ.1 48) (σ.2.1 84))) (p10 : (σ.1 51) ≤ 47000) (p11 : (σ.1 52) ≤ 88000) (p12 : y_CT σ) : W_X13_isUsedBefore n1 n2 σ (fun (x : Int) (τ : S0) => (m_T τ) ∧ (y_CT τ) ∧ (((τ.1 49) = 0 ∨ (y_TT τ τ (σ.1 5) (σ.1 5) ∧ y_Un τ (σ.1 5) (τ.1 48) (τ.2.1 84)))) ∧ ((τ.1 51) = (σ.1 51) ∧ (τ.1 52) = (σ.1 52)) ∧ (∀ y : Int, y < (σ.1 51) → (τ.2.1 86 y = σ.2.1 86 y ∧ τ.2.1 87 y = σ.2.1 87 y) ∧ τ.2.1 88 y = σ.2.1 88 y ∧ τ.2.1 89 y = σ.2.1 89 y ∧ τ.2.1 90 y = σ.2.1 90 y) ∧ (∀ e : Int, e < (σ.1 52) → τ.2.1 91 e = σ.2.1 91 e) ∧ (∀ i : Int, ¬ σ.2.1 94 i = -1 → τ.2.1 94 i = σ.2.1 94 i) ∧ (x = 0 ∨ x = 1)) := by
  have A8 : ∀ j, 0 ≤ σ.2.1 8 j ∧ σ.2.1 8 j ≤ 1 := fun j => hT.2 8 j
  have A10 : ∀ j, (-1) ≤ σ.2.1 10 j ∧ σ.2.1 10 j ≤ 999 := fun j => hT.2 10 j
  have A12 : ∀ j, 0 ≤ σ.2.1 12 j ∧ σ.2.1 12 j ≤ 1 := fun j => hT.2 12 j
  have A13 : ∀ j, 0 ≤ σ.2.1 13 j ∧ σ.2.1 13 j ≤ 4 := fun j => hT.2 13 j
  have A14 : ∀ j, 0 ≤ σ.2.1 14 j ∧ σ.2.1 14 j ≤ 30000 := fun j => hT.2 14 j
  have A15 : ∀ j, 0 ≤ σ.2.1 15 j ∧ σ.2.1 15 j ≤ 300 := fun j => hT.2 15 j
  have A16 : ∀ j, 0 ≤ σ.2.1 16 j ∧ σ.2.1 16 j ≤ 999 := fun j => hT.2 16 j
  have A17 : ∀ j, (-1) ≤ σ.2.1 17 j ∧ σ.2.1 17 j ≤ 1499 := fun j => hT.2 17 j
  have A18 : ∀ j, 0 ≤ σ.2.1 18 j ∧ σ.2.1 18 j ≤ 90000 := fun j => hT.2 18 j
  have A19 : ∀ j, 0 ≤ σ.2.1 19 j ∧ σ.2.1 19 j ≤ 60 := fun j => hT.2 19 j
  have A20 : ∀ j, 0 ≤ σ.2.1 20 j ∧ σ.2.1 20 j ≤ 1499 := fun j => hT.2 20 j
  have A86 : ∀ j, (-1500) ≤ σ.2.1 86 j ∧ σ.2.1 86 j ≤ 1499 := fun j => hT.2 86 j
  have A87 : ∀ j, 0 ≤ σ.2.1 87 j ∧ σ.2.1 87 j ≤ 120000 := fun j => hT.2 87 j
  have A88 : ∀ j, 0 ≤ σ.2.1 88 j ∧ σ.2.1 88 j ≤ 59 := fun j => hT.2 88 j
  have A89 : ∀ j, 0 ≤ σ.2.1 89 j ∧ σ.2.1 89 j ≤ 59 := fun j => hT.2 89 j
  have A90 : ∀ j, (-1) ≤ σ.2.1 90 j ∧ σ.2.1 90 j ≤ 99 := fun j => hT.2 90 j
  have A91 : ∀ j, 0 ≤ σ.2.1 91 j ∧ σ.2.1 91 j ≤ 60000 := fun j => hT.2 91 j
  have A94 : ∀ j, (-1) ≤ σ.2.1 94 j ∧ σ.2.1 94 j ≤ 2 := fun j => hT.2 94 j
  have v3 : 0 ≤ σ.1 3 ∧ σ.1 3 ≤ 1000 := hT.1 3
  have v4 : 0 ≤ σ.1 4 ∧ σ.1 4 ≤ 100 := hT.1 4
  have v5 : 0 ≤ σ.1 5 ∧ σ.1 5 ≤ 1500 := hT.1 5
  have v10 : (-1) ≤ σ.1 10 ∧ σ.1 10 ≤ 999 := hT.1 10
  have v11 : (-1) ≤ σ.1 11 ∧ σ.1 11 ≤ 999 := hT.1 11
  have v48 : 0 ≤ σ.1 48 ∧ σ.1 48 ≤ 1500 := hT.1 48
  have v49 : 0 ≤ σ.1 49 ∧ σ.1 49 ≤ 1 := hT.1 49
  have v51 : 0 ≤ σ.1 51 ∧ σ.1 51 ≤ 60000 := hT.1 51
  have v52 : 0 ≤ σ.1 52 ∧ σ.1 52 ≤ 120000 := hT.1 52
  have W3 : σ.1 3 = σ.1 3 := rfl
  have W4 : σ.1 4 = σ.1 4 := rfl
  have W5 : σ.1 5 = σ.1 5 := rfl
  have W10 : σ.1 10 = σ.1 10 := rfl
  have W11 : σ.1 11 = σ.1 11 := rfl
  have G8 : σ.2.1 8 = σ.2.1 8 := rfl
  have G10 : σ.2.1 10 = σ.2.1 10 := rfl
  have G12 : σ.2.1 12 = σ.2.1 12 := rfl
  have G13 : σ.2.1 13 = σ.2.1 13 := rfl
  have G14 : σ.2.1 14 = σ.2.1 14 := rfl
  have G15 : σ.2.1 15 = σ.2.1 15 := rfl
  have G16 : σ.2.1 16 = σ.2.1 16 := rfl
  have G17 : σ.2.1 17 = σ.2.1 17 := rfl
  have G18 : σ.2.1 18 = σ.2.1 18 := rfl
  have G19 : σ.2.1 19 = σ.2.1 19 := rfl
  have G20 : σ.2.1 20 = σ.2.1 20 := rfl
  intro P5 h5
  have l5 : σ.1 5 ≤ 1500 := (hT.1 5).2
  have Y20 : ca (σ.2.1 12) ((σ.1 3)) ≤ (σ.1 4) := p5
  have Y20_0 := Y20
  have l_5 : ∀ (m_5 : Nat) (u3_5 : Int) (u4_5 : Int) (τ_5 : S0), 1502 - u4_5 < (m_5 : Int) → (m_T τ_5) → (τ_5.1 3 = σ.1 3) → (τ_5.1 4 = σ.1 4) → (τ_5.1 5 = σ.1 5) → (τ_5.1 10 = σ.1 10) → (τ_5.1 11 = σ.1 11) → (τ_5.2.1 8 = σ.2.1 8) → (τ_5.2.1 10 = σ.2.1 10) → (τ_5.2.1 12 = σ.2.1 12) → (τ_5.2.1 13 = σ.2.1 13) → (τ_5.2.1 14 = σ.2.1 14) → (τ_5.2.1 15 = σ.2.1 15) → (τ_5.2.1 16 = σ.2.1 16) → (τ_5.2.1 17 = σ.2.1 17) → (τ_5.2.1 18 = σ.2.1 18) → (τ_5.2.1 19 = σ.2.1 19) → (τ_5.2.1 20 = σ.2.1 20) → (0 ≤ u4_5 ∧ u4_5 ≤ n1) → (u3_5 = 0 ∨ u3_5 = 1) → (y_CT τ_5) → ((τ_5.1 49) = 0 ∨ (y_TT τ_5 τ_5 (σ.1 5) (σ.1 5) ∧ y_Un τ_5 (σ.1 5) (τ_5.1 48) (τ_5.2.1 84))) → ((τ_5.1 51) = (σ.1 51) ∧ (τ_5.1 52) = (σ.1 52)) → (∀ y : Int, y < (σ.1 51) → (τ_5.2.1 86 y = σ.2.1 86 y ∧ τ_5.2.1 87 y = σ.2.1 87 y) ∧ τ_5.2.1 88 y = σ.2.1 88 y ∧ τ_5.2.1 89 y = σ.2.1 89 y ∧ τ_5.2.1 90 y = σ.2.1 90 y) → (∀ e : Int, e < (σ.1 52) → τ_5.2.1 91 e = σ.2.1 91 e) → (∀ i : Int, ¬ σ.2.1 94 i = -1 → τ_5.2.1 94 i = σ.2.1 94 i) → (n_J τ_5) → (m_J τ_5) → P5 n1 n2 u3_5 u4_5 τ_5 := by
    intro m_5
    induction m_5 with
    | zero =>
      intro u3_5 u4_5 τ_5 hm hT W3 W4 W5 W10 W11 G8 G10 G12 G13 G14 G15 G16 G17 G18 G19 G20 i5_1 i5_2 i5_3 i5_4 i5_5 i5_6 i5_7 i5_8 i5_9 i5_10
      have A8 : ∀ j, 0 ≤ τ_5.2.1 8 j ∧ τ_5.2.1 8 j ≤ 1 := fun j => hT.2 8 j
      have A10 : ∀ j, (-1) ≤ τ_5.2.1 10 j ∧ τ_5.2.1 10 j ≤ 999 := fun j => hT.2 10 j
      have A12 : ∀ j, 0 ≤ τ_5.2.1 12 j ∧ τ_5.2.1 12 j ≤ 1 := fun j => hT.2 12 j
      have A13 : ∀ j, 0 ≤ τ_5.2.1 13 j ∧ τ_5.2.1 13 j ≤ 4 := fun j => hT.2 13 j
      have A14 : ∀ j, 0 ≤ τ_5.2.1 14 j ∧ τ_5.2.1 14 j ≤ 30000 := fun j => hT.2 14 j
      have A15 : ∀ j, 0 ≤ τ_5.2.1 15 j ∧ τ_5.2.1 15 j ≤ 300 := fun j => hT.2 15 j
      have A16 : ∀ j, 0 ≤ τ_5.2.1 16 j ∧ τ_5.2.1 16 j ≤ 999 := fun j => hT.2 16 j
      have A17 : ∀ j, (-1) ≤ τ_5.2.1 17 j ∧ τ_5.2.1 17 j ≤ 1499 := fun j => hT.2 17 j
      have A18 : ∀ j, 0 ≤ τ_5.2.1 18 j ∧ τ_5.2.1 18 j ≤ 90000 := fun j => hT.2 18 j
      have A19 : ∀ j, 0 ≤ τ_5.2.1 19 j ∧ τ_5.2.1 19 j ≤ 60 := fun j => hT.2 19 j
      have A20 : ∀ j, 0 ≤ τ_5.2.1 20 j ∧ τ_5.2.1 20 j ≤ 1499 := fun j => hT.2 20 j
      have A86 : ∀ j, (-1500) ≤ τ_5.2.1 86 j ∧ τ_5.2.1 86 j ≤ 1499 := fun j => hT.2 86 j
      have A87 : ∀ j, 0 ≤ τ_5.2.1 87 j ∧ τ_5.2.1 87 j ≤ 120000 := fun j => hT.2 87 j
      have A88 : ∀ j, 0 ≤ τ_5.2.1 88 j ∧ τ_5.2.1 88 j ≤ 59 := fun j => hT.2 88 j
      have A89 : ∀ j, 0 ≤ τ_5.2.1 89 j ∧ τ_5.2.1 89 j ≤ 59 := fun j => hT.2 89 j
      have A90 : ∀ j, (-1) ≤ τ_5.2.1 90 j ∧ τ_5.2.1 90 j ≤ 99 := fun j => hT.2 90 j
      have A91 : ∀ j, 0 ≤ τ_5.2.1 91 j ∧ τ_5.2.1 91 j ≤ 60000 := fun j => hT.2 91 j
      have A94 : ∀ j, (-1) ≤ τ_5.2.1 94 j ∧ τ_5.2.1 94 j ≤ 2 := fun j => hT.2 94 j
      have v3 : 0 ≤ τ_5.1 3 ∧ τ_5.1 3 ≤ 1000 := hT.1 3
      have v4 : 0 ≤ τ_5.1 4 ∧ τ_5.1 4 ≤ 100 := hT.1 4
      have v5 : 0 ≤ τ_5.1 5 ∧ τ_5.1 5 ≤ 1500 := hT.1 5
      have v10 : (-1) ≤ τ_5.1 10 ∧ τ_5.1 10 ≤ 999 := hT.1 10
      have v11 : (-1) ≤ τ_5.1 11 ∧ τ_5.1 11 ≤ 999 := hT.1 11
      have v48 : 0 ≤ τ_5.1 48 ∧ τ_5.1 48 ≤ 1500 := hT.1 48
      have v49 : 0 ≤ τ_5.1 49 ∧ τ_5.1 49 ≤ 1 := hT.1 49
      have v51 : 0 ≤ τ_5.1 51 ∧ τ_5.1 51 ≤ 60000 := hT.1 51
      have v52 : 0 ≤ τ_5.1 52 ∧ τ_5.1 52 ≤ 120000 := hT.1 52
      exfalso; (first | omega | (simp only [st_s] <;> omega) | assumption | omega | fail)
    | succ m_5 ih_5 =>
      intro u3_5 u4_5 τ_5 hm_5 hT W3 W4 W5 W10 W11 G8 G10 G12 G13 G14 G15 G16 G17 G18 G19 G20 i5_1 i5_2 i5_3 i5_4 i5_5 i5_6 i5_7 i5_8 i5_9 i5_10
      have A8 : ∀ j, 0 ≤ τ_5.2.1 8 j ∧ τ_5.2.1 8 j ≤ 1 := fun j => hT.2 8 j
      have A10 : ∀ j, (-1) ≤ τ_5.2.1 10 j ∧ τ_5.2.1 10 j ≤ 999 := fun j => hT.2 10 j
      have A12 : ∀ j, 0 ≤ τ_5.2.1 12 j ∧ τ_5.2.1 12 j ≤ 1 := fun j => hT.2 12 j
      have A13 : ∀ j, 0 ≤ τ_5.2.1 13 j ∧ τ_5.2.1 13 j ≤ 4 := fun j => hT.2 13 j
      have A14 : ∀ j, 0 ≤ τ_5.2.1 14 j ∧ τ_5.2.1 14 j ≤ 30000 := fun j => hT.2 14 j
      have A15 : ∀ j, 0 ≤ τ_5.2.1 15 j ∧ τ_5.2.1 15 j ≤ 300 := fun j => hT.2 15 j
      have A16 : ∀ j, 0 ≤ τ_5.2.1 16 j ∧ τ_5.2.1 16 j ≤ 999 := fun j => hT.2 16 j
      have A17 : ∀ j, (-1) ≤ τ_5.2.1 17 j ∧ τ_5.2.1 17 j ≤ 1499 := fun j => hT.2 17 j
      have A18 : ∀ j, 0 ≤ τ_5.2.1 18 j ∧ τ_5.2.1 18 j ≤ 90000 := fun j => hT.2 18 j
      have A19 : ∀ j, 0 ≤ τ_5.2.1 19 j ∧ τ_5.2.1 19 j ≤ 60 := fun j => hT.2 19 j
      have A20 : ∀ j, 0 ≤ τ_5.2.1 20 j ∧ τ_5.2.1 20 j ≤ 1499 := fun j => hT.2 20 j
      have A86 : ∀ j, (-1500) ≤ τ_5.2.1 86 j ∧ τ_5.2.1 86 j ≤ 1499 := fun j => hT.2 86 j
      have A87 : ∀ j, 0 ≤ τ_5.2.1 87 j ∧ τ_5.2.1 87 j ≤ 120000 := fun j => hT.2 87 j
      have A88 : ∀ j, 0 ≤ τ_5.2.1 88 j ∧ τ_5.2.1 88 j ≤ 59 := fun j => hT.2 88 j
      have A89 : ∀ j, 0 ≤ τ_5.2.1 89 j ∧ τ_5.2.1 89 j ≤ 59 := fun j => hT.2 89 j
      have A90 : ∀ j, (-1) ≤ τ_5.2.1 90 j ∧ τ_5.2.1 90 j ≤ 99 := fun j => hT.2 90 j
      have A91 : ∀ j, 0 ≤ τ_5.2.1 91 j ∧ τ_5.2.1 91 j ≤ 60000 := fun j => hT.2 91 j
      have A94 : ∀ j, (-1) ≤ τ_5.2.1 94 j ∧ τ_5.2.1 94 j ≤ 2 := fun j => hT.2 94 j
      have v3 : 0 ≤ τ_5.1 3 ∧ τ_5.1 3 ≤ 1000 := hT.1 3
      have v4 : 0 ≤ τ_5.1 4 ∧ τ_5.1 4 ≤ 100 := hT.1 4
      have v5 : 0 ≤ τ_5.1 5 ∧ τ_5.1 5 ≤ 1500 := hT.1 5
      have v10 : (-1) ≤ τ_5.1 10 ∧ τ_5.1 10 ≤ 999 := hT.1 10
      have v11 : (-1) ≤ τ_5.1 11 ∧ τ_5.1 11 ≤ 999 := hT.1 11
      have v48 : 0 ≤ τ_5.1 48 ∧ τ_5.1 48 ≤ 1500 := hT.1 48
      have v49 : 0 ≤ τ_5.1 49 ∧ τ_5.1 49 ≤ 1 := hT.1 49
      have v51 : 0 ≤ τ_5.1 51 ∧ τ_5.1 51 ≤ 60000 := hT.1 51
      have v52 : 0 ≤ τ_5.1 52 ∧ τ_5.1 52 ≤ 120000 := hT.1 52
      have Y20 : ca (τ_5.2.1 12) ((τ_5.1 3)) ≤ (τ_5.1 4) := by rw [show (ca (τ_5.2.1 12) ((τ_5.1 3)) ≤ (τ_5.1 4)) = (ca (σ.2.1 12) ((σ.1 3)) ≤ (σ.1 4)) from by rw [W3, W4, G12]]; exact Y20_0
      refine h5 n1 n2 u3_5 u4_5 τ_5 ?_
      refine ⟨fun c1 => ?_, fun c1 => ?_⟩
      ·
        refine ⟨(show 0 ≤ u3_5 ∧ u3_5 ≤ 1 from by (first | omega | (simp only [st_s] <;> omega) | assumption | omega | fail)), ?_⟩
        exact ⟨hT, (show y_CT τ_5 from by exact i5_3), (show ((τ_5.1 49) = 0 ∨ (y_TT τ_5 τ_5 (σ.1 5) (σ.1 5) ∧ y_Un τ_5 (σ.1 5) (τ_5.1 48) (τ_5.2.1 84))) from by exact i5_4), (show (τ_5.1 51) = (σ.1 51) ∧ (τ_5.1 52) = (σ.1 52) from by (first | omega | (simp only [st_s] <;> omega) | assumption | omega | fail)), (show ∀ y : Int, y < (σ.1 51) → (τ_5.2.1 86 y = σ.2.1 86 y ∧ τ_5.2.1 87 y = σ.2.1 87 y) ∧ τ_5.2.1 88 y = σ.2.1 88 y ∧ τ_5.2.1 89 y = σ.2.1 89 y ∧ τ_5.2.1 90 y = σ.2.1 90 y from by exact i5_6), (show ∀ e : Int, e < (σ.1 52) → τ_5.2.1 91 e = σ.2.1 91 e from by exact i5_7), (show ∀ i : Int, ¬ σ.2.1 94 i = -1 → τ_5.2.1 94 i = σ.2.1 94 i from by exact i5_8), (show u3_5 = 0 ∨ u3_5 = 1 from by (first | omega | (simp only [st_s] <;> omega) | assumption | omega | fail))⟩
      ·
        refine ⟨fun c3 => ?_, fun c3 => ?_⟩
        ·
          refine ⟨(show 0 ≤ u3_5 ∧ u3_5 ≤ 1 from by (first | omega | (simp only [st_s] <;> omega) | assumption | omega | fail)), ?_⟩
          exact ⟨hT, (show y_CT τ_5 from by exact i5_3), (show ((τ_5.1 49) = 0 ∨ (y_TT τ_5 τ_5 (σ.1 5) (σ.1 5) ∧ y_Un τ_5 (σ.1 5) (τ_5.1 48) (τ_5.2.1 84))) from by exact i5_4), (show (τ_5.1 51) = (σ.1 51) ∧ (τ_5.1 52) = (σ.1 52) from by (first | omega | (simp only [st_s] <;> omega) | assumption | omega | fail)), (show ∀ y : Int, y < (σ.1 51) → (τ_5.2.1 86 y = σ.2.1 86 y ∧ τ_5.2.1 87 y = σ.2.1 87 y) ∧ τ_5.2.1 88 y = σ.2.1 88 y ∧ τ_5.2.1 89 y = σ.2.1 89 y ∧ τ_5.2.1 90 y = σ.2.1 90 y from by exact i5_6), (show ∀ e : Int, e < (σ.1 52) → τ_5.2.1 91 e = σ.2.1 91 e from by exact i5_7), (show ∀ i : Int, ¬ σ.2.1 94 i = -1 → τ_5.2.1 94 i = σ.2.1 94 i from by exact i5_8), (show u3_5 = 0 ∨ u3_5 = 1 from by (first | omega | (simp only [st_s] <;> omega) | assumption | omega | fail))⟩
        ·
          refine ⟨(show 0 ≤ u4_5 ∧ u4_5 < 1501 from by (first | omega | (simp only [st_s] <;> omega) | assumption | omega | fail)), ?_⟩
          intro x6 r_x6 e_x6
          have b_x6 : 0 ≤ x6 ∧ x6 ≤ 30000 := by rw [e_x6]; exact hT.2 14 _
          refine ⟨(show 0 ≤ x6 ∧ x6 < 30400 from by (first | omega | (simp only [st_s] <;> omega) | assumption | omega | fail)), ?_⟩
          intro x8 r_x8 e_x8
          have b_x8 : 0 ≤ x8 ∧ x8 ≤ 999 := by rw [e_x8]; exact hT.2 16 _
          refine ⟨fun c9 => ?_, fun c9 => ?_⟩
          ·
            refine ⟨(⟨by (first | omega | (simp only [st_s] <;> omega) | assumption | omega | fail), by (first | omega | (simp only [st_s] <;> omega) | assumption | omega | fail)⟩ : rg (u4_5 + 1)), ?_⟩
            exact ih_5 _ _ _ (show (1502 - (u4_5 + 1) : Int) < ((m_5 : Nat) : Int) from by ((first | omega | (simp only [st_s] <;> omega) | assumption | omega | fail))) hT (show τ_5.1 3 = σ.1 3 from by first | exact W3 | omega) (show τ_5.1 4 = σ.1 4 from by first | exact W4 | omega) (show τ_5.1 5 = σ.1 5 from by first | exact W5 | omega) (show τ_5.1 10 = σ.1 10 from by first | exact W10 | omega) (show τ_5.1 11 = σ.1 11 from by first | exact W11 | omega) G8 G10 G12 G13 G14 G15 G16 G17 G18 G19 G20 (show 0 ≤ (u4_5 + 1) ∧ (u4_5 + 1) ≤ n1 from by (first | omega | (simp only [st_s] <;> omega) | assumption | omega | fail)) (show u3_5 = 0 ∨ u3_5 = 1 from by (first | omega | (simp only [st_s] <;> omega) | assumption | omega | fail)) (show y_CT τ_5 from by (first | exact p12 | exact i5_3 | exact q14_1 | fail)) (show ((τ_5.1 49) = 0 ∨ (y_TT τ_5 τ_5 (σ.1 5) (σ.1 5) ∧ y_Un τ_5 (σ.1 5) (τ_5.1 48) (τ_5.2.1 84))) from by (first | exact p9 | exact i5_4 | (have e5 : τ_5.1 5 = σ.1 5 := (by omega); rw [e5] at q14_3; exact q14_3) | fail)) (show (τ_5.1 51) = (σ.1 51) ∧ (τ_5.1 52) = (σ.1 52) from by (first | omega | (simp only [st_s] <;> omega) | assumption | omega | fail)) (show ∀ y : Int, y < (σ.1 51) → (τ_5.2.1 86 y = σ.2.1 86 y ∧ τ_5.2.1 87 y = σ.2.1 87 y) ∧ τ_5.2.1 88 y = σ.2.1 88 y ∧ τ_5.2.1 89 y = σ.2.1 89 y ∧ τ_5.2.1 90 y = σ.2.1 90 y from by (first | exact i5_6 | exact fun _ _ => ⟨⟨rfl, rfl⟩, rfl, rfl, rfl⟩ | (intro y a; have w := q14_5 y (by omega); have v := i5_6 y a; rw [w.1.1, w.1.2, w.2.1, w.2.2.1, w.2.2.2]; exact v) | fail)) (show ∀ e : Int, e < (σ.1 52) → τ_5.2.1 91 e = σ.2.1 91 e from by (first | exact i5_7 | exact fun _ _ => rfl | (intro y a; rw [q14_6 y (by omega)]; exact i5_7 y a) | fail)) (show ∀ i : Int, ¬ σ.2.1 94 i = -1 → τ_5.2.1 94 i = σ.2.1 94 i from by (first | exact i5_8 | exact fun _ _ => rfl | (intro i a; have v := i5_8 i a; by_cases z : i = u4_5; (have w := q14_9 (by rw [← z, v]; exact a); rw [w]; exact v); (rw [q14_8 i z]; exact v)) | fail)) (show n_J τ_5 from by (first | exact p6 | exact i5_9 | exact n_J_hh i5_9 hf_τ16 rfl rfl | fail)) (show m_J τ_5 from by (first | exact p7 | exact i5_10 | exact m_J_f i5_10 hf_τ16 rfl rfl | fail))
          ·
            intro x11 r_x11 e_x11
            have b_x11 : 0 ≤ x11 ∧ x11 ≤ 300 := by rw [e_x11]; exact hT.2 15 _
            refine ⟨fun c12 => ?_, fun c12 => ?_⟩
            ·
              refine ⟨(⟨by (first | omega | (simp only [st_s] <;> omega) | assumption | omega | fail), by (first | omega | (simp only [st_s] <;> omega) | assumption | omega | fail)⟩ : rg (u4_5 + 1)), ?_⟩
              exact ih_5 _ _ _ (show (1502 - (u4_5 + 1) : Int) < ((m_5 : Nat) : Int) from by ((first | omega | (simp only [st_s] <;> omega) | assumption | omega | fail))) hT (show τ_5.1 3 = σ.1 3 from by first | exact W3 | omega) (show τ_5.1 4 = σ.1 4 from by first | exact W4 | omega) (show τ_5.1 5 = σ.1 5 from by first | exact W5 | omega) (show τ_5.1 10 = σ.1 10 from by first | exact W10 | omega) (show τ_5.1 11 = σ.1 11 from by first | exact W11 | omega) G8 G10 G12 G13 G14 G15 G16 G17 G18 G19 G20 (show 0 ≤ (u4_5 + 1) ∧ (u4_5 + 1) ≤ n1 from by (first | omega | (simp only [st_s] <;> omega) | assumption | omega | fail)) (show u3_5 = 0 ∨ u3_5 = 1 from by (first | omega | (simp only [st_s] <;> omega) | assumption | omega | fail)) (show y_CT τ_5 from by (first | exact p12 | exact i5_3 | exact q14_1 | fail)) (show ((τ_5.1 49) = 0 ∨ (y_TT τ_5 τ_5 (σ.1 5) (σ.1 5) ∧ y_Un τ_5 (σ.1 5) (τ_5.1 48) (τ_5.2.1 84))) from by (first | exact p9 | exact i5_4 | (have e5 : τ_5.1 5 = σ.1 5 := (by omega); rw [e5] at q14_3; exact q14_3) | fail)) (show (τ_5.1 51) = (σ.1 51) ∧ (τ_5.1 52) = (σ.1 52) from by (first | omega | (simp only [st_s] <;> omega) | assumption | omega | fail)) (show ∀ y : Int, y < (σ.1 51) → (τ_5.2.1 86 y = σ.2.1 86 y ∧ τ_5.2.1 87 y = σ.2.1 87 y) ∧ τ_5.2.1 88 y = σ.2.1 88 y ∧ τ_5.2.1 89 y = σ.2.1 89 y ∧ τ_5.2.1 90 y = σ.2.1 90 y from by (first | exact i5_6 | exact fun _ _ => ⟨⟨rfl, rfl⟩, rfl, rfl, rfl⟩ | (intro y a; have w := q14_5 y (by omega); have v := i5_6 y a; rw [w.1.1, w.1.2, w.2.1, w.2.2.1, w.2.2.2]; exact v) | fail)) (show ∀ e : Int, e < (σ.1 52) → τ_5.2.1 91 e = σ.2.1 91 e from by (first | exact i5_7 | exact fun _ _ => rfl | (intro y a; rw [q14_6 y (by omega)]; exact i5_7 y a) | fail)) (show ∀ i : Int, ¬ σ.2.1 94 i = -1 → τ_5.2.1 94 i = σ.2.1 94 i from by (first | exact i5_8 | exact fun _ _ => rfl | (intro i a; have v := i5_8 i a; by_cases z : i = u4_5; (have w := q14_9 (by rw [← z, v]; exact a); rw [w]; exact v); (rw [q14_8 i z]; exact v)) | fail)) (show n_J τ_5 from by (first | exact p6 | exact i5_9 | exact n_J_hh i5_9 hf_τ16 rfl rfl | fail)) (show m_J τ_5 from by (first | exact p7 | exact i5_10 | exact m_J_f i5_10 hf_τ16 rfl rfl | fail))
            ·
              refine ⟨_, K_X13_countTrees hT (show 0 ≤ u4_5 from by (first | omega | (simp only [st_s] <;> omega) | assumption | omega | fail)) (show u4_5 < (τ_5.1 5) from by (first | omega | (simp only [st_s] <;> omega) | assumption | omega | fail)) (show τ_5.2.1 15 u4_5 ≤ 60 from by (first | omega | (simp only [st_s] <;> omega) | assumption | omega | fail)) (show ca (τ_5.2.1 12) ((τ_5.1 3)) ≤ (τ_5.1 4) from Y20) (show n_J τ_5 from by exact i5_9) (show m_J τ_5 from by exact i5_10) (show (τ_5.1 10) < (τ_5.1 3) from by (first | omega | (simp only [st_s] <;> omega) | assumption | omega | fail)) (show (τ_5.1 49) = 0 ∨ (y_TT τ_5 τ_5 (τ_5.1 5) (τ_5.1 5) ∧ y_Un τ_5 (τ_5.1 5) (τ_5.1 48) (τ_5.2.1 84)) from by (rw [W5]; exact i5_4)) (show (τ_5.1 51) ≤ 47000 from by (first | omega | (simp only [st_s] <;> omega) | assumption | omega | fail)) (show (τ_5.1 52) ≤ 88000 from by (first | omega | (simp only [st_s] <;> omega) | assumption | omega | fail)) (show y_CT τ_5 from by exact i5_3), ?_⟩
              intro x15 τ16 r_x15 hn_τ16 hf_τ16 hq
              obtain ⟨hT, q14_1, q14_2, q14_3, q14_4, q14_5, q14_6, q14_7, q14_8, q14_9⟩ := hq
              replace q14_1 : y_CT τ16 := q14_1
              replace q14_2 : τ16.2.1 94 u4_5 = x15 ∧ 0 ≤ x15 ∧ x15 ≤ 2 := q14_2
              replace q14_3 : ((τ16.1 49) = 0 ∨ (y_TT τ16 τ16 (τ_5.1 5) (τ_5.1 5) ∧ y_Un τ16 (τ_5.1 5) (τ16.1 48) (τ16.2.1 84))) := q14_3
              replace q14_4 : (τ16.1 51) = (τ_5.1 51) ∧ (τ16.1 52) = (τ_5.1 52) := q14_4
              replace q14_5 : ∀ y : Int, y < (τ_5.1 51) → (τ16.2.1 86 y = τ_5.2.1 86 y ∧ τ16.2.1 87 y = τ_5.2.1 87 y) ∧ τ16.2.1 88 y = τ_5.2.1 88 y ∧ τ16.2.1 89 y = τ_5.2.1 89 y ∧ τ16.2.1 90 y = τ_5.2.1 90 y := q14_5
              replace q14_6 : ∀ e : Int, e < (τ_5.1 52) → τ16.2.1 91 e = τ_5.2.1 91 e := q14_6
              replace q14_7 : ∀ k : Int, ¬ (24 * u4_5 ≤ k ∧ k < 24 * u4_5 + 24) → τ16.2.2 7 k = τ_5.2.2 7 k := q14_7
              replace q14_8 : ∀ i : Int, ¬ i = u4_5 → τ16.2.1 94 i = τ_5.2.1 94 i := q14_8
              replace q14_9 : ¬ τ_5.2.1 94 u4_5 = -1 → τ16 = τ_5 := q14_9
              have w3_τ16 : τ16.1 3 = τ_5.1 3 := hf_τ16.1 3 (by decide)
              have w4_τ16 : τ16.1 4 = τ_5.1 4 := hf_τ16.1 4 (by decide)
              have w5_τ16 : τ16.1 5 = τ_5.1 5 := hf_τ16.1 5 (by decide)
              have w10_τ16 : τ16.1 10 = τ_5.1 10 := hf_τ16.1 10 (by decide)
              have w11_τ16 : τ16.1 11 = τ_5.1 11 := hf_τ16.1 11 (by decide)
              have g8_τ16 : τ16.2.1 8 = τ_5.2.1 8 := hf_τ16.2.1 8 (by decide)
              have g10_τ16 : τ16.2.1 10 = τ_5.2.1 10 := hf_τ16.2.1 10 (by decide)
              have g12_τ16 : τ16.2.1 12 = τ_5.2.1 12 := hf_τ16.2.1 12 (by decide)
              have g13_τ16 : τ16.2.1 13 = τ_5.2.1 13 := hf_τ16.2.1 13 (by decide)
              have g14_τ16 : τ16.2.1 14 = τ_5.2.1 14 := hf_τ16.2.1 14 (by decide)
              have g15_τ16 : τ16.2.1 15 = τ_5.2.1 15 := hf_τ16.2.1 15 (by decide)
              have g16_τ16 : τ16.2.1 16 = τ_5.2.1 16 := hf_τ16.2.1 16 (by decide)
              have g17_τ16 : τ16.2.1 17 = τ_5.2.1 17 := hf_τ16.2.1 17 (by decide)
              have g18_τ16 : τ16.2.1 18 = τ_5.2.1 18 := hf_τ16.2.1 18 (by decide)
              have g19_τ16 : τ16.2.1 19 = τ_5.2.1 19 := hf_τ16.2.1 19 (by decide)
              have g20_τ16 : τ16.2.1 20 = τ_5.2.1 20 := hf_τ16.2.1 20 (by decide)
              have W3 : τ16.1 3 = σ.1 3 := by first | exact w3_τ16.trans W3 | omega
              have W4 : τ16.1 4 = σ.1 4 := by first | exact w4_τ16.trans W4 | omega
              have W5 : τ16.1 5 = σ.1 5 := by first | exact w5_τ16.trans W5 | omega
              have W10 : τ16.1 10 = σ.1 10 := by first | exact w10_τ16.trans W10 | omega
              have W11 : τ16.1 11 = σ.1 11 := by first | exact w11_τ16.trans W11 | omega
              have G8 : τ16.2.1 8 = σ.2.1 8 := (g8_τ16).trans G8
              have G10 : τ16.2.1 10 = σ.2.1 10 := (g10_τ16).trans G10
              have G12 : τ16.2.1 12 = σ.2.1 12 := (g12_τ16).trans G12
              have G13 : τ16.2.1 13 = σ.2.1 13 := (g13_τ16).trans G13
              have G14 : τ16.2.1 14 = σ.2.1 14 := (g14_τ16).trans G14
              have G15 : τ16.2.1 15 = σ.2.1 15 := (g15_τ16).trans G15
              have G16 : τ16.2.1 16 = σ.2.1 16 := (g16_τ16).trans G16
              have G17 : τ16.2.1 17 = σ.2.1 17 := (g17_τ16).trans G17
              have G18 : τ16.2.1 18 = σ.2.1 18 := (g18_τ16).trans G18
              have G19 : τ16.2.1 19 = σ.2.1 19 := (g19_τ16).trans G19
              have G20 : τ16.2.1 20 = σ.2.1 20 := (g20_τ16).trans G20
              have Y20 : ca (τ16.2.1 12) ((τ16.1 3)) ≤ (τ16.1 4) := by rw [show (ca (τ16.2.1 12) ((τ16.1 3)) ≤ (τ16.1 4)) = (ca (τ_5.2.1 12) ((τ_5.1 3)) ≤ (τ_5.1 4)) from by rw [w3_τ16, w4_τ16, g12_τ16]]; exact Y20
              have A8 : ∀ j, 0 ≤ τ16.2.1 8 j ∧ τ16.2.1 8 j ≤ 1 := fun j => hT.2 8 j
              have A10 : ∀ j, (-1) ≤ τ16.2.1 10 j ∧ τ16.2.1 10 j ≤ 999 := fun j => hT.2 10 j
              have A12 : ∀ j, 0 ≤ τ16.2.1 12 j ∧ τ16.2.1 12 j ≤ 1 := fun j => hT.2 12 j
              have A13 : ∀ j, 0 ≤ τ16.2.1 13 j ∧ τ16.2.1 13 j ≤ 4 := fun j => hT.2 13 j
              have A14 : ∀ j, 0 ≤ τ16.2.1 14 j ∧ τ16.2.1 14 j ≤ 30000 := fun j => hT.2 14 j
              have A15 : ∀ j, 0 ≤ τ16.2.1 15 j ∧ τ16.2.1 15 j ≤ 300 := fun j => hT.2 15 j
              have A16 : ∀ j, 0 ≤ τ16.2.1 16 j ∧ τ16.2.1 16 j ≤ 999 := fun j => hT.2 16 j
              have A17 : ∀ j, (-1) ≤ τ16.2.1 17 j ∧ τ16.2.1 17 j ≤ 1499 := fun j => hT.2 17 j
              have A18 : ∀ j, 0 ≤ τ16.2.1 18 j ∧ τ16.2.1 18 j ≤ 90000 := fun j => hT.2 18 j
              have A19 : ∀ j, 0 ≤ τ16.2.1 19 j ∧ τ16.2.1 19 j ≤ 60 := fun j => hT.2 19 j
              have A20 : ∀ j, 0 ≤ τ16.2.1 20 j ∧ τ16.2.1 20 j ≤ 1499 := fun j => hT.2 20 j
              have A86 : ∀ j, (-1500) ≤ τ16.2.1 86 j ∧ τ16.2.1 86 j ≤ 1499 := fun j => hT.2 86 j
              have A87 : ∀ j, 0 ≤ τ16.2.1 87 j ∧ τ16.2.1 87 j ≤ 120000 := fun j => hT.2 87 j
              have A88 : ∀ j, 0 ≤ τ16.2.1 88 j ∧ τ16.2.1 88 j ≤ 59 := fun j => hT.2 88 j
              have A89 : ∀ j, 0 ≤ τ16.2.1 89 j ∧ τ16.2.1 89 j ≤ 59 := fun j => hT.2 89 j
              have A90 : ∀ j, (-1) ≤ τ16.2.1 90 j ∧ τ16.2.1 90 j ≤ 99 := fun j => hT.2 90 j
              have A91 : ∀ j, 0 ≤ τ16.2.1 91 j ∧ τ16.2.1 91 j ≤ 60000 := fun j => hT.2 91 j
              have A94 : ∀ j, (-1) ≤ τ16.2.1 94 j ∧ τ16.2.1 94 j ≤ 2 := fun j => hT.2 94 j
              have v3 : 0 ≤ τ16.1 3 ∧ τ16.1 3 ≤ 1000 := hT.1 3
              have v4 : 0 ≤ τ16.1 4 ∧ τ16.1 4 ≤ 100 := hT.1 4
              have v5 : 0 ≤ τ16.1 5 ∧ τ16.1 5 ≤ 1500 := hT.1 5
              have v10 : (-1) ≤ τ16.1 10 ∧ τ16.1 10 ≤ 999 := hT.1 10
              have v11 : (-1) ≤ τ16.1 11 ∧ τ16.1 11 ≤ 999 := hT.1 11
              have v48 : 0 ≤ τ16.1 48 ∧ τ16.1 48 ≤ 1500 := hT.1 48
              have v49 : 0 ≤ τ16.1 49 ∧ τ16.1 49 ≤ 1 := hT.1 49
              have v51 : 0 ≤ τ16.1 51 ∧ τ16.1 51 ≤ 60000 := hT.1 51
              have v52 : 0 ≤ τ16.1 52 ∧ τ16.1 52 ≤ 120000 := hT.1 52
              refine ⟨fun c17 => ?_, fun c17 => ?_⟩
              ·
                refine ⟨(⟨by (first | omega | (simp only [st_s] <;> omega) | assumption | omega | fail), by (first | omega | (simp only [st_s] <;> omega) | assumption | omega | fail)⟩ : rg (u4_5 + 1)), ?_⟩
                exact ih_5 _ _ _ (show (1502 - (u4_5 + 1) : Int) < ((m_5 : Nat) : Int) from by ((first | omega | (simp only [st_s] <;> omega) | assumption | omega | fail))) hT (show τ16.1 3 = σ.1 3 from by first | exact W3 | omega) (show τ16.1 4 = σ.1 4 from by first | exact W4 | omega) (show τ16.1 5 = σ.1 5 from by first | exact W5 | omega) (show τ16.1 10 = σ.1 10 from by first | exact W10 | omega) (show τ16.1 11 = σ.1 11 from by first | exact W11 | omega) G8 G10 G12 G13 G14 G15 G16 G17 G18 G19 G20 (show 0 ≤ (u4_5 + 1) ∧ (u4_5 + 1) ≤ n1 from by (first | omega | (simp only [st_s] <;> omega) | assumption | omega | fail)) (show u3_5 = 0 ∨ u3_5 = 1 from by (first | omega | (simp only [st_s] <;> omega) | assumption | omega | fail)) (show y_CT τ16 from by (first | exact p12 | exact i5_3 | exact q14_1 | fail)) (show ((τ16.1 49) = 0 ∨ (y_TT τ16 τ16 (σ.1 5) (σ.1 5) ∧ y_Un τ16 (σ.1 5) (τ16.1 48) (τ16.2.1 84))) from by (first | exact p9 | exact i5_4 | (have e5 : τ_5.1 5 = σ.1 5 := (by omega); rw [e5] at q14_3; exact q14_3) | fail)) (show (τ16.1 51) = (σ.1 51) ∧ (τ16.1 52) = (σ.1 52) from by (first | omega | (simp only [st_s] <;> omega) | assumption | omega | fail)) (show ∀ y : Int, y < (σ.1 51) → (τ16.2.1 86 y = σ.2.1 86 y ∧ τ16.2.1 87 y = σ.2.1 87 y) ∧ τ16.2.1 88 y = σ.2.1 88 y ∧ τ16.2.1 89 y = σ.2.1 89 y ∧ τ16.2.1 90 y = σ.2.1 90 y from by (first | exact i5_6 | exact fun _ _ => ⟨⟨rfl, rfl⟩, rfl, rfl, rfl⟩ | (intro y a; have w := q14_5 y (by omega); have v := i5_6 y a; rw [w.1.1, w.1.2, w.2.1, w.2.2.1, w.2.2.2]; exact v) | fail)) (show ∀ e : Int, e < (σ.1 52) → τ16.2.1 91 e = σ.2.1 91 e from by (first | exact i5_7 | exact fun _ _ => rfl | (intro y a; rw [q14_6 y (by omega)]; exact i5_7 y a) | fail)) (show ∀ i : Int, ¬ σ.2.1 94 i = -1 → τ16.2.1 94 i = σ.2.1 94 i from by (first | exact i5_8 | exact fun _ _ => rfl | (intro i a; have v := i5_8 i a; by_cases z : i = u4_5; (have w := q14_9 (by rw [← z, v]; exact a); rw [w]; exact v); (rw [q14_8 i z]; exact v)) | fail)) (show n_J τ16 from by (first | exact p6 | exact i5_9 | exact n_J_hh i5_9 hf_τ16 rfl rfl | fail)) (show m_J τ16 from by (first | exact p7 | exact i5_10 | exact m_J_f i5_10 hf_τ16 rfl rfl | fail))
              ·
                intro x19 r_x19 h1_x19 h2_x19
                refine ⟨(show 0 ≤ ((24 * u4_5) + x19) ∧ ((24 * u4_5) + x19) < 36024 from by (first | omega | (simp only [st_s] <;> omega) | assumption | omega | fail)), ?_⟩
                intro x21 e_x21
                intro x22 r_x22 h1_x22 h2_x22
                refine ⟨fun c23 => ?_, fun c23 => ?_⟩
                ·
                  refine ⟨(⟨by (first | omega | (simp only [st_s] <;> omega) | assumption | omega | fail), by (first | omega | (simp only [st_s] <;> omega) | assumption | omega | fail)⟩ : rg (u4_5 + 1)), ?_⟩
                  exact ih_5 _ _ _ (show (1502 - (u4_5 + 1) : Int) < ((m_5 : Nat) : Int) from by ((first | omega | (simp only [st_s] <;> omega) | assumption | omega | fail))) hT (show τ16.1 3 = σ.1 3 from by first | exact W3 | omega) (show τ16.1 4 = σ.1 4 from by first | exact W4 | omega) (show τ16.1 5 = σ.1 5 from by first | exact W5 | omega) (show τ16.1 10 = σ.1 10 from by first | exact W10 | omega) (show τ16.1 11 = σ.1 11 from by first | exact W11 | omega) G8 G10 G12 G13 G14 G15 G16 G17 G18 G19 G20 (show 0 ≤ (u4_5 + 1) ∧ (u4_5 + 1) ≤ n1 from by (first | omega | (simp only [st_s] <;> omega) | assumption | omega | fail)) (show 0 = 0 ∨ 0 = 1 from by (first | omega | (simp only [st_s] <;> omega) | assumption | omega | fail)) (show y_CT τ16 from by (first | exact p12 | exact i5_3 | exact q14_1 | fail)) (show ((τ16.1 49) = 0 ∨ (y_TT τ16 τ16 (σ.1 5) (σ.1 5) ∧ y_Un τ16 (σ.1 5) (τ16.1 48) (τ16.2.1 84))) from by (first | exact p9 | exact i5_4 | (have e5 : τ_5.1 5 = σ.1 5 := (by omega); rw [e5] at q14_3; exact q14_3) | fail)) (show (τ16.1 51) = (σ.1 51) ∧ (τ16.1 52) = (σ.1 52) from by (first | omega | (simp only [st_s] <;> omega) | assumption | omega | fail)) (show ∀ y : Int, y < (σ.1 51) → (τ16.2.1 86 y = σ.2.1 86 y ∧ τ16.2.1 87 y = σ.2.1 87 y) ∧ τ16.2.1 88 y = σ.2.1 88 y ∧ τ16.2.1 89 y = σ.2.1 89 y ∧ τ16.2.1 90 y = σ.2.1 90 y from by (first | exact i5_6 | exact fun _ _ => ⟨⟨rfl, rfl⟩, rfl, rfl, rfl⟩ | (intro y a; have w := q14_5 y (by omega); have v := i5_6 y a; rw [w.1.1, w.1.2, w.2.1, w.2.2.1, w.2.2.2]; exact v) | fail)) (show ∀ e : Int, e < (σ.1 52) → τ16.2.1 91 e = σ.2.1 91 e from by (first | exact i5_7 | exact fun _ _ => rfl | (intro y a; rw [q14_6 y (by omega)]; exact i5_7 y a) | fail)) (show ∀ i : Int, ¬ σ.2.1 94 i = -1 → τ16.2.1 94 i = σ.2.1 94 i from by (first | exact i5_8 | exact fun _ _ => rfl | (intro i a; have v := i5_8 i a; by_cases z : i = u4_5; (have w := q14_9 (by rw [← z, v]; exact a); rw [w]; exact v); (rw [q14_8 i z]; exact v)) | fail)) (show n_J τ16 from by (first | exact p6 | exact i5_9 | exact n_J_hh i5_9 hf_τ16 rfl rfl | fail)) (show m_J τ16 from by (first | exact p7 | exact i5_10 | exact m_J_f i5_10 hf_τ16 rfl rfl | fail))
                ·
                  refine ⟨(⟨by (first | omega | (simp only [st_s] <;> omega) | assumption | omega | fail), by (first | omega | (simp only [st_s] <;> omega) | assumption | omega | fail)⟩ : rg (u4_5 + 1)), ?_⟩
                  exact ih_5 _ _ _ (show (1502 - (u4_5 + 1) : Int) < ((m_5 : Nat) : Int) from by ((first | omega | (simp only [st_s] <;> omega) | assumption | omega | fail))) hT (show τ16.1 3 = σ.1 3 from by first | exact W3 | omega) (show τ16.1 4 = σ.1 4 from by first | exact W4 | omega) (show τ16.1 5 = σ.1 5 from by first | exact W5 | omega) (show τ16.1 10 = σ.1 10 from by first | exact W10 | omega) (show τ16.1 11 = σ.1 11 from by first | exact W11 | omega) G8 G10 G12 G13 G14 G15 G16 G17 G18 G19 G20 (show 0 ≤ (u4_5 + 1) ∧ (u4_5 + 1) ≤ n1 from by (first | omega | (simp only [st_s] <;> omega) | assumption | omega | fail)) (show 1 = 0 ∨ 1 = 1 from by (first | omega | (simp only [st_s] <;> omega) | assumption | omega | fail)) (show y_CT τ16 from by (first | exact p12 | exact i5_3 | exact q14_1 | fail)) (show ((τ16.1 49) = 0 ∨ (y_TT τ16 τ16 (σ.1 5) (σ.1 5) ∧ y_Un τ16 (σ.1 5) (τ16.1 48) (τ16.2.1 84))) from by (first | exact p9 | exact i5_4 | (have e5 : τ_5.1 5 = σ.1 5 := (by omega); rw [e5] at q14_3; exact q14_3) | fail)) (show (τ16.1 51) = (σ.1 51) ∧ (τ16.1 52) = (σ.1 52) from by (first | omega | (simp only [st_s] <;> omega) | assumption | omega | fail)) (show ∀ y : Int, y < (σ.1 51) → (τ16.2.1 86 y = σ.2.1 86 y ∧ τ16.2.1 87 y = σ.2.1 87 y) ∧ τ16.2.1 88 y = σ.2.1 88 y ∧ τ16.2.1 89 y = σ.2.1 89 y ∧ τ16.2.1 90 y = σ.2.1 90 y from by (first | exact i5_6 | exact fun _ _ => ⟨⟨rfl, rfl⟩, rfl, rfl, rfl⟩ | (intro y a; have w := q14_5 y (by omega); have v := i5_6 y a; rw [w.1.1, w.1.2, w.2.1, w.2.2.1, w.2.2.2]; exact v) | fail)) (show ∀ e : Int, e < (σ.1 52) → τ16.2.1 91 e = σ.2.1 91 e from by (first | exact i5_7 | exact fun _ _ => rfl | (intro y a; rw [q14_6 y (by omega)]; exact i5_7 y a) | fail)) (show ∀ i : Int, ¬ σ.2.1 94 i = -1 → τ16.2.1 94 i = σ.2.1 94 i from by (first | exact i5_8 | exact fun _ _ => rfl | (intro i a; have v := i5_8 i a; by_cases z : i = u4_5; (have w := q14_9 (by rw [← z, v]; exact a); rw [w]; exact v); (rw [q14_8 i z]; exact v)) | fail)) (show n_J τ16 from by (first | exact p6 | exact i5_9 | exact n_J_hh i5_9 hf_τ16 rfl rfl | fail)) (show m_J τ16 from by (first | exact p7 | exact i5_10 | exact m_J_f i5_10 hf_τ16 rfl rfl | fail))
  exact l_5 ((1502 - 0 : Int).toNat + 1) _ _ _ (show (1502 - 0 : Int) < (((1502 - 0 : Int).toNat + 1 : Nat) : Int) from by ((first | omega | (simp only [st_s] <;> omega) | assumption | omega | fail))) hT (show σ.1 3 = σ.1 3 from by first | exact W3 | omega) (show σ.1 4 = σ.1 4 from by first | exact W4 | omega) (show σ.1 5 = σ.1 5 from by first | exact W5 | omega) (show σ.1 10 = σ.1 10 from by first | exact W10 | omega) (show σ.1 11 = σ.1 11 from by first | exact W11 | omega) G8 G10 G12 G13 G14 G15 G16 G17 G18 G19 G20 (show 0 ≤ 0 ∧ 0 ≤ n1 from by (first | omega | (simp only [st_s] <;> omega) | assumption | omega | fail)) (show 0 = 0 ∨ 0 = 1 from by (first | omega | (simp only [st_s] <;> omega) | assumption | omega | fail)) (show y_CT σ from by (first | exact p12 | exact i5_3 | exact q14_1 | fail)) (show ((σ.1 49) = 0 ∨ (y_TT σ σ (σ.1 5) (σ.1 5) ∧ y_Un σ (σ.1 5) (σ.1 48) (σ.2.1 84))) from by (first | exact p9 | exact i5_4 | (have e5 : τ_5.1 5 = σ.1 5 := (by omega); rw [e5] at q14_3; exact q14_3) | fail)) (show (σ.1 51) = (σ.1 51) ∧ (σ.1 52) = (σ.1 52) from by (first | omega | (simp only [st_s] <;> omega) | assumption | omega | fail)) (show ∀ y : Int, y < (σ.1 51) → (σ.2.1 86 y = σ.2.1 86 y ∧ σ.2.1 87 y = σ.2.1 87 y) ∧ σ.2.1 88 y = σ.2.1 88 y ∧ σ.2.1 89 y = σ.2.1 89 y ∧ σ.2.1 90 y = σ.2.1 90 y from by (first | exact i5_6 | exact fun _ _ => ⟨⟨rfl, rfl⟩, rfl, rfl, rfl⟩ | (intro y a; have w := q14_5 y (by omega); have v := i5_6 y a; rw [w.1.1, w.1.2, w.2.1, w.2.2.1, w.2.2.2]; exact v) | fail)) (show ∀ e : Int, e < (σ.1 52) → σ.2.1 91 e = σ.2.1 91 e from by (first | exact i5_7 | exact fun _ _ => rfl | (intro y a; rw [q14_6 y (by omega)]; exact i5_7 y a) | fail)) (show ∀ i : Int, ¬ σ.2.1 94 i = -1 → σ.2.1 94 i = σ.2.1 94 i from by (first | exact i5_8 | exact fun _ _ => rfl | (intro i a; have v := i5_8 i a; by_cases z : i = u4_5; (have w := q14_9 (by rw [← z, v]; exact a); rw [w]; exact v); (rw [q14_8 i z]; exact v)) | fail)) (show n_J σ from by (first | exact p6 | exact i5_9 | exact n_J_hh i5_9 hf_τ16 rfl rfl | fail)) (show m_J σ from by (first | exact p7 | exact i5_10 | exact m_J_f i5_10 hf_τ16 rfl rfl | fail))
