-- pure: the model reads a statement
set_option maxHeartbeats 1000000 in
theorem K_X13_readLabel {σ : S0} (hT : m_T σ) (p1 : (σ.1 17) + (σ.1 18) ≤ (σ.1 0)) (p2 : oc (σ.2.1 6) ≤ (σ.1 3)) (p3 : oc (σ.2.1 7) ≤ (σ.1 5)) : W_X13_readLabel σ (fun (τ : S0) => (m_T τ) ∧ ((τ.1 20) = 0 → (τ.1 22) = (σ.1 5) ∧ τ.2.1 15 (τ.1 22) = 0 ∧ τ.2.1 19 (τ.1 22) = 0 ∧ τ.2.1 22 (τ.1 22) = 0 ∧ τ.2.1 26 (τ.1 22) = 0 ∧ (σ.1 5) < 1500) ∧ ((τ.1 20) = 0 → τ.2.1 14 (τ.1 22) = (σ.1 6) ∧ τ.2.1 18 (τ.1 22) = (σ.1 7) ∧ τ.2.1 21 (τ.1 22) = (σ.1 8) ∧ τ.2.1 25 (τ.1 22) = (σ.1 9)) ∧ (oc (τ.2.1 7) ≤ (σ.1 5) + 1) ∧ (¬ (σ.1 20) = 0 → (τ.1 20) = (σ.1 20)) ∧ (m_ag σ τ)) := by
  have A6 : ∀ j, (-1) ≤ σ.2.1 6 j ∧ σ.2.1 6 j ≤ 999 := fun j => hT.2 6 j
  have A7 : ∀ j, (-1) ≤ σ.2.1 7 j ∧ σ.2.1 7 j ≤ 1499 := fun j => hT.2 7 j
  have A14 : ∀ j, 0 ≤ σ.2.1 14 j ∧ σ.2.1 14 j ≤ 30000 := fun j => hT.2 14 j
  have A15 : ∀ j, 0 ≤ σ.2.1 15 j ∧ σ.2.1 15 j ≤ 300 := fun j => hT.2 15 j
  have A18 : ∀ j, 0 ≤ σ.2.1 18 j ∧ σ.2.1 18 j ≤ 90000 := fun j => hT.2 18 j
  have A19 : ∀ j, 0 ≤ σ.2.1 19 j ∧ σ.2.1 19 j ≤ 60 := fun j => hT.2 19 j
  have A21 : ∀ j, 0 ≤ σ.2.1 21 j ∧ σ.2.1 21 j ≤ 20000 := fun j => hT.2 21 j
  have A22 : ∀ j, 0 ≤ σ.2.1 22 j ∧ σ.2.1 22 j ≤ 20000 := fun j => hT.2 22 j
  have A25 : ∀ j, 0 ≤ σ.2.1 25 j ∧ σ.2.1 25 j ≤ 20000 := fun j => hT.2 25 j
  have A26 : ∀ j, 0 ≤ σ.2.1 26 j ∧ σ.2.1 26 j ≤ 20000 := fun j => hT.2 26 j
  have v0 : 0 ≤ σ.1 0 ∧ σ.1 0 ≤ 60000 := hT.1 0
  have v2 : 0 ≤ σ.1 2 ∧ σ.1 2 ≤ 30000 := hT.1 2
  have v3 : 0 ≤ σ.1 3 ∧ σ.1 3 ≤ 1000 := hT.1 3
  have v5 : 0 ≤ σ.1 5 ∧ σ.1 5 ≤ 1500 := hT.1 5
  have v6 : 0 ≤ σ.1 6 ∧ σ.1 6 ≤ 30000 := hT.1 6
  have v7 : 0 ≤ σ.1 7 ∧ σ.1 7 ≤ 90000 := hT.1 7
  have v8 : 0 ≤ σ.1 8 ∧ σ.1 8 ≤ 20000 := hT.1 8
  have v9 : 0 ≤ σ.1 9 ∧ σ.1 9 ≤ 20000 := hT.1 9
  have v17 : 0 ≤ σ.1 17 ∧ σ.1 17 ≤ 60000 := hT.1 17
  have v18 : 0 ≤ σ.1 18 ∧ σ.1 18 ≤ 60000 := hT.1 18
  have v20 : 0 ≤ σ.1 20 ∧ σ.1 20 ≤ 19 := hT.1 20
  have v22 : 0 ≤ σ.1 22 ∧ σ.1 22 ≤ 1499 := hT.1 22
  have W0 : σ.1 0 = σ.1 0 := rfl
  have W3 : σ.1 3 = σ.1 3 := rfl
  have W5 : σ.1 5 = σ.1 5 := rfl
  have W6 : σ.1 6 = σ.1 6 := rfl
  have W7 : σ.1 7 = σ.1 7 := rfl
  have W8 : σ.1 8 = σ.1 8 := rfl
  have W9 : σ.1 9 = σ.1 9 := rfl
  have W17 : σ.1 17 = σ.1 17 := rfl
  have W18 : σ.1 18 = σ.1 18 := rfl
  have G6 : σ.2.1 6 = σ.2.1 6 := rfl
  have ag : m_ag σ σ := ag_0 σ
  intro P34 P42 P108 P263 h34 h42 h108 h263
  have l_263 : ∀ (m_263 : Nat) (u1_263 : Int) (τ_263 : S0), 25 - u1_263 < (m_263 : Int) → (m_T τ_263) → (m_ag σ τ_263) → (τ_263.1 0 = σ.1 0) → (τ_263.1 3 = σ.1 3) → (τ_263.1 5 = σ.1 5) → (τ_263.1 6 = σ.1 6) → (τ_263.1 7 = σ.1 7) → (τ_263.1 8 = σ.1 8) → (τ_263.1 9 = σ.1 9) → (τ_263.1 17 = σ.1 17) → (τ_263.1 18 = σ.1 18) → (τ_263.2.1 6 = σ.2.1 6) → (0 ≤ u1_263) → ((τ_263.1 20) = (σ.1 20)) → ((τ_263.1 22) = (σ.1 5)) → ((σ.1 5) < 1500) → (oc (τ_263.2.1 7) ≤ (σ.1 5) + 1) → (u1_263 ≤ 24) → (τ_263.2.1 14 (τ_263.1 22) = (σ.1 6)) → (τ_263.2.1 15 (τ_263.1 22) = 0) → (τ_263.2.1 18 (τ_263.1 22) = (σ.1 7)) → (τ_263.2.1 19 (τ_263.1 22) = 0) → (τ_263.2.1 21 (τ_263.1 22) = (σ.1 8)) → (τ_263.2.1 22 (τ_263.1 22) = 0) → (τ_263.2.1 25 (τ_263.1 22) = (σ.1 9)) → (τ_263.2.1 26 (τ_263.1 22) = 0) → P263 u1_263 τ_263 := by
    intro m_263
    induction m_263 with
    | zero =>
      intro u1_263 τ_263 hm hT ag W0 W3 W5 W6 W7 W8 W9 W17 W18 G6 i263_1 i263_2 i263_3 i263_4 i263_5 i263_6 i263_7 i263_8 i263_9 i263_10 i263_11 i263_12 i263_13 i263_14
      have A6 : ∀ j, (-1) ≤ τ_263.2.1 6 j ∧ τ_263.2.1 6 j ≤ 999 := fun j => hT.2 6 j
      have A7 : ∀ j, (-1) ≤ τ_263.2.1 7 j ∧ τ_263.2.1 7 j ≤ 1499 := fun j => hT.2 7 j
      have A14 : ∀ j, 0 ≤ τ_263.2.1 14 j ∧ τ_263.2.1 14 j ≤ 30000 := fun j => hT.2 14 j
      have A15 : ∀ j, 0 ≤ τ_263.2.1 15 j ∧ τ_263.2.1 15 j ≤ 300 := fun j => hT.2 15 j
      have A18 : ∀ j, 0 ≤ τ_263.2.1 18 j ∧ τ_263.2.1 18 j ≤ 90000 := fun j => hT.2 18 j
      have A19 : ∀ j, 0 ≤ τ_263.2.1 19 j ∧ τ_263.2.1 19 j ≤ 60 := fun j => hT.2 19 j
      have A21 : ∀ j, 0 ≤ τ_263.2.1 21 j ∧ τ_263.2.1 21 j ≤ 20000 := fun j => hT.2 21 j
      have A22 : ∀ j, 0 ≤ τ_263.2.1 22 j ∧ τ_263.2.1 22 j ≤ 20000 := fun j => hT.2 22 j
      have A25 : ∀ j, 0 ≤ τ_263.2.1 25 j ∧ τ_263.2.1 25 j ≤ 20000 := fun j => hT.2 25 j
      have A26 : ∀ j, 0 ≤ τ_263.2.1 26 j ∧ τ_263.2.1 26 j ≤ 20000 := fun j => hT.2 26 j
      have v0 : 0 ≤ τ_263.1 0 ∧ τ_263.1 0 ≤ 60000 := hT.1 0
      have v2 : 0 ≤ τ_263.1 2 ∧ τ_263.1 2 ≤ 30000 := hT.1 2
      have v3 : 0 ≤ τ_263.1 3 ∧ τ_263.1 3 ≤ 1000 := hT.1 3
      have v5 : 0 ≤ τ_263.1 5 ∧ τ_263.1 5 ≤ 1500 := hT.1 5
      have v6 : 0 ≤ τ_263.1 6 ∧ τ_263.1 6 ≤ 30000 := hT.1 6
      have v7 : 0 ≤ τ_263.1 7 ∧ τ_263.1 7 ≤ 90000 := hT.1 7
      have v8 : 0 ≤ τ_263.1 8 ∧ τ_263.1 8 ≤ 20000 := hT.1 8
      have v9 : 0 ≤ τ_263.1 9 ∧ τ_263.1 9 ≤ 20000 := hT.1 9
      have v17 : 0 ≤ τ_263.1 17 ∧ τ_263.1 17 ≤ 60000 := hT.1 17
      have v18 : 0 ≤ τ_263.1 18 ∧ τ_263.1 18 ≤ 60000 := hT.1 18
      have v20 : 0 ≤ τ_263.1 20 ∧ τ_263.1 20 ≤ 19 := hT.1 20
      have v22 : 0 ≤ τ_263.1 22 ∧ τ_263.1 22 ≤ 1499 := hT.1 22
      exfalso; (first | omega | (simp only [st_s] <;> omega) | assumption | omega)
    | succ m_263 ih_263 =>
      intro u1_263 τ_263 hm_263 hT ag W0 W3 W5 W6 W7 W8 W9 W17 W18 G6 i263_1 i263_2 i263_3 i263_4 i263_5 i263_6 i263_7 i263_8 i263_9 i263_10 i263_11 i263_12 i263_13 i263_14
      have A6 : ∀ j, (-1) ≤ τ_263.2.1 6 j ∧ τ_263.2.1 6 j ≤ 999 := fun j => hT.2 6 j
      have A7 : ∀ j, (-1) ≤ τ_263.2.1 7 j ∧ τ_263.2.1 7 j ≤ 1499 := fun j => hT.2 7 j
      have A14 : ∀ j, 0 ≤ τ_263.2.1 14 j ∧ τ_263.2.1 14 j ≤ 30000 := fun j => hT.2 14 j
      have A15 : ∀ j, 0 ≤ τ_263.2.1 15 j ∧ τ_263.2.1 15 j ≤ 300 := fun j => hT.2 15 j
      have A18 : ∀ j, 0 ≤ τ_263.2.1 18 j ∧ τ_263.2.1 18 j ≤ 90000 := fun j => hT.2 18 j
      have A19 : ∀ j, 0 ≤ τ_263.2.1 19 j ∧ τ_263.2.1 19 j ≤ 60 := fun j => hT.2 19 j
      have A21 : ∀ j, 0 ≤ τ_263.2.1 21 j ∧ τ_263.2.1 21 j ≤ 20000 := fun j => hT.2 21 j
      have A22 : ∀ j, 0 ≤ τ_263.2.1 22 j ∧ τ_263.2.1 22 j ≤ 20000 := fun j => hT.2 22 j
      have A25 : ∀ j, 0 ≤ τ_263.2.1 25 j ∧ τ_263.2.1 25 j ≤ 20000 := fun j => hT.2 25 j
      have A26 : ∀ j, 0 ≤ τ_263.2.1 26 j ∧ τ_263.2.1 26 j ≤ 20000 := fun j => hT.2 26 j
      have v0 : 0 ≤ τ_263.1 0 ∧ τ_263.1 0 ≤ 60000 := hT.1 0
      have v2 : 0 ≤ τ_263.1 2 ∧ τ_263.1 2 ≤ 30000 := hT.1 2
      have v3 : 0 ≤ τ_263.1 3 ∧ τ_263.1 3 ≤ 1000 := hT.1 3
      have v5 : 0 ≤ τ_263.1 5 ∧ τ_263.1 5 ≤ 1500 := hT.1 5
      have v6 : 0 ≤ τ_263.1 6 ∧ τ_263.1 6 ≤ 30000 := hT.1 6
      have v7 : 0 ≤ τ_263.1 7 ∧ τ_263.1 7 ≤ 90000 := hT.1 7
      have v8 : 0 ≤ τ_263.1 8 ∧ τ_263.1 8 ≤ 20000 := hT.1 8
      have v9 : 0 ≤ τ_263.1 9 ∧ τ_263.1 9 ≤ 20000 := hT.1 9
      have v17 : 0 ≤ τ_263.1 17 ∧ τ_263.1 17 ≤ 60000 := hT.1 17
      have v18 : 0 ≤ τ_263.1 18 ∧ τ_263.1 18 ≤ 60000 := hT.1 18
      have v20 : 0 ≤ τ_263.1 20 ∧ τ_263.1 20 ≤ 19 := hT.1 20
      have v22 : 0 ≤ τ_263.1 22 ∧ τ_263.1 22 ≤ 1499 := hT.1 22
      have o6_τ_263 := congrArg oc G6
      refine h263 u1_263 τ_263 ?_
      refine ⟨fun c38 => ?_, fun c38 => ?_⟩
      ·
        exact ⟨hT, (show (τ_263.1 20) = 0 → (τ_263.1 22) = (σ.1 5) ∧ τ_263.2.1 15 (τ_263.1 22) = 0 ∧ τ_263.2.1 19 (τ_263.1 22) = 0 ∧ τ_263.2.1 22 (τ_263.1 22) = 0 ∧ τ_263.2.1 26 (τ_263.1 22) = 0 ∧ (σ.1 5) < 1500 from by (first | omega | (simp only [st_s] <;> omega) | assumption | omega)), (show (τ_263.1 20) = 0 → τ_263.2.1 14 (τ_263.1 22) = (σ.1 6) ∧ τ_263.2.1 18 (τ_263.1 22) = (σ.1 7) ∧ τ_263.2.1 21 (τ_263.1 22) = (σ.1 8) ∧ τ_263.2.1 25 (τ_263.1 22) = (σ.1 9) from by (first | omega | (simp only [st_s] <;> omega) | assumption | omega)), (show oc (τ_263.2.1 7) ≤ (σ.1 5) + 1 from by (first | omega | (simp only [st_s] <;> omega) | assumption | omega)), (show ¬ (σ.1 20) = 0 → (τ_263.1 20) = (σ.1 20) from by (first | omega | (simp only [st_s] <;> omega) | assumption | omega)), ag⟩
      ·
        refine ⟨(show 0 ≤ ((24 * τ_263.1 22) + u1_263) ∧ ((24 * τ_263.1 22) + u1_263) < 36024 from by (first | omega | (simp only [st_s] <;> omega) | assumption | omega)), ?_⟩
        replace ag := ag_b (k := 0) (e := ((24 * τ_263.1 22) + u1_263)) (x := 0) ag
        replace hT := mT_b (k := 0) (j := ((24 * τ_263.1 22) + u1_263)) (x := 0) hT
        refine ⟨(⟨by (first | omega | (simp only [st_s] <;> omega) | assumption | omega), by (first | omega | (simp only [st_s] <;> omega) | assumption | omega)⟩ : rg (u1_263 + 1)), ?_⟩
        exact ih_263 _ _ (show (25 - (u1_263 + 1) : Int) < ((m_263 : Nat) : Int) from by ((first | omega | (simp only [st_s] <;> omega) | assumption | omega))) hT ag (show τ_263.1 0 = σ.1 0 from by omega) (show τ_263.1 3 = σ.1 3 from by omega) (show τ_263.1 5 = σ.1 5 from by omega) (show τ_263.1 6 = σ.1 6 from by omega) (show τ_263.1 7 = σ.1 7 from by omega) (show τ_263.1 8 = σ.1 8 from by omega) (show τ_263.1 9 = σ.1 9 from by omega) (show τ_263.1 17 = σ.1 17 from by omega) (show τ_263.1 18 = σ.1 18 from by omega) G6 (show 0 ≤ (u1_263 + 1) from by (first | omega | (simp only [st_s] <;> omega) | assumption | omega)) (show (τ_263.1 20) = (σ.1 20) from by (first | omega | (simp only [st_s] <;> omega) | assumption | omega)) (show (τ_263.1 22) = (σ.1 5) from by (first | omega | (simp only [st_s] <;> omega) | assumption | omega)) (show (σ.1 5) < 1500 from by (first | omega | (simp only [st_s] <;> omega) | assumption | omega)) (show oc (τ_263.2.1 7) ≤ (σ.1 5) + 1 from by (first | omega | (simp only [st_s] <;> omega) | assumption | omega)) (show (u1_263 + 1) ≤ 24 from by (first | omega | (simp only [st_s] <;> omega) | assumption | omega)) (show τ_263.2.1 14 (τ_263.1 22) = (σ.1 6) from by (first | omega | (rw [st_s]; omega) | (exact st_s _ _ _))) (show τ_263.2.1 15 (τ_263.1 22) = 0 from by (first | omega | (rw [st_s]; omega) | (exact st_s _ _ _))) (show τ_263.2.1 18 (τ_263.1 22) = (σ.1 7) from by (first | omega | (rw [st_s]; omega) | (exact st_s _ _ _))) (show τ_263.2.1 19 (τ_263.1 22) = 0 from by (first | omega | (rw [st_s]; omega) | (exact st_s _ _ _))) (show τ_263.2.1 21 (τ_263.1 22) = (σ.1 8) from by (first | omega | (rw [st_s]; omega) | (exact st_s _ _ _))) (show τ_263.2.1 22 (τ_263.1 22) = 0 from by (first | omega | (rw [st_s]; omega) | (exact st_s _ _ _))) (show τ_263.2.1 25 (τ_263.1 22) = (σ.1 9) from by (first | omega | (rw [st_s]; omega) | (exact st_s _ _ _))) (show τ_263.2.1 26 (τ_263.1 22) = 0 from by (first | omega | (rw [st_s]; omega) | (exact st_s _ _ _)))
  have l_42 : ∀ (m_42 : Nat) (u1_42 : Int) (τ_42 : S0), 61 - u1_42 < (m_42 : Int) → (m_T τ_42) → (m_ag σ τ_42) → (τ_42.1 0 = σ.1 0) → (τ_42.1 3 = σ.1 3) → (τ_42.1 5 = σ.1 5) → (τ_42.1 6 = σ.1 6) → (τ_42.1 7 = σ.1 7) → (τ_42.1 8 = σ.1 8) → (τ_42.1 9 = σ.1 9) → (τ_42.1 17 = σ.1 17) → (τ_42.1 18 = σ.1 18) → (τ_42.2.1 6 = σ.2.1 6) → (0 ≤ u1_42) → (u1_42 ≤ 60) → ((τ_42.1 20) = (σ.1 20)) → (oc (τ_42.2.1 7) ≤ (σ.1 5)) → ((σ.1 5) < 1500) → ((σ.1 2) + (σ.1 18) ≤ 30000) → ((σ.1 18) ≤ 60) → ((τ_42.1 2) = (σ.1 2)) → P42 u1_42 τ_42 := by
    intro m_42
    induction m_42 with
    | zero =>
      intro u1_42 τ_42 hm hT ag W0 W3 W5 W6 W7 W8 W9 W17 W18 G6 i42_1 i42_2 i42_3 i42_4 i42_5 i42_6 i42_7 i42_8
      have A6 : ∀ j, (-1) ≤ τ_42.2.1 6 j ∧ τ_42.2.1 6 j ≤ 999 := fun j => hT.2 6 j
      have A7 : ∀ j, (-1) ≤ τ_42.2.1 7 j ∧ τ_42.2.1 7 j ≤ 1499 := fun j => hT.2 7 j
      have A14 : ∀ j, 0 ≤ τ_42.2.1 14 j ∧ τ_42.2.1 14 j ≤ 30000 := fun j => hT.2 14 j
      have A15 : ∀ j, 0 ≤ τ_42.2.1 15 j ∧ τ_42.2.1 15 j ≤ 300 := fun j => hT.2 15 j
      have A18 : ∀ j, 0 ≤ τ_42.2.1 18 j ∧ τ_42.2.1 18 j ≤ 90000 := fun j => hT.2 18 j
      have A19 : ∀ j, 0 ≤ τ_42.2.1 19 j ∧ τ_42.2.1 19 j ≤ 60 := fun j => hT.2 19 j
      have A21 : ∀ j, 0 ≤ τ_42.2.1 21 j ∧ τ_42.2.1 21 j ≤ 20000 := fun j => hT.2 21 j
      have A22 : ∀ j, 0 ≤ τ_42.2.1 22 j ∧ τ_42.2.1 22 j ≤ 20000 := fun j => hT.2 22 j
      have A25 : ∀ j, 0 ≤ τ_42.2.1 25 j ∧ τ_42.2.1 25 j ≤ 20000 := fun j => hT.2 25 j
      have A26 : ∀ j, 0 ≤ τ_42.2.1 26 j ∧ τ_42.2.1 26 j ≤ 20000 := fun j => hT.2 26 j
      have v0 : 0 ≤ τ_42.1 0 ∧ τ_42.1 0 ≤ 60000 := hT.1 0
      have v2 : 0 ≤ τ_42.1 2 ∧ τ_42.1 2 ≤ 30000 := hT.1 2
      have v3 : 0 ≤ τ_42.1 3 ∧ τ_42.1 3 ≤ 1000 := hT.1 3
      have v5 : 0 ≤ τ_42.1 5 ∧ τ_42.1 5 ≤ 1500 := hT.1 5
      have v6 : 0 ≤ τ_42.1 6 ∧ τ_42.1 6 ≤ 30000 := hT.1 6
      have v7 : 0 ≤ τ_42.1 7 ∧ τ_42.1 7 ≤ 90000 := hT.1 7
      have v8 : 0 ≤ τ_42.1 8 ∧ τ_42.1 8 ≤ 20000 := hT.1 8
      have v9 : 0 ≤ τ_42.1 9 ∧ τ_42.1 9 ≤ 20000 := hT.1 9
      have v17 : 0 ≤ τ_42.1 17 ∧ τ_42.1 17 ≤ 60000 := hT.1 17
      have v18 : 0 ≤ τ_42.1 18 ∧ τ_42.1 18 ≤ 60000 := hT.1 18
      have v20 : 0 ≤ τ_42.1 20 ∧ τ_42.1 20 ≤ 19 := hT.1 20
      have v22 : 0 ≤ τ_42.1 22 ∧ τ_42.1 22 ≤ 1499 := hT.1 22
      exfalso; (first | omega | (simp only [st_s] <;> omega) | assumption | omega)
    | succ m_42 ih_42 =>
      intro u1_42 τ_42 hm_42 hT ag W0 W3 W5 W6 W7 W8 W9 W17 W18 G6 i42_1 i42_2 i42_3 i42_4 i42_5 i42_6 i42_7 i42_8
      have A6 : ∀ j, (-1) ≤ τ_42.2.1 6 j ∧ τ_42.2.1 6 j ≤ 999 := fun j => hT.2 6 j
      have A7 : ∀ j, (-1) ≤ τ_42.2.1 7 j ∧ τ_42.2.1 7 j ≤ 1499 := fun j => hT.2 7 j
      have A14 : ∀ j, 0 ≤ τ_42.2.1 14 j ∧ τ_42.2.1 14 j ≤ 30000 := fun j => hT.2 14 j
      have A15 : ∀ j, 0 ≤ τ_42.2.1 15 j ∧ τ_42.2.1 15 j ≤ 300 := fun j => hT.2 15 j
      have A18 : ∀ j, 0 ≤ τ_42.2.1 18 j ∧ τ_42.2.1 18 j ≤ 90000 := fun j => hT.2 18 j
      have A19 : ∀ j, 0 ≤ τ_42.2.1 19 j ∧ τ_42.2.1 19 j ≤ 60 := fun j => hT.2 19 j
      have A21 : ∀ j, 0 ≤ τ_42.2.1 21 j ∧ τ_42.2.1 21 j ≤ 20000 := fun j => hT.2 21 j
      have A22 : ∀ j, 0 ≤ τ_42.2.1 22 j ∧ τ_42.2.1 22 j ≤ 20000 := fun j => hT.2 22 j
      have A25 : ∀ j, 0 ≤ τ_42.2.1 25 j ∧ τ_42.2.1 25 j ≤ 20000 := fun j => hT.2 25 j
      have A26 : ∀ j, 0 ≤ τ_42.2.1 26 j ∧ τ_42.2.1 26 j ≤ 20000 := fun j => hT.2 26 j
      have v0 : 0 ≤ τ_42.1 0 ∧ τ_42.1 0 ≤ 60000 := hT.1 0
      have v2 : 0 ≤ τ_42.1 2 ∧ τ_42.1 2 ≤ 30000 := hT.1 2
      have v3 : 0 ≤ τ_42.1 3 ∧ τ_42.1 3 ≤ 1000 := hT.1 3
      have v5 : 0 ≤ τ_42.1 5 ∧ τ_42.1 5 ≤ 1500 := hT.1 5
      have v6 : 0 ≤ τ_42.1 6 ∧ τ_42.1 6 ≤ 30000 := hT.1 6
      have v7 : 0 ≤ τ_42.1 7 ∧ τ_42.1 7 ≤ 90000 := hT.1 7
      have v8 : 0 ≤ τ_42.1 8 ∧ τ_42.1 8 ≤ 20000 := hT.1 8
      have v9 : 0 ≤ τ_42.1 9 ∧ τ_42.1 9 ≤ 20000 := hT.1 9
      have v17 : 0 ≤ τ_42.1 17 ∧ τ_42.1 17 ≤ 60000 := hT.1 17
      have v18 : 0 ≤ τ_42.1 18 ∧ τ_42.1 18 ≤ 60000 := hT.1 18
      have v20 : 0 ≤ τ_42.1 20 ∧ τ_42.1 20 ≤ 19 := hT.1 20
      have v22 : 0 ≤ τ_42.1 22 ∧ τ_42.1 22 ≤ 1499 := hT.1 22
      have o6_τ_42 := congrArg oc G6
      refine h42 u1_42 τ_42 ?_
      refine ⟨fun c8 => ?_, fun c8 => ?_⟩
      ·
        refine ⟨_, K_X13_findLabel_q1 hT (show 0 ≤ (τ_42.1 17) from by (first | omega | (simp only [st_s] <;> omega) | assumption | omega)) (show (τ_42.1 17) + (τ_42.1 18) ≤ 60000 from by (first | omega | (simp only [st_s] <;> omega) | assumption | omega)) (show oc (τ_42.2.1 7) < 4096 from by (first | omega | (simp only [st_s] <;> omega) | assumption | omega)), ?_⟩
        intro x10 r_x10 hq
        have q9_1 := hq
        replace q9_1 : -1 ≤ x10 ∧ x10 ≤ 1499 := q9_1
        refine ⟨fun c12 => ?_, fun c12 => ?_⟩
        ·
          refine h108 _ ?_
          refine ⟨_, K_X13_failHere hT (show 0 ≤ 7 from by (first | omega | (simp only [st_s] <;> omega) | assumption | omega)) (show 7 ≤ 19 from by (first | omega | (simp only [st_s] <;> omega) | assumption | omega)), ?_⟩
          intro τ37 hn_τ37 hf_τ37 hq
          obtain ⟨hT, q35_1, q35_2⟩ := hq
          replace q35_1 : ¬ (τ_42.1 20) = 0 → (τ37.1 20) = (τ_42.1 20) := q35_1
          replace q35_2 : (τ_42.1 20) = 0 → (τ37.1 20) = 7 := q35_2
          replace ag : m_ag σ τ37 := ag_r ag hf_τ37 rfl rfl
          have w0_τ37 : τ37.1 0 = τ_42.1 0 := hf_τ37.1 0 (by decide)
          have w2_τ37 : τ37.1 2 = τ_42.1 2 := hf_τ37.1 2 (by decide)
          have w3_τ37 : τ37.1 3 = τ_42.1 3 := hf_τ37.1 3 (by decide)
          have w5_τ37 : τ37.1 5 = τ_42.1 5 := hf_τ37.1 5 (by decide)
          have w6_τ37 : τ37.1 6 = τ_42.1 6 := hf_τ37.1 6 (by decide)
          have w7_τ37 : τ37.1 7 = τ_42.1 7 := hf_τ37.1 7 (by decide)
          have w8_τ37 : τ37.1 8 = τ_42.1 8 := hf_τ37.1 8 (by decide)
          have w9_τ37 : τ37.1 9 = τ_42.1 9 := hf_τ37.1 9 (by decide)
          have w17_τ37 : τ37.1 17 = τ_42.1 17 := hf_τ37.1 17 (by decide)
          have w18_τ37 : τ37.1 18 = τ_42.1 18 := hf_τ37.1 18 (by decide)
          have w22_τ37 : τ37.1 22 = τ_42.1 22 := hf_τ37.1 22 (by decide)
          have g6_τ37 : τ37.2.1 6 = τ_42.2.1 6 := hf_τ37.2.1 6 (by decide)
          have g7_τ37 : τ37.2.1 7 = τ_42.2.1 7 := hf_τ37.2.1 7 (by decide)
          have g14_τ37 : τ37.2.1 14 = τ_42.2.1 14 := hf_τ37.2.1 14 (by decide)
          have g15_τ37 : τ37.2.1 15 = τ_42.2.1 15 := hf_τ37.2.1 15 (by decide)
          have g18_τ37 : τ37.2.1 18 = τ_42.2.1 18 := hf_τ37.2.1 18 (by decide)
          have g19_τ37 : τ37.2.1 19 = τ_42.2.1 19 := hf_τ37.2.1 19 (by decide)
          have g21_τ37 : τ37.2.1 21 = τ_42.2.1 21 := hf_τ37.2.1 21 (by decide)
          have g22_τ37 : τ37.2.1 22 = τ_42.2.1 22 := hf_τ37.2.1 22 (by decide)
          have g25_τ37 : τ37.2.1 25 = τ_42.2.1 25 := hf_τ37.2.1 25 (by decide)
          have g26_τ37 : τ37.2.1 26 = τ_42.2.1 26 := hf_τ37.2.1 26 (by decide)
          first | (have o6_τ37 := congrArg oc g6_τ37) | skip
          first | (have o7_τ37 := congrArg oc g7_τ37) | skip
          have W0 : τ37.1 0 = σ.1 0 := by omega
          have W3 : τ37.1 3 = σ.1 3 := by omega
          have W5 : τ37.1 5 = σ.1 5 := by omega
          have W6 : τ37.1 6 = σ.1 6 := by omega
          have W7 : τ37.1 7 = σ.1 7 := by omega
          have W8 : τ37.1 8 = σ.1 8 := by omega
          have W9 : τ37.1 9 = σ.1 9 := by omega
          have W17 : τ37.1 17 = σ.1 17 := by omega
          have W18 : τ37.1 18 = σ.1 18 := by omega
          have G6 : τ37.2.1 6 = σ.2.1 6 := (g6_τ37).trans G6
          have y14_22_τ37 : τ37.2.1 14 (τ37.1 22) = (τ_42.2.1 14) (τ_42.1 22) := by rw [g14_τ37, w22_τ37]
          have y15_22_τ37 : τ37.2.1 15 (τ37.1 22) = (τ_42.2.1 15) (τ_42.1 22) := by rw [g15_τ37, w22_τ37]
          have y18_22_τ37 : τ37.2.1 18 (τ37.1 22) = (τ_42.2.1 18) (τ_42.1 22) := by rw [g18_τ37, w22_τ37]
          have y19_22_τ37 : τ37.2.1 19 (τ37.1 22) = (τ_42.2.1 19) (τ_42.1 22) := by rw [g19_τ37, w22_τ37]
          have y21_22_τ37 : τ37.2.1 21 (τ37.1 22) = (τ_42.2.1 21) (τ_42.1 22) := by rw [g21_τ37, w22_τ37]
          have y22_22_τ37 : τ37.2.1 22 (τ37.1 22) = (τ_42.2.1 22) (τ_42.1 22) := by rw [g22_τ37, w22_τ37]
          have y25_22_τ37 : τ37.2.1 25 (τ37.1 22) = (τ_42.2.1 25) (τ_42.1 22) := by rw [g25_τ37, w22_τ37]
          have y26_22_τ37 : τ37.2.1 26 (τ37.1 22) = (τ_42.2.1 26) (τ_42.1 22) := by rw [g26_τ37, w22_τ37]
          have A6 : ∀ j, (-1) ≤ τ37.2.1 6 j ∧ τ37.2.1 6 j ≤ 999 := fun j => hT.2 6 j
          have A7 : ∀ j, (-1) ≤ τ37.2.1 7 j ∧ τ37.2.1 7 j ≤ 1499 := fun j => hT.2 7 j
          have A14 : ∀ j, 0 ≤ τ37.2.1 14 j ∧ τ37.2.1 14 j ≤ 30000 := fun j => hT.2 14 j
          have A15 : ∀ j, 0 ≤ τ37.2.1 15 j ∧ τ37.2.1 15 j ≤ 300 := fun j => hT.2 15 j
          have A18 : ∀ j, 0 ≤ τ37.2.1 18 j ∧ τ37.2.1 18 j ≤ 90000 := fun j => hT.2 18 j
          have A19 : ∀ j, 0 ≤ τ37.2.1 19 j ∧ τ37.2.1 19 j ≤ 60 := fun j => hT.2 19 j
          have A21 : ∀ j, 0 ≤ τ37.2.1 21 j ∧ τ37.2.1 21 j ≤ 20000 := fun j => hT.2 21 j
          have A22 : ∀ j, 0 ≤ τ37.2.1 22 j ∧ τ37.2.1 22 j ≤ 20000 := fun j => hT.2 22 j
          have A25 : ∀ j, 0 ≤ τ37.2.1 25 j ∧ τ37.2.1 25 j ≤ 20000 := fun j => hT.2 25 j
          have A26 : ∀ j, 0 ≤ τ37.2.1 26 j ∧ τ37.2.1 26 j ≤ 20000 := fun j => hT.2 26 j
          have v0 : 0 ≤ τ37.1 0 ∧ τ37.1 0 ≤ 60000 := hT.1 0
          have v2 : 0 ≤ τ37.1 2 ∧ τ37.1 2 ≤ 30000 := hT.1 2
          have v3 : 0 ≤ τ37.1 3 ∧ τ37.1 3 ≤ 1000 := hT.1 3
          have v5 : 0 ≤ τ37.1 5 ∧ τ37.1 5 ≤ 1500 := hT.1 5
          have v6 : 0 ≤ τ37.1 6 ∧ τ37.1 6 ≤ 30000 := hT.1 6
          have v7 : 0 ≤ τ37.1 7 ∧ τ37.1 7 ≤ 90000 := hT.1 7
          have v8 : 0 ≤ τ37.1 8 ∧ τ37.1 8 ≤ 20000 := hT.1 8
          have v9 : 0 ≤ τ37.1 9 ∧ τ37.1 9 ≤ 20000 := hT.1 9
          have v17 : 0 ≤ τ37.1 17 ∧ τ37.1 17 ≤ 60000 := hT.1 17
          have v18 : 0 ≤ τ37.1 18 ∧ τ37.1 18 ≤ 60000 := hT.1 18
          have v20 : 0 ≤ τ37.1 20 ∧ τ37.1 20 ≤ 19 := hT.1 20
          have v22 : 0 ≤ τ37.1 22 ∧ τ37.1 22 ≤ 1499 := hT.1 22
          exact ⟨hT, (show (τ37.1 20) = 0 → (τ37.1 22) = (σ.1 5) ∧ τ37.2.1 15 (τ37.1 22) = 0 ∧ τ37.2.1 19 (τ37.1 22) = 0 ∧ τ37.2.1 22 (τ37.1 22) = 0 ∧ τ37.2.1 26 (τ37.1 22) = 0 ∧ (σ.1 5) < 1500 from by (first | omega | (simp only [st_s] <;> omega) | assumption | omega)), (show (τ37.1 20) = 0 → τ37.2.1 14 (τ37.1 22) = (σ.1 6) ∧ τ37.2.1 18 (τ37.1 22) = (σ.1 7) ∧ τ37.2.1 21 (τ37.1 22) = (σ.1 8) ∧ τ37.2.1 25 (τ37.1 22) = (σ.1 9) from by (first | omega | (simp only [st_s] <;> omega) | assumption | omega)), (show oc (τ37.2.1 7) ≤ (σ.1 5) + 1 from by (first | omega | (simp only [st_s] <;> omega) | assumption | omega)), (show ¬ (σ.1 20) = 0 → (τ37.1 20) = (σ.1 20) from by (first | omega | (simp only [st_s] <;> omega) | assumption | omega)), ag⟩
        ·
          refine ⟨_, K_X13_symbolHere hT (show (τ_42.1 17) + (τ_42.1 18) ≤ 60000 from by (first | omega | (simp only [st_s] <;> omega) | assumption | omega)) (show oc (τ_42.2.1 6) < 4096 from by (first | omega | (simp only [st_s] <;> omega) | assumption | omega)), ?_⟩
          intro x14 r_x14 hq
          obtain ⟨q13_1, q13_2⟩ := hq
          replace q13_1 : -1 ≤ x14 ∧ x14 ≤ 999 := q13_1
          replace q13_2 : x14 = -1 ∨ ∃ e : Int, (0 ≤ e ∧ e < 4096) ∧ x14 = τ_42.2.1 6 e := q13_2
          refine ⟨fun c16 => ?_, fun c16 => ?_⟩
          ·
            replace ag := ag_v (i := 22) (x := (τ_42.1 5)) ag (Or.inl rfl)
            replace hT := mT_v (i := 22) hT (show 0 ≤ (τ_42.1 5) ∧ (τ_42.1 5) ≤ 1499 from by (first | omega | (simp only [st_s] <;> omega) | assumption | omega))
            refine ⟨(show 0 ≤ τ_42.1 5 ∧ τ_42.1 5 < 1501 from by (first | omega | (simp only [st_s] <;> omega) | assumption | omega)), ?_⟩
            replace ag := ag_w (k := 4) (x := (τ_42.1 2)) 5 0 ag rfl (show σ.1 5 + 0 ≤ (τ_42.1 5) from by (first | omega | (simp only [st_s] <;> omega) | assumption | omega))
            replace hT := mT_a (k := 4) (j := (τ_42.1 5)) hT (show (0 : Int) ≤ (τ_42.1 2) ∧ (τ_42.1 2) ≤ 30000 from by (first | omega | (simp only [st_s] <;> omega) | assumption | omega))
            replace ag := ag_w (k := 5) (x := (τ_42.1 18)) 5 0 ag rfl (show σ.1 5 + 0 ≤ (τ_42.1 5) from by (first | omega | (simp only [st_s] <;> omega) | assumption | omega))
            replace hT := mT_a (k := 5) (j := (τ_42.1 5)) hT (show (0 : Int) ≤ (τ_42.1 18) ∧ (τ_42.1 18) ≤ 60 from by (first | omega | (simp only [st_s] <;> omega) | assumption | omega))
            refine ⟨_, K_X13_keepChars hT (show 0 ≤ (τ_42.1 17) from by (first | omega | (simp only [st_s] <;> omega) | assumption | omega)) (show 0 ≤ (τ_42.1 18) from by (first | omega | (simp only [st_s] <;> omega) | assumption | omega)) (show (τ_42.1 17) + (τ_42.1 18) ≤ 60000 from by (first | omega | (simp only [st_s] <;> omega) | assumption | omega)) (show (τ_42.1 2) + (τ_42.1 18) ≤ 30000 from by (first | omega | (simp only [st_s] <;> omega) | assumption | omega)), ?_⟩
            intro τ20 hn_τ20 hf_τ20 hq
            obtain ⟨hT, q18_1⟩ := hq
            replace q18_1 : (τ20.1 2) = (τ_42.1 2) + (τ_42.1 18) := q18_1
            replace ag : m_ag σ τ20 := ag_r ag hf_τ20 rfl rfl
            have w0_τ20 : τ20.1 0 = τ_42.1 0 := hf_τ20.1 0 (by decide)
            have w3_τ20 : τ20.1 3 = τ_42.1 3 := hf_τ20.1 3 (by decide)
            have w5_τ20 : τ20.1 5 = τ_42.1 5 := hf_τ20.1 5 (by decide)
            have w6_τ20 : τ20.1 6 = τ_42.1 6 := hf_τ20.1 6 (by decide)
            have w7_τ20 : τ20.1 7 = τ_42.1 7 := hf_τ20.1 7 (by decide)
            have w8_τ20 : τ20.1 8 = τ_42.1 8 := hf_τ20.1 8 (by decide)
            have w9_τ20 : τ20.1 9 = τ_42.1 9 := hf_τ20.1 9 (by decide)
            have w17_τ20 : τ20.1 17 = τ_42.1 17 := hf_τ20.1 17 (by decide)
            have w18_τ20 : τ20.1 18 = τ_42.1 18 := hf_τ20.1 18 (by decide)
            have w20_τ20 : τ20.1 20 = τ_42.1 20 := hf_τ20.1 20 (by decide)
            have w22_τ20 : τ20.1 22 = τ_42.1 5 := hf_τ20.1 22 (by decide)
            have g6_τ20 : τ20.2.1 6 = τ_42.2.1 6 := hf_τ20.2.1 6 (by decide)
            have g7_τ20 : τ20.2.1 7 = τ_42.2.1 7 := hf_τ20.2.1 7 (by decide)
            have g14_τ20 : τ20.2.1 14 = τ_42.2.1 14 := hf_τ20.2.1 14 (by decide)
            have g15_τ20 : τ20.2.1 15 = τ_42.2.1 15 := hf_τ20.2.1 15 (by decide)
            have g18_τ20 : τ20.2.1 18 = τ_42.2.1 18 := hf_τ20.2.1 18 (by decide)
            have g19_τ20 : τ20.2.1 19 = τ_42.2.1 19 := hf_τ20.2.1 19 (by decide)
            have g21_τ20 : τ20.2.1 21 = τ_42.2.1 21 := hf_τ20.2.1 21 (by decide)
            have g22_τ20 : τ20.2.1 22 = τ_42.2.1 22 := hf_τ20.2.1 22 (by decide)
            have g25_τ20 : τ20.2.1 25 = τ_42.2.1 25 := hf_τ20.2.1 25 (by decide)
            have g26_τ20 : τ20.2.1 26 = τ_42.2.1 26 := hf_τ20.2.1 26 (by decide)
            first | (have o6_τ20 := congrArg oc g6_τ20) | skip
            first | (have o7_τ20 := congrArg oc g7_τ20) | skip
            have W0 : τ20.1 0 = σ.1 0 := by omega
            have W3 : τ20.1 3 = σ.1 3 := by omega
            have W5 : τ20.1 5 = σ.1 5 := by omega
            have W6 : τ20.1 6 = σ.1 6 := by omega
            have W7 : τ20.1 7 = σ.1 7 := by omega
            have W8 : τ20.1 8 = σ.1 8 := by omega
            have W9 : τ20.1 9 = σ.1 9 := by omega
            have W17 : τ20.1 17 = σ.1 17 := by omega
            have W18 : τ20.1 18 = σ.1 18 := by omega
            have G6 : τ20.2.1 6 = σ.2.1 6 := (g6_τ20).trans G6
            have y14_22_τ20 : τ20.2.1 14 (τ20.1 22) = (τ_42.2.1 14) (τ_42.1 5) := by rw [g14_τ20, w22_τ20]
            have y15_22_τ20 : τ20.2.1 15 (τ20.1 22) = (τ_42.2.1 15) (τ_42.1 5) := by rw [g15_τ20, w22_τ20]
            have y18_22_τ20 : τ20.2.1 18 (τ20.1 22) = (τ_42.2.1 18) (τ_42.1 5) := by rw [g18_τ20, w22_τ20]
            have y19_22_τ20 : τ20.2.1 19 (τ20.1 22) = (τ_42.2.1 19) (τ_42.1 5) := by rw [g19_τ20, w22_τ20]
            have y21_22_τ20 : τ20.2.1 21 (τ20.1 22) = (τ_42.2.1 21) (τ_42.1 5) := by rw [g21_τ20, w22_τ20]
            have y22_22_τ20 : τ20.2.1 22 (τ20.1 22) = (τ_42.2.1 22) (τ_42.1 5) := by rw [g22_τ20, w22_τ20]
            have y25_22_τ20 : τ20.2.1 25 (τ20.1 22) = (τ_42.2.1 25) (τ_42.1 5) := by rw [g25_τ20, w22_τ20]
            have y26_22_τ20 : τ20.2.1 26 (τ20.1 22) = (τ_42.2.1 26) (τ_42.1 5) := by rw [g26_τ20, w22_τ20]
            have A6 : ∀ j, (-1) ≤ τ20.2.1 6 j ∧ τ20.2.1 6 j ≤ 999 := fun j => hT.2 6 j
            have A7 : ∀ j, (-1) ≤ τ20.2.1 7 j ∧ τ20.2.1 7 j ≤ 1499 := fun j => hT.2 7 j
            have A14 : ∀ j, 0 ≤ τ20.2.1 14 j ∧ τ20.2.1 14 j ≤ 30000 := fun j => hT.2 14 j
            have A15 : ∀ j, 0 ≤ τ20.2.1 15 j ∧ τ20.2.1 15 j ≤ 300 := fun j => hT.2 15 j
            have A18 : ∀ j, 0 ≤ τ20.2.1 18 j ∧ τ20.2.1 18 j ≤ 90000 := fun j => hT.2 18 j
            have A19 : ∀ j, 0 ≤ τ20.2.1 19 j ∧ τ20.2.1 19 j ≤ 60 := fun j => hT.2 19 j
            have A21 : ∀ j, 0 ≤ τ20.2.1 21 j ∧ τ20.2.1 21 j ≤ 20000 := fun j => hT.2 21 j
            have A22 : ∀ j, 0 ≤ τ20.2.1 22 j ∧ τ20.2.1 22 j ≤ 20000 := fun j => hT.2 22 j
            have A25 : ∀ j, 0 ≤ τ20.2.1 25 j ∧ τ20.2.1 25 j ≤ 20000 := fun j => hT.2 25 j
            have A26 : ∀ j, 0 ≤ τ20.2.1 26 j ∧ τ20.2.1 26 j ≤ 20000 := fun j => hT.2 26 j
            have v0 : 0 ≤ τ20.1 0 ∧ τ20.1 0 ≤ 60000 := hT.1 0
            have v2 : 0 ≤ τ20.1 2 ∧ τ20.1 2 ≤ 30000 := hT.1 2
            have v3 : 0 ≤ τ20.1 3 ∧ τ20.1 3 ≤ 1000 := hT.1 3
            have v5 : 0 ≤ τ20.1 5 ∧ τ20.1 5 ≤ 1500 := hT.1 5
            have v6 : 0 ≤ τ20.1 6 ∧ τ20.1 6 ≤ 30000 := hT.1 6
            have v7 : 0 ≤ τ20.1 7 ∧ τ20.1 7 ≤ 90000 := hT.1 7
            have v8 : 0 ≤ τ20.1 8 ∧ τ20.1 8 ≤ 20000 := hT.1 8
            have v9 : 0 ≤ τ20.1 9 ∧ τ20.1 9 ≤ 20000 := hT.1 9
            have v17 : 0 ≤ τ20.1 17 ∧ τ20.1 17 ≤ 60000 := hT.1 17
            have v18 : 0 ≤ τ20.1 18 ∧ τ20.1 18 ≤ 60000 := hT.1 18
            have v20 : 0 ≤ τ20.1 20 ∧ τ20.1 20 ≤ 19 := hT.1 20
            have v22 : 0 ≤ τ20.1 22 ∧ τ20.1 22 ≤ 1499 := hT.1 22
            refine ⟨_, K_X13_keepLabel hT (show 0 ≤ (τ20.1 22) from by (first | omega | (simp only [st_s] <;> omega) | assumption | omega)) (show (τ20.1 22) < 1500 from by (first | omega | (simp only [st_s] <;> omega) | assumption | omega)) (show oc (τ20.2.1 7) < 4096 from by (first | omega | (simp only [st_s] <;> omega) | assumption | omega)), ?_⟩
            intro τ23 hn_τ23 hf_τ23 hq
            obtain ⟨hT, q21_1, q21_2⟩ := hq
            replace q21_1 : oc (τ23.2.1 7) ≤ oc (τ20.2.1 7) + 1 := q21_1
            replace q21_2 : ∃ e : Int, τ23.2.1 7 = st (τ20.2.1 7) e (τ20.1 22) := q21_2
            replace ag : m_ag σ τ23 := ag_r ag hf_τ23 rfl rfl
            have w0_τ23 : τ23.1 0 = τ20.1 0 := hf_τ23.1 0 (by decide)
            have w2_τ23 : τ23.1 2 = τ20.1 2 := hf_τ23.1 2 (by decide)
            have w3_τ23 : τ23.1 3 = τ20.1 3 := hf_τ23.1 3 (by decide)
            have w5_τ23 : τ23.1 5 = τ20.1 5 := hf_τ23.1 5 (by decide)
            have w6_τ23 : τ23.1 6 = τ20.1 6 := hf_τ23.1 6 (by decide)
            have w7_τ23 : τ23.1 7 = τ20.1 7 := hf_τ23.1 7 (by decide)
            have w8_τ23 : τ23.1 8 = τ20.1 8 := hf_τ23.1 8 (by decide)
            have w9_τ23 : τ23.1 9 = τ20.1 9 := hf_τ23.1 9 (by decide)
            have w17_τ23 : τ23.1 17 = τ20.1 17 := hf_τ23.1 17 (by decide)
            have w18_τ23 : τ23.1 18 = τ20.1 18 := hf_τ23.1 18 (by decide)
            have w20_τ23 : τ23.1 20 = τ20.1 20 := hf_τ23.1 20 (by decide)
            have w22_τ23 : τ23.1 22 = τ20.1 22 := hf_τ23.1 22 (by decide)
            have g6_τ23 : τ23.2.1 6 = τ20.2.1 6 := hf_τ23.2.1 6 (by decide)
            have g14_τ23 : τ23.2.1 14 = τ20.2.1 14 := hf_τ23.2.1 14 (by decide)
            have g15_τ23 : τ23.2.1 15 = τ20.2.1 15 := hf_τ23.2.1 15 (by decide)
            have g18_τ23 : τ23.2.1 18 = τ20.2.1 18 := hf_τ23.2.1 18 (by decide)
            have g19_τ23 : τ23.2.1 19 = τ20.2.1 19 := hf_τ23.2.1 19 (by decide)
            have g21_τ23 : τ23.2.1 21 = τ20.2.1 21 := hf_τ23.2.1 21 (by decide)
            have g22_τ23 : τ23.2.1 22 = τ20.2.1 22 := hf_τ23.2.1 22 (by decide)
            have g25_τ23 : τ23.2.1 25 = τ20.2.1 25 := hf_τ23.2.1 25 (by decide)
            have g26_τ23 : τ23.2.1 26 = τ20.2.1 26 := hf_τ23.2.1 26 (by decide)
            first | (have o6_τ23 := congrArg oc g6_τ23) | skip
            first | (have o7_τ23 := congrArg oc g7_τ23) | skip
            have W0 : τ23.1 0 = σ.1 0 := by omega
            have W3 : τ23.1 3 = σ.1 3 := by omega
            have W5 : τ23.1 5 = σ.1 5 := by omega
            have W6 : τ23.1 6 = σ.1 6 := by omega
            have W7 : τ23.1 7 = σ.1 7 := by omega
            have W8 : τ23.1 8 = σ.1 8 := by omega
            have W9 : τ23.1 9 = σ.1 9 := by omega
            have W17 : τ23.1 17 = σ.1 17 := by omega
            have W18 : τ23.1 18 = σ.1 18 := by omega
            have G6 : τ23.2.1 6 = σ.2.1 6 := (g6_τ23).trans G6
            have y14_22_τ23 : τ23.2.1 14 (τ23.1 22) = (τ20.2.1 14) (τ20.1 22) := by rw [g14_τ23, w22_τ23]
            have y15_22_τ23 : τ23.2.1 15 (τ23.1 22) = (τ20.2.1 15) (τ20.1 22) := by rw [g15_τ23, w22_τ23]
            have y18_22_τ23 : τ23.2.1 18 (τ23.1 22) = (τ20.2.1 18) (τ20.1 22) := by rw [g18_τ23, w22_τ23]
            have y19_22_τ23 : τ23.2.1 19 (τ23.1 22) = (τ20.2.1 19) (τ20.1 22) := by rw [g19_τ23, w22_τ23]
            have y21_22_τ23 : τ23.2.1 21 (τ23.1 22) = (τ20.2.1 21) (τ20.1 22) := by rw [g21_τ23, w22_τ23]
            have y22_22_τ23 : τ23.2.1 22 (τ23.1 22) = (τ20.2.1 22) (τ20.1 22) := by rw [g22_τ23, w22_τ23]
            have y25_22_τ23 : τ23.2.1 25 (τ23.1 22) = (τ20.2.1 25) (τ20.1 22) := by rw [g25_τ23, w22_τ23]
            have y26_22_τ23 : τ23.2.1 26 (τ23.1 22) = (τ20.2.1 26) (τ20.1 22) := by rw [g26_τ23, w22_τ23]
            have A6 : ∀ j, (-1) ≤ τ23.2.1 6 j ∧ τ23.2.1 6 j ≤ 999 := fun j => hT.2 6 j
            have A7 : ∀ j, (-1) ≤ τ23.2.1 7 j ∧ τ23.2.1 7 j ≤ 1499 := fun j => hT.2 7 j
            have A14 : ∀ j, 0 ≤ τ23.2.1 14 j ∧ τ23.2.1 14 j ≤ 30000 := fun j => hT.2 14 j
            have A15 : ∀ j, 0 ≤ τ23.2.1 15 j ∧ τ23.2.1 15 j ≤ 300 := fun j => hT.2 15 j
            have A18 : ∀ j, 0 ≤ τ23.2.1 18 j ∧ τ23.2.1 18 j ≤ 90000 := fun j => hT.2 18 j
            have A19 : ∀ j, 0 ≤ τ23.2.1 19 j ∧ τ23.2.1 19 j ≤ 60 := fun j => hT.2 19 j
            have A21 : ∀ j, 0 ≤ τ23.2.1 21 j ∧ τ23.2.1 21 j ≤ 20000 := fun j => hT.2 21 j
            have A22 : ∀ j, 0 ≤ τ23.2.1 22 j ∧ τ23.2.1 22 j ≤ 20000 := fun j => hT.2 22 j
            have A25 : ∀ j, 0 ≤ τ23.2.1 25 j ∧ τ23.2.1 25 j ≤ 20000 := fun j => hT.2 25 j
            have A26 : ∀ j, 0 ≤ τ23.2.1 26 j ∧ τ23.2.1 26 j ≤ 20000 := fun j => hT.2 26 j
            have v0 : 0 ≤ τ23.1 0 ∧ τ23.1 0 ≤ 60000 := hT.1 0
            have v2 : 0 ≤ τ23.1 2 ∧ τ23.1 2 ≤ 30000 := hT.1 2
            have v3 : 0 ≤ τ23.1 3 ∧ τ23.1 3 ≤ 1000 := hT.1 3
            have v5 : 0 ≤ τ23.1 5 ∧ τ23.1 5 ≤ 1500 := hT.1 5
            have v6 : 0 ≤ τ23.1 6 ∧ τ23.1 6 ≤ 30000 := hT.1 6
            have v7 : 0 ≤ τ23.1 7 ∧ τ23.1 7 ≤ 90000 := hT.1 7
            have v8 : 0 ≤ τ23.1 8 ∧ τ23.1 8 ≤ 20000 := hT.1 8
            have v9 : 0 ≤ τ23.1 9 ∧ τ23.1 9 ≤ 20000 := hT.1 9
            have v17 : 0 ≤ τ23.1 17 ∧ τ23.1 17 ≤ 60000 := hT.1 17
            have v18 : 0 ≤ τ23.1 18 ∧ τ23.1 18 ≤ 60000 := hT.1 18
            have v20 : 0 ≤ τ23.1 20 ∧ τ23.1 20 ≤ 19 := hT.1 20
            have v22 : 0 ≤ τ23.1 22 ∧ τ23.1 22 ≤ 1499 := hT.1 22
            refine ⟨(show 0 ≤ τ23.1 22 ∧ τ23.1 22 < 1501 from by (first | omega | (simp only [st_s] <;> omega) | assumption | omega)), ?_⟩
            replace ag := ag_w (k := 14) (x := (τ23.1 6)) 5 0 ag rfl (show σ.1 5 + 0 ≤ (τ23.1 22) from by (first | omega | (simp only [st_s] <;> omega) | assumption | omega))
            replace hT := mT_a (k := 14) (j := (τ23.1 22)) hT (show (0 : Int) ≤ (τ23.1 6) ∧ (τ23.1 6) ≤ 30000 from by (first | omega | (simp only [st_s] <;> omega) | assumption | omega))
            replace ag := ag_w (k := 15) (x := 0) 5 0 ag rfl (show σ.1 5 + 0 ≤ (τ23.1 22) from by (first | omega | (simp only [st_s] <;> omega) | assumption | omega))
            replace hT := mT_a (k := 15) (j := (τ23.1 22)) hT (show (0 : Int) ≤ 0 ∧ 0 ≤ 300 from by (first | omega | (simp only [st_s] <;> omega) | assumption | omega))
            replace ag := ag_w (k := 18) (x := (τ23.1 7)) 5 0 ag rfl (show σ.1 5 + 0 ≤ (τ23.1 22) from by (first | omega | (simp only [st_s] <;> omega) | assumption | omega))
            replace hT := mT_a (k := 18) (j := (τ23.1 22)) hT (show (0 : Int) ≤ (τ23.1 7) ∧ (τ23.1 7) ≤ 90000 from by (first | omega | (simp only [st_s] <;> omega) | assumption | omega))
            replace ag := ag_w (k := 19) (x := 0) 5 0 ag rfl (show σ.1 5 + 0 ≤ (τ23.1 22) from by (first | omega | (simp only [st_s] <;> omega) | assumption | omega))
            replace hT := mT_a (k := 19) (j := (τ23.1 22)) hT (show (0 : Int) ≤ 0 ∧ 0 ≤ 60 from by (first | omega | (simp only [st_s] <;> omega) | assumption | omega))
            replace ag := ag_w (k := 21) (x := (τ23.1 8)) 5 0 ag rfl (show σ.1 5 + 0 ≤ (τ23.1 22) from by (first | omega | (simp only [st_s] <;> omega) | assumption | omega))
            replace hT := mT_a (k := 21) (j := (τ23.1 22)) hT (show (0 : Int) ≤ (τ23.1 8) ∧ (τ23.1 8) ≤ 20000 from by (first | omega | (simp only [st_s] <;> omega) | assumption | omega))
            replace ag := ag_w (k := 22) (x := 0) 5 0 ag rfl (show σ.1 5 + 0 ≤ (τ23.1 22) from by (first | omega | (simp only [st_s] <;> omega) | assumption | omega))
            replace hT := mT_a (k := 22) (j := (τ23.1 22)) hT (show (0 : Int) ≤ 0 ∧ 0 ≤ 20000 from by (first | omega | (simp only [st_s] <;> omega) | assumption | omega))
            replace ag := ag_w (k := 25) (x := (τ23.1 9)) 5 0 ag rfl (show σ.1 5 + 0 ≤ (τ23.1 22) from by (first | omega | (simp only [st_s] <;> omega) | assumption | omega))
            replace hT := mT_a (k := 25) (j := (τ23.1 22)) hT (show (0 : Int) ≤ (τ23.1 9) ∧ (τ23.1 9) ≤ 20000 from by (first | omega | (simp only [st_s] <;> omega) | assumption | omega))
            replace ag := ag_w (k := 26) (x := 0) 5 0 ag rfl (show σ.1 5 + 0 ≤ (τ23.1 22) from by (first | omega | (simp only [st_s] <;> omega) | assumption | omega))
            replace hT := mT_a (k := 26) (j := (τ23.1 22)) hT (show (0 : Int) ≤ 0 ∧ 0 ≤ 20000 from by (first | omega | (simp only [st_s] <;> omega) | assumption | omega))
            exact l_263 ((25 - 0 : Int).toNat + 1) _ _ (show (25 - 0 : Int) < (((25 - 0 : Int).toNat + 1 : Nat) : Int) from by ((first | omega | (simp only [st_s] <;> omega) | assumption | omega))) hT ag (show τ23.1 0 = σ.1 0 from by omega) (show τ23.1 3 = σ.1 3 from by omega) (show τ23.1 5 = σ.1 5 from by omega) (show τ23.1 6 = σ.1 6 from by omega) (show τ23.1 7 = σ.1 7 from by omega) (show τ23.1 8 = σ.1 8 from by omega) (show τ23.1 9 = σ.1 9 from by omega) (show τ23.1 17 = σ.1 17 from by omega) (show τ23.1 18 = σ.1 18 from by omega) G6 (show 0 ≤ 0 from by (first | omega | (simp only [st_s] <;> omega) | assumption | omega)) (show (τ23.1 20) = (σ.1 20) from by (first | omega | (simp only [st_s] <;> omega) | assumption | omega)) (show (τ23.1 22) = (σ.1 5) from by (first | omega | (simp only [st_s] <;> omega) | assumption | omega)) (show (σ.1 5) < 1500 from by (first | omega | (simp only [st_s] <;> omega) | assumption | omega)) (show oc (τ23.2.1 7) ≤ (σ.1 5) + 1 from by (first | omega | (simp only [st_s] <;> omega) | assumption | omega)) (show 0 ≤ 24 from by (first | omega | (simp only [st_s] <;> omega) | assumption | omega)) (show (st (τ23.2.1 14) (τ23.1 22) (τ23.1 6)) (τ23.1 22) = (σ.1 6) from by (first | omega | (rw [st_s]; omega) | (exact st_s _ _ _))) (show (st (τ23.2.1 15) (τ23.1 22) 0) (τ23.1 22) = 0 from by (first | omega | (rw [st_s]; omega) | (exact st_s _ _ _))) (show (st (τ23.2.1 18) (τ23.1 22) (τ23.1 7)) (τ23.1 22) = (σ.1 7) from by (first | omega | (rw [st_s]; omega) | (exact st_s _ _ _))) (show (st (τ23.2.1 19) (τ23.1 22) 0) (τ23.1 22) = 0 from by (first | omega | (rw [st_s]; omega) | (exact st_s _ _ _))) (show (st (τ23.2.1 21) (τ23.1 22) (τ23.1 8)) (τ23.1 22) = (σ.1 8) from by (first | omega | (rw [st_s]; omega) | (exact st_s _ _ _))) (show (st (τ23.2.1 22) (τ23.1 22) 0) (τ23.1 22) = 0 from by (first | omega | (rw [st_s]; omega) | (exact st_s _ _ _))) (show (st (τ23.2.1 25) (τ23.1 22) (τ23.1 9)) (τ23.1 22) = (σ.1 9) from by (first | omega | (rw [st_s]; omega) | (exact st_s _ _ _))) (show (st (τ23.2.1 26) (τ23.1 22) 0) (τ23.1 22) = 0 from by (first | omega | (rw [st_s]; omega) | (exact st_s _ _ _)))
          ·
            refine h108 _ ?_
            refine ⟨_, K_X13_failHere hT (show 0 ≤ 7 from by (first | omega | (simp only [st_s] <;> omega) | assumption | omega)) (show 7 ≤ 19 from by (first | omega | (simp only [st_s] <;> omega) | assumption | omega)), ?_⟩
            intro τ37 hn_τ37 hf_τ37 hq
            obtain ⟨hT, q35_1, q35_2⟩ := hq
            replace q35_1 : ¬ (τ_42.1 20) = 0 → (τ37.1 20) = (τ_42.1 20) := q35_1
            replace q35_2 : (τ_42.1 20) = 0 → (τ37.1 20) = 7 := q35_2
            replace ag : m_ag σ τ37 := ag_r ag hf_τ37 rfl rfl
            have w0_τ37 : τ37.1 0 = τ_42.1 0 := hf_τ37.1 0 (by decide)
            have w2_τ37 : τ37.1 2 = τ_42.1 2 := hf_τ37.1 2 (by decide)
            have w3_τ37 : τ37.1 3 = τ_42.1 3 := hf_τ37.1 3 (by decide)
            have w5_τ37 : τ37.1 5 = τ_42.1 5 := hf_τ37.1 5 (by decide)
            have w6_τ37 : τ37.1 6 = τ_42.1 6 := hf_τ37.1 6 (by decide)
            have w7_τ37 : τ37.1 7 = τ_42.1 7 := hf_τ37.1 7 (by decide)
            have w8_τ37 : τ37.1 8 = τ_42.1 8 := hf_τ37.1 8 (by decide)
            have w9_τ37 : τ37.1 9 = τ_42.1 9 := hf_τ37.1 9 (by decide)
            have w17_τ37 : τ37.1 17 = τ_42.1 17 := hf_τ37.1 17 (by decide)
            have w18_τ37 : τ37.1 18 = τ_42.1 18 := hf_τ37.1 18 (by decide)
            have w22_τ37 : τ37.1 22 = τ_42.1 22 := hf_τ37.1 22 (by decide)
            have g6_τ37 : τ37.2.1 6 = τ_42.2.1 6 := hf_τ37.2.1 6 (by decide)
            have g7_τ37 : τ37.2.1 7 = τ_42.2.1 7 := hf_τ37.2.1 7 (by decide)
            have g14_τ37 : τ37.2.1 14 = τ_42.2.1 14 := hf_τ37.2.1 14 (by decide)
            have g15_τ37 : τ37.2.1 15 = τ_42.2.1 15 := hf_τ37.2.1 15 (by decide)
            have g18_τ37 : τ37.2.1 18 = τ_42.2.1 18 := hf_τ37.2.1 18 (by decide)
            have g19_τ37 : τ37.2.1 19 = τ_42.2.1 19 := hf_τ37.2.1 19 (by decide)
            have g21_τ37 : τ37.2.1 21 = τ_42.2.1 21 := hf_τ37.2.1 21 (by decide)
            have g22_τ37 : τ37.2.1 22 = τ_42.2.1 22 := hf_τ37.2.1 22 (by decide)
            have g25_τ37 : τ37.2.1 25 = τ_42.2.1 25 := hf_τ37.2.1 25 (by decide)
            have g26_τ37 : τ37.2.1 26 = τ_42.2.1 26 := hf_τ37.2.1 26 (by decide)
            first | (have o6_τ37 := congrArg oc g6_τ37) | skip
            first | (have o7_τ37 := congrArg oc g7_τ37) | skip
            have W0 : τ37.1 0 = σ.1 0 := by omega
            have W3 : τ37.1 3 = σ.1 3 := by omega
            have W5 : τ37.1 5 = σ.1 5 := by omega
            have W6 : τ37.1 6 = σ.1 6 := by omega
            have W7 : τ37.1 7 = σ.1 7 := by omega
            have W8 : τ37.1 8 = σ.1 8 := by omega
            have W9 : τ37.1 9 = σ.1 9 := by omega
            have W17 : τ37.1 17 = σ.1 17 := by omega
            have W18 : τ37.1 18 = σ.1 18 := by omega
            have G6 : τ37.2.1 6 = σ.2.1 6 := (g6_τ37).trans G6
            have y14_22_τ37 : τ37.2.1 14 (τ37.1 22) = (τ_42.2.1 14) (τ_42.1 22) := by rw [g14_τ37, w22_τ37]
            have y15_22_τ37 : τ37.2.1 15 (τ37.1 22) = (τ_42.2.1 15) (τ_42.1 22) := by rw [g15_τ37, w22_τ37]
            have y18_22_τ37 : τ37.2.1 18 (τ37.1 22) = (τ_42.2.1 18) (τ_42.1 22) := by rw [g18_τ37, w22_τ37]
            have y19_22_τ37 : τ37.2.1 19 (τ37.1 22) = (τ_42.2.1 19) (τ_42.1 22) := by rw [g19_τ37, w22_τ37]
            have y21_22_τ37 : τ37.2.1 21 (τ37.1 22) = (τ_42.2.1 21) (τ_42.1 22) := by rw [g21_τ37, w22_τ37]
            have y22_22_τ37 : τ37.2.1 22 (τ37.1 22) = (τ_42.2.1 22) (τ_42.1 22) := by rw [g22_τ37, w22_τ37]
            have y25_22_τ37 : τ37.2.1 25 (τ37.1 22) = (τ_42.2.1 25) (τ_42.1 22) := by rw [g25_τ37, w22_τ37]
            have y26_22_τ37 : τ37.2.1 26 (τ37.1 22) = (τ_42.2.1 26) (τ_42.1 22) := by rw [g26_τ37, w22_τ37]
            have A6 : ∀ j, (-1) ≤ τ37.2.1 6 j ∧ τ37.2.1 6 j ≤ 999 := fun j => hT.2 6 j
            have A7 : ∀ j, (-1) ≤ τ37.2.1 7 j ∧ τ37.2.1 7 j ≤ 1499 := fun j => hT.2 7 j
            have A14 : ∀ j, 0 ≤ τ37.2.1 14 j ∧ τ37.2.1 14 j ≤ 30000 := fun j => hT.2 14 j
            have A15 : ∀ j, 0 ≤ τ37.2.1 15 j ∧ τ37.2.1 15 j ≤ 300 := fun j => hT.2 15 j
            have A18 : ∀ j, 0 ≤ τ37.2.1 18 j ∧ τ37.2.1 18 j ≤ 90000 := fun j => hT.2 18 j
            have A19 : ∀ j, 0 ≤ τ37.2.1 19 j ∧ τ37.2.1 19 j ≤ 60 := fun j => hT.2 19 j
            have A21 : ∀ j, 0 ≤ τ37.2.1 21 j ∧ τ37.2.1 21 j ≤ 20000 := fun j => hT.2 21 j
            have A22 : ∀ j, 0 ≤ τ37.2.1 22 j ∧ τ37.2.1 22 j ≤ 20000 := fun j => hT.2 22 j
            have A25 : ∀ j, 0 ≤ τ37.2.1 25 j ∧ τ37.2.1 25 j ≤ 20000 := fun j => hT.2 25 j
            have A26 : ∀ j, 0 ≤ τ37.2.1 26 j ∧ τ37.2.1 26 j ≤ 20000 := fun j => hT.2 26 j
            have v0 : 0 ≤ τ37.1 0 ∧ τ37.1 0 ≤ 60000 := hT.1 0
            have v2 : 0 ≤ τ37.1 2 ∧ τ37.1 2 ≤ 30000 := hT.1 2
            have v3 : 0 ≤ τ37.1 3 ∧ τ37.1 3 ≤ 1000 := hT.1 3
            have v5 : 0 ≤ τ37.1 5 ∧ τ37.1 5 ≤ 1500 := hT.1 5
            have v6 : 0 ≤ τ37.1 6 ∧ τ37.1 6 ≤ 30000 := hT.1 6
            have v7 : 0 ≤ τ37.1 7 ∧ τ37.1 7 ≤ 90000 := hT.1 7
            have v8 : 0 ≤ τ37.1 8 ∧ τ37.1 8 ≤ 20000 := hT.1 8
            have v9 : 0 ≤ τ37.1 9 ∧ τ37.1 9 ≤ 20000 := hT.1 9
            have v17 : 0 ≤ τ37.1 17 ∧ τ37.1 17 ≤ 60000 := hT.1 17
            have v18 : 0 ≤ τ37.1 18 ∧ τ37.1 18 ≤ 60000 := hT.1 18
            have v20 : 0 ≤ τ37.1 20 ∧ τ37.1 20 ≤ 19 := hT.1 20
            have v22 : 0 ≤ τ37.1 22 ∧ τ37.1 22 ≤ 1499 := hT.1 22
            exact ⟨hT, (show (τ37.1 20) = 0 → (τ37.1 22) = (σ.1 5) ∧ τ37.2.1 15 (τ37.1 22) = 0 ∧ τ37.2.1 19 (τ37.1 22) = 0 ∧ τ37.2.1 22 (τ37.1 22) = 0 ∧ τ37.2.1 26 (τ37.1 22) = 0 ∧ (σ.1 5) < 1500 from by (first | omega | (simp only [st_s] <;> omega) | assumption | omega)), (show (τ37.1 20) = 0 → τ37.2.1 14 (τ37.1 22) = (σ.1 6) ∧ τ37.2.1 18 (τ37.1 22) = (σ.1 7) ∧ τ37.2.1 21 (τ37.1 22) = (σ.1 8) ∧ τ37.2.1 25 (τ37.1 22) = (σ.1 9) from by (first | omega | (simp only [st_s] <;> omega) | assumption | omega)), (show oc (τ37.2.1 7) ≤ (σ.1 5) + 1 from by (first | omega | (simp only [st_s] <;> omega) | assumption | omega)), (show ¬ (σ.1 20) = 0 → (τ37.1 20) = (σ.1 20) from by (first | omega | (simp only [st_s] <;> omega) | assumption | omega)), ag⟩
      ·
        refine ⟨(show 0 ≤ (τ_42.1 17 + u1_42) ∧ (τ_42.1 17 + u1_42) < 60000 from by (first | omega | (simp only [st_s] <;> omega) | assumption | omega)), ?_⟩
        intro x26 r_x26 e_x26
        have b_x26 : 0 ≤ x26 ∧ x26 ≤ 255 := by rw [e_x26]; exact hT.2 0 _
        refine ⟨_, K_X13_isLabelSign hT, ?_⟩
        intro x28 r_x28 hq
        have q27_1 := hq
        replace q27_1 : 0 ≤ x28 ∧ x28 ≤ 1 := q27_1
        refine ⟨fun c30 => ?_, fun c30 => ?_⟩
        ·
          refine ⟨(⟨by (first | omega | (simp only [st_s] <;> omega) | assumption | omega), by (first | omega | (simp only [st_s] <;> omega) | assumption | omega)⟩ : rg (u1_42 + 1)), ?_⟩
          exact ih_42 _ _ (show (61 - (u1_42 + 1) : Int) < ((m_42 : Nat) : Int) from by ((first | omega | (simp only [st_s] <;> omega) | assumption | omega))) hT ag (show τ_42.1 0 = σ.1 0 from by omega) (show τ_42.1 3 = σ.1 3 from by omega) (show τ_42.1 5 = σ.1 5 from by omega) (show τ_42.1 6 = σ.1 6 from by omega) (show τ_42.1 7 = σ.1 7 from by omega) (show τ_42.1 8 = σ.1 8 from by omega) (show τ_42.1 9 = σ.1 9 from by omega) (show τ_42.1 17 = σ.1 17 from by omega) (show τ_42.1 18 = σ.1 18 from by omega) G6 (show 0 ≤ (u1_42 + 1) from by (first | omega | (simp only [st_s] <;> omega) | assumption | omega)) (show (u1_42 + 1) ≤ 60 from by (first | omega | (simp only [st_s] <;> omega) | assumption | omega)) (show (τ_42.1 20) = (σ.1 20) from by (first | omega | (simp only [st_s] <;> omega) | assumption | omega)) (show oc (τ_42.2.1 7) ≤ (σ.1 5) from by (first | omega | (simp only [st_s] <;> omega) | assumption | omega)) (show (σ.1 5) < 1500 from by (first | omega | (simp only [st_s] <;> omega) | assumption | omega)) (show (σ.1 2) + (σ.1 18) ≤ 30000 from by (first | omega | (simp only [st_s] <;> omega) | assumption | omega)) (show (σ.1 18) ≤ 60 from by (first | omega | (simp only [st_s] <;> omega) | assumption | omega)) (show (τ_42.1 2) = (σ.1 2) from by (first | omega | (simp only [st_s] <;> omega) | assumption | omega))
        ·
          refine ⟨_, K_X13_failHere hT (show 0 ≤ 6 from by (first | omega | (simp only [st_s] <;> omega) | assumption | omega)) (show 6 ≤ 19 from by (first | omega | (simp only [st_s] <;> omega) | assumption | omega)), ?_⟩
          intro τ34 hn_τ34 hf_τ34 hq
          obtain ⟨hT, q32_1, q32_2⟩ := hq
          replace q32_1 : ¬ (τ_42.1 20) = 0 → (τ34.1 20) = (τ_42.1 20) := q32_1
          replace q32_2 : (τ_42.1 20) = 0 → (τ34.1 20) = 6 := q32_2
          replace ag : m_ag σ τ34 := ag_r ag hf_τ34 rfl rfl
          have w0_τ34 : τ34.1 0 = τ_42.1 0 := hf_τ34.1 0 (by decide)
          have w2_τ34 : τ34.1 2 = τ_42.1 2 := hf_τ34.1 2 (by decide)
          have w3_τ34 : τ34.1 3 = τ_42.1 3 := hf_τ34.1 3 (by decide)
          have w5_τ34 : τ34.1 5 = τ_42.1 5 := hf_τ34.1 5 (by decide)
          have w6_τ34 : τ34.1 6 = τ_42.1 6 := hf_τ34.1 6 (by decide)
          have w7_τ34 : τ34.1 7 = τ_42.1 7 := hf_τ34.1 7 (by decide)
          have w8_τ34 : τ34.1 8 = τ_42.1 8 := hf_τ34.1 8 (by decide)
          have w9_τ34 : τ34.1 9 = τ_42.1 9 := hf_τ34.1 9 (by decide)
          have w17_τ34 : τ34.1 17 = τ_42.1 17 := hf_τ34.1 17 (by decide)
          have w18_τ34 : τ34.1 18 = τ_42.1 18 := hf_τ34.1 18 (by decide)
          have w22_τ34 : τ34.1 22 = τ_42.1 22 := hf_τ34.1 22 (by decide)
          have g6_τ34 : τ34.2.1 6 = τ_42.2.1 6 := hf_τ34.2.1 6 (by decide)
          have g7_τ34 : τ34.2.1 7 = τ_42.2.1 7 := hf_τ34.2.1 7 (by decide)
          have g14_τ34 : τ34.2.1 14 = τ_42.2.1 14 := hf_τ34.2.1 14 (by decide)
          have g15_τ34 : τ34.2.1 15 = τ_42.2.1 15 := hf_τ34.2.1 15 (by decide)
          have g18_τ34 : τ34.2.1 18 = τ_42.2.1 18 := hf_τ34.2.1 18 (by decide)
          have g19_τ34 : τ34.2.1 19 = τ_42.2.1 19 := hf_τ34.2.1 19 (by decide)
          have g21_τ34 : τ34.2.1 21 = τ_42.2.1 21 := hf_τ34.2.1 21 (by decide)
          have g22_τ34 : τ34.2.1 22 = τ_42.2.1 22 := hf_τ34.2.1 22 (by decide)
          have g25_τ34 : τ34.2.1 25 = τ_42.2.1 25 := hf_τ34.2.1 25 (by decide)
          have g26_τ34 : τ34.2.1 26 = τ_42.2.1 26 := hf_τ34.2.1 26 (by decide)
          first | (have o6_τ34 := congrArg oc g6_τ34) | skip
          first | (have o7_τ34 := congrArg oc g7_τ34) | skip
          have W0 : τ34.1 0 = σ.1 0 := by omega
          have W3 : τ34.1 3 = σ.1 3 := by omega
          have W5 : τ34.1 5 = σ.1 5 := by omega
          have W6 : τ34.1 6 = σ.1 6 := by omega
          have W7 : τ34.1 7 = σ.1 7 := by omega
          have W8 : τ34.1 8 = σ.1 8 := by omega
          have W9 : τ34.1 9 = σ.1 9 := by omega
          have W17 : τ34.1 17 = σ.1 17 := by omega
          have W18 : τ34.1 18 = σ.1 18 := by omega
          have G6 : τ34.2.1 6 = σ.2.1 6 := (g6_τ34).trans G6
          have y14_22_τ34 : τ34.2.1 14 (τ34.1 22) = (τ_42.2.1 14) (τ_42.1 22) := by rw [g14_τ34, w22_τ34]
          have y15_22_τ34 : τ34.2.1 15 (τ34.1 22) = (τ_42.2.1 15) (τ_42.1 22) := by rw [g15_τ34, w22_τ34]
          have y18_22_τ34 : τ34.2.1 18 (τ34.1 22) = (τ_42.2.1 18) (τ_42.1 22) := by rw [g18_τ34, w22_τ34]
          have y19_22_τ34 : τ34.2.1 19 (τ34.1 22) = (τ_42.2.1 19) (τ_42.1 22) := by rw [g19_τ34, w22_τ34]
          have y21_22_τ34 : τ34.2.1 21 (τ34.1 22) = (τ_42.2.1 21) (τ_42.1 22) := by rw [g21_τ34, w22_τ34]
          have y22_22_τ34 : τ34.2.1 22 (τ34.1 22) = (τ_42.2.1 22) (τ_42.1 22) := by rw [g22_τ34, w22_τ34]
          have y25_22_τ34 : τ34.2.1 25 (τ34.1 22) = (τ_42.2.1 25) (τ_42.1 22) := by rw [g25_τ34, w22_τ34]
          have y26_22_τ34 : τ34.2.1 26 (τ34.1 22) = (τ_42.2.1 26) (τ_42.1 22) := by rw [g26_τ34, w22_τ34]
          have A6 : ∀ j, (-1) ≤ τ34.2.1 6 j ∧ τ34.2.1 6 j ≤ 999 := fun j => hT.2 6 j
          have A7 : ∀ j, (-1) ≤ τ34.2.1 7 j ∧ τ34.2.1 7 j ≤ 1499 := fun j => hT.2 7 j
          have A14 : ∀ j, 0 ≤ τ34.2.1 14 j ∧ τ34.2.1 14 j ≤ 30000 := fun j => hT.2 14 j
          have A15 : ∀ j, 0 ≤ τ34.2.1 15 j ∧ τ34.2.1 15 j ≤ 300 := fun j => hT.2 15 j
          have A18 : ∀ j, 0 ≤ τ34.2.1 18 j ∧ τ34.2.1 18 j ≤ 90000 := fun j => hT.2 18 j
          have A19 : ∀ j, 0 ≤ τ34.2.1 19 j ∧ τ34.2.1 19 j ≤ 60 := fun j => hT.2 19 j
          have A21 : ∀ j, 0 ≤ τ34.2.1 21 j ∧ τ34.2.1 21 j ≤ 20000 := fun j => hT.2 21 j
          have A22 : ∀ j, 0 ≤ τ34.2.1 22 j ∧ τ34.2.1 22 j ≤ 20000 := fun j => hT.2 22 j
          have A25 : ∀ j, 0 ≤ τ34.2.1 25 j ∧ τ34.2.1 25 j ≤ 20000 := fun j => hT.2 25 j
          have A26 : ∀ j, 0 ≤ τ34.2.1 26 j ∧ τ34.2.1 26 j ≤ 20000 := fun j => hT.2 26 j
          have v0 : 0 ≤ τ34.1 0 ∧ τ34.1 0 ≤ 60000 := hT.1 0
          have v2 : 0 ≤ τ34.1 2 ∧ τ34.1 2 ≤ 30000 := hT.1 2
          have v3 : 0 ≤ τ34.1 3 ∧ τ34.1 3 ≤ 1000 := hT.1 3
          have v5 : 0 ≤ τ34.1 5 ∧ τ34.1 5 ≤ 1500 := hT.1 5
          have v6 : 0 ≤ τ34.1 6 ∧ τ34.1 6 ≤ 30000 := hT.1 6
          have v7 : 0 ≤ τ34.1 7 ∧ τ34.1 7 ≤ 90000 := hT.1 7
          have v8 : 0 ≤ τ34.1 8 ∧ τ34.1 8 ≤ 20000 := hT.1 8
          have v9 : 0 ≤ τ34.1 9 ∧ τ34.1 9 ≤ 20000 := hT.1 9
          have v17 : 0 ≤ τ34.1 17 ∧ τ34.1 17 ≤ 60000 := hT.1 17
          have v18 : 0 ≤ τ34.1 18 ∧ τ34.1 18 ≤ 60000 := hT.1 18
          have v20 : 0 ≤ τ34.1 20 ∧ τ34.1 20 ≤ 19 := hT.1 20
          have v22 : 0 ≤ τ34.1 22 ∧ τ34.1 22 ≤ 1499 := hT.1 22
          exact ⟨hT, (show (τ34.1 20) = 0 → (τ34.1 22) = (σ.1 5) ∧ τ34.2.1 15 (τ34.1 22) = 0 ∧ τ34.2.1 19 (τ34.1 22) = 0 ∧ τ34.2.1 22 (τ34.1 22) = 0 ∧ τ34.2.1 26 (τ34.1 22) = 0 ∧ (σ.1 5) < 1500 from by (first | omega | (simp only [st_s] <;> omega) | assumption | omega)), (show (τ34.1 20) = 0 → τ34.2.1 14 (τ34.1 22) = (σ.1 6) ∧ τ34.2.1 18 (τ34.1 22) = (σ.1 7) ∧ τ34.2.1 21 (τ34.1 22) = (σ.1 8) ∧ τ34.2.1 25 (τ34.1 22) = (σ.1 9) from by (first | omega | (simp only [st_s] <;> omega) | assumption | omega)), (show oc (τ34.2.1 7) ≤ (σ.1 5) + 1 from by (first | omega | (simp only [st_s] <;> omega) | assumption | omega)), (show ¬ (σ.1 20) = 0 → (τ34.1 20) = (σ.1 20) from by (first | omega | (simp only [st_s] <;> omega) | assumption | omega)), ag⟩
  refine ⟨fun c1 => ?_, fun c1 => ?_⟩
  ·
    refine h34 _ ?_
    refine ⟨_, K_X13_failHere hT (show 0 ≤ 5 from by (first | omega | (simp only [st_s] <;> omega) | assumption | omega)) (show 5 ≤ 19 from by (first | omega | (simp only [st_s] <;> omega) | assumption | omega)), ?_⟩
    intro τ7 hn_τ7 hf_τ7 hq
    obtain ⟨hT, q5_1, q5_2⟩ := hq
    replace q5_1 : ¬ (σ.1 20) = 0 → (τ7.1 20) = (σ.1 20) := q5_1
    replace q5_2 : (σ.1 20) = 0 → (τ7.1 20) = 5 := q5_2
    replace ag : m_ag σ τ7 := ag_r ag hf_τ7 rfl rfl
    have w0_τ7 : τ7.1 0 = σ.1 0 := hf_τ7.1 0 (by decide)
    have w2_τ7 : τ7.1 2 = σ.1 2 := hf_τ7.1 2 (by decide)
    have w3_τ7 : τ7.1 3 = σ.1 3 := hf_τ7.1 3 (by decide)
    have w5_τ7 : τ7.1 5 = σ.1 5 := hf_τ7.1 5 (by decide)
    have w6_τ7 : τ7.1 6 = σ.1 6 := hf_τ7.1 6 (by decide)
    have w7_τ7 : τ7.1 7 = σ.1 7 := hf_τ7.1 7 (by decide)
    have w8_τ7 : τ7.1 8 = σ.1 8 := hf_τ7.1 8 (by decide)
    have w9_τ7 : τ7.1 9 = σ.1 9 := hf_τ7.1 9 (by decide)
    have w17_τ7 : τ7.1 17 = σ.1 17 := hf_τ7.1 17 (by decide)
    have w18_τ7 : τ7.1 18 = σ.1 18 := hf_τ7.1 18 (by decide)
    have w22_τ7 : τ7.1 22 = σ.1 22 := hf_τ7.1 22 (by decide)
    have g6_τ7 : τ7.2.1 6 = σ.2.1 6 := hf_τ7.2.1 6 (by decide)
    have g7_τ7 : τ7.2.1 7 = σ.2.1 7 := hf_τ7.2.1 7 (by decide)
    have g14_τ7 : τ7.2.1 14 = σ.2.1 14 := hf_τ7.2.1 14 (by decide)
    have g15_τ7 : τ7.2.1 15 = σ.2.1 15 := hf_τ7.2.1 15 (by decide)
    have g18_τ7 : τ7.2.1 18 = σ.2.1 18 := hf_τ7.2.1 18 (by decide)
    have g19_τ7 : τ7.2.1 19 = σ.2.1 19 := hf_τ7.2.1 19 (by decide)
    have g21_τ7 : τ7.2.1 21 = σ.2.1 21 := hf_τ7.2.1 21 (by decide)
    have g22_τ7 : τ7.2.1 22 = σ.2.1 22 := hf_τ7.2.1 22 (by decide)
    have g25_τ7 : τ7.2.1 25 = σ.2.1 25 := hf_τ7.2.1 25 (by decide)
    have g26_τ7 : τ7.2.1 26 = σ.2.1 26 := hf_τ7.2.1 26 (by decide)
    first | (have o6_τ7 := congrArg oc g6_τ7) | skip
    first | (have o7_τ7 := congrArg oc g7_τ7) | skip
    have W0 : τ7.1 0 = σ.1 0 := by omega
    have W3 : τ7.1 3 = σ.1 3 := by omega
    have W5 : τ7.1 5 = σ.1 5 := by omega
    have W6 : τ7.1 6 = σ.1 6 := by omega
    have W7 : τ7.1 7 = σ.1 7 := by omega
    have W8 : τ7.1 8 = σ.1 8 := by omega
    have W9 : τ7.1 9 = σ.1 9 := by omega
    have W17 : τ7.1 17 = σ.1 17 := by omega
    have W18 : τ7.1 18 = σ.1 18 := by omega
    have G6 : τ7.2.1 6 = σ.2.1 6 := (g6_τ7).trans G6
    have y14_22_τ7 : τ7.2.1 14 (τ7.1 22) = (σ.2.1 14) (σ.1 22) := by rw [g14_τ7, w22_τ7]
    have y15_22_τ7 : τ7.2.1 15 (τ7.1 22) = (σ.2.1 15) (σ.1 22) := by rw [g15_τ7, w22_τ7]
    have y18_22_τ7 : τ7.2.1 18 (τ7.1 22) = (σ.2.1 18) (σ.1 22) := by rw [g18_τ7, w22_τ7]
    have y19_22_τ7 : τ7.2.1 19 (τ7.1 22) = (σ.2.1 19) (σ.1 22) := by rw [g19_τ7, w22_τ7]
    have y21_22_τ7 : τ7.2.1 21 (τ7.1 22) = (σ.2.1 21) (σ.1 22) := by rw [g21_τ7, w22_τ7]
    have y22_22_τ7 : τ7.2.1 22 (τ7.1 22) = (σ.2.1 22) (σ.1 22) := by rw [g22_τ7, w22_τ7]
    have y25_22_τ7 : τ7.2.1 25 (τ7.1 22) = (σ.2.1 25) (σ.1 22) := by rw [g25_τ7, w22_τ7]
    have y26_22_τ7 : τ7.2.1 26 (τ7.1 22) = (σ.2.1 26) (σ.1 22) := by rw [g26_τ7, w22_τ7]
    have A6 : ∀ j, (-1) ≤ τ7.2.1 6 j ∧ τ7.2.1 6 j ≤ 999 := fun j => hT.2 6 j
    have A7 : ∀ j, (-1) ≤ τ7.2.1 7 j ∧ τ7.2.1 7 j ≤ 1499 := fun j => hT.2 7 j
    have A14 : ∀ j, 0 ≤ τ7.2.1 14 j ∧ τ7.2.1 14 j ≤ 30000 := fun j => hT.2 14 j
    have A15 : ∀ j, 0 ≤ τ7.2.1 15 j ∧ τ7.2.1 15 j ≤ 300 := fun j => hT.2 15 j
    have A18 : ∀ j, 0 ≤ τ7.2.1 18 j ∧ τ7.2.1 18 j ≤ 90000 := fun j => hT.2 18 j
    have A19 : ∀ j, 0 ≤ τ7.2.1 19 j ∧ τ7.2.1 19 j ≤ 60 := fun j => hT.2 19 j
    have A21 : ∀ j, 0 ≤ τ7.2.1 21 j ∧ τ7.2.1 21 j ≤ 20000 := fun j => hT.2 21 j
    have A22 : ∀ j, 0 ≤ τ7.2.1 22 j ∧ τ7.2.1 22 j ≤ 20000 := fun j => hT.2 22 j
    have A25 : ∀ j, 0 ≤ τ7.2.1 25 j ∧ τ7.2.1 25 j ≤ 20000 := fun j => hT.2 25 j
    have A26 : ∀ j, 0 ≤ τ7.2.1 26 j ∧ τ7.2.1 26 j ≤ 20000 := fun j => hT.2 26 j
    have v0 : 0 ≤ τ7.1 0 ∧ τ7.1 0 ≤ 60000 := hT.1 0
    have v2 : 0 ≤ τ7.1 2 ∧ τ7.1 2 ≤ 30000 := hT.1 2
    have v3 : 0 ≤ τ7.1 3 ∧ τ7.1 3 ≤ 1000 := hT.1 3
    have v5 : 0 ≤ τ7.1 5 ∧ τ7.1 5 ≤ 1500 := hT.1 5
    have v6 : 0 ≤ τ7.1 6 ∧ τ7.1 6 ≤ 30000 := hT.1 6
    have v7 : 0 ≤ τ7.1 7 ∧ τ7.1 7 ≤ 90000 := hT.1 7
    have v8 : 0 ≤ τ7.1 8 ∧ τ7.1 8 ≤ 20000 := hT.1 8
    have v9 : 0 ≤ τ7.1 9 ∧ τ7.1 9 ≤ 20000 := hT.1 9
    have v17 : 0 ≤ τ7.1 17 ∧ τ7.1 17 ≤ 60000 := hT.1 17
    have v18 : 0 ≤ τ7.1 18 ∧ τ7.1 18 ≤ 60000 := hT.1 18
    have v20 : 0 ≤ τ7.1 20 ∧ τ7.1 20 ≤ 19 := hT.1 20
    have v22 : 0 ≤ τ7.1 22 ∧ τ7.1 22 ≤ 1499 := hT.1 22
    exact ⟨hT, (show (τ7.1 20) = 0 → (τ7.1 22) = (σ.1 5) ∧ τ7.2.1 15 (τ7.1 22) = 0 ∧ τ7.2.1 19 (τ7.1 22) = 0 ∧ τ7.2.1 22 (τ7.1 22) = 0 ∧ τ7.2.1 26 (τ7.1 22) = 0 ∧ (σ.1 5) < 1500 from by (first | omega | (simp only [st_s] <;> omega) | assumption | omega)), (show (τ7.1 20) = 0 → τ7.2.1 14 (τ7.1 22) = (σ.1 6) ∧ τ7.2.1 18 (τ7.1 22) = (σ.1 7) ∧ τ7.2.1 21 (τ7.1 22) = (σ.1 8) ∧ τ7.2.1 25 (τ7.1 22) = (σ.1 9) from by (first | omega | (simp only [st_s] <;> omega) | assumption | omega)), (show oc (τ7.2.1 7) ≤ (σ.1 5) + 1 from by (first | omega | (simp only [st_s] <;> omega) | assumption | omega)), (show ¬ (σ.1 20) = 0 → (τ7.1 20) = (σ.1 20) from by (first | omega | (simp only [st_s] <;> omega) | assumption | omega)), ag⟩
  ·
    refine ⟨(⟨by (first | omega | (simp only [st_s] <;> omega) | assumption | omega), by (first | omega | (simp only [st_s] <;> omega) | assumption | omega)⟩ : rg (σ.1 2 + σ.1 18)), ?_⟩
    refine ⟨fun c3 => ?_, fun c3 => ?_⟩
    ·
      refine h34 _ ?_
      refine ⟨_, K_X13_failHere hT (show 0 ≤ 5 from by (first | omega | (simp only [st_s] <;> omega) | assumption | omega)) (show 5 ≤ 19 from by (first | omega | (simp only [st_s] <;> omega) | assumption | omega)), ?_⟩
      intro τ7 hn_τ7 hf_τ7 hq
      obtain ⟨hT, q5_1, q5_2⟩ := hq
      replace q5_1 : ¬ (σ.1 20) = 0 → (τ7.1 20) = (σ.1 20) := q5_1
      replace q5_2 : (σ.1 20) = 0 → (τ7.1 20) = 5 := q5_2
      replace ag : m_ag σ τ7 := ag_r ag hf_τ7 rfl rfl
      have w0_τ7 : τ7.1 0 = σ.1 0 := hf_τ7.1 0 (by decide)
      have w2_τ7 : τ7.1 2 = σ.1 2 := hf_τ7.1 2 (by decide)
      have w3_τ7 : τ7.1 3 = σ.1 3 := hf_τ7.1 3 (by decide)
      have w5_τ7 : τ7.1 5 = σ.1 5 := hf_τ7.1 5 (by decide)
      have w6_τ7 : τ7.1 6 = σ.1 6 := hf_τ7.1 6 (by decide)
      have w7_τ7 : τ7.1 7 = σ.1 7 := hf_τ7.1 7 (by decide)
      have w8_τ7 : τ7.1 8 = σ.1 8 := hf_τ7.1 8 (by decide)
      have w9_τ7 : τ7.1 9 = σ.1 9 := hf_τ7.1 9 (by decide)
      have w17_τ7 : τ7.1 17 = σ.1 17 := hf_τ7.1 17 (by decide)
      have w18_τ7 : τ7.1 18 = σ.1 18 := hf_τ7.1 18 (by decide)
      have w22_τ7 : τ7.1 22 = σ.1 22 := hf_τ7.1 22 (by decide)
      have g6_τ7 : τ7.2.1 6 = σ.2.1 6 := hf_τ7.2.1 6 (by decide)
      have g7_τ7 : τ7.2.1 7 = σ.2.1 7 := hf_τ7.2.1 7 (by decide)
      have g14_τ7 : τ7.2.1 14 = σ.2.1 14 := hf_τ7.2.1 14 (by decide)
      have g15_τ7 : τ7.2.1 15 = σ.2.1 15 := hf_τ7.2.1 15 (by decide)
      have g18_τ7 : τ7.2.1 18 = σ.2.1 18 := hf_τ7.2.1 18 (by decide)
      have g19_τ7 : τ7.2.1 19 = σ.2.1 19 := hf_τ7.2.1 19 (by decide)
      have g21_τ7 : τ7.2.1 21 = σ.2.1 21 := hf_τ7.2.1 21 (by decide)
      have g22_τ7 : τ7.2.1 22 = σ.2.1 22 := hf_τ7.2.1 22 (by decide)
      have g25_τ7 : τ7.2.1 25 = σ.2.1 25 := hf_τ7.2.1 25 (by decide)
      have g26_τ7 : τ7.2.1 26 = σ.2.1 26 := hf_τ7.2.1 26 (by decide)
      first | (have o6_τ7 := congrArg oc g6_τ7) | skip
      first | (have o7_τ7 := congrArg oc g7_τ7) | skip
      have W0 : τ7.1 0 = σ.1 0 := by omega
      have W3 : τ7.1 3 = σ.1 3 := by omega
      have W5 : τ7.1 5 = σ.1 5 := by omega
      have W6 : τ7.1 6 = σ.1 6 := by omega
      have W7 : τ7.1 7 = σ.1 7 := by omega
      have W8 : τ7.1 8 = σ.1 8 := by omega
      have W9 : τ7.1 9 = σ.1 9 := by omega
      have W17 : τ7.1 17 = σ.1 17 := by omega
      have W18 : τ7.1 18 = σ.1 18 := by omega
      have G6 : τ7.2.1 6 = σ.2.1 6 := (g6_τ7).trans G6
      have y14_22_τ7 : τ7.2.1 14 (τ7.1 22) = (σ.2.1 14) (σ.1 22) := by rw [g14_τ7, w22_τ7]
      have y15_22_τ7 : τ7.2.1 15 (τ7.1 22) = (σ.2.1 15) (σ.1 22) := by rw [g15_τ7, w22_τ7]
      have y18_22_τ7 : τ7.2.1 18 (τ7.1 22) = (σ.2.1 18) (σ.1 22) := by rw [g18_τ7, w22_τ7]
      have y19_22_τ7 : τ7.2.1 19 (τ7.1 22) = (σ.2.1 19) (σ.1 22) := by rw [g19_τ7, w22_τ7]
      have y21_22_τ7 : τ7.2.1 21 (τ7.1 22) = (σ.2.1 21) (σ.1 22) := by rw [g21_τ7, w22_τ7]
      have y22_22_τ7 : τ7.2.1 22 (τ7.1 22) = (σ.2.1 22) (σ.1 22) := by rw [g22_τ7, w22_τ7]
      have y25_22_τ7 : τ7.2.1 25 (τ7.1 22) = (σ.2.1 25) (σ.1 22) := by rw [g25_τ7, w22_τ7]
      have y26_22_τ7 : τ7.2.1 26 (τ7.1 22) = (σ.2.1 26) (σ.1 22) := by rw [g26_τ7, w22_τ7]
      have A6 : ∀ j, (-1) ≤ τ7.2.1 6 j ∧ τ7.2.1 6 j ≤ 999 := fun j => hT.2 6 j
      have A7 : ∀ j, (-1) ≤ τ7.2.1 7 j ∧ τ7.2.1 7 j ≤ 1499 := fun j => hT.2 7 j
      have A14 : ∀ j, 0 ≤ τ7.2.1 14 j ∧ τ7.2.1 14 j ≤ 30000 := fun j => hT.2 14 j
      have A15 : ∀ j, 0 ≤ τ7.2.1 15 j ∧ τ7.2.1 15 j ≤ 300 := fun j => hT.2 15 j
      have A18 : ∀ j, 0 ≤ τ7.2.1 18 j ∧ τ7.2.1 18 j ≤ 90000 := fun j => hT.2 18 j
      have A19 : ∀ j, 0 ≤ τ7.2.1 19 j ∧ τ7.2.1 19 j ≤ 60 := fun j => hT.2 19 j
      have A21 : ∀ j, 0 ≤ τ7.2.1 21 j ∧ τ7.2.1 21 j ≤ 20000 := fun j => hT.2 21 j
      have A22 : ∀ j, 0 ≤ τ7.2.1 22 j ∧ τ7.2.1 22 j ≤ 20000 := fun j => hT.2 22 j
      have A25 : ∀ j, 0 ≤ τ7.2.1 25 j ∧ τ7.2.1 25 j ≤ 20000 := fun j => hT.2 25 j
      have A26 : ∀ j, 0 ≤ τ7.2.1 26 j ∧ τ7.2.1 26 j ≤ 20000 := fun j => hT.2 26 j
      have v0 : 0 ≤ τ7.1 0 ∧ τ7.1 0 ≤ 60000 := hT.1 0
      have v2 : 0 ≤ τ7.1 2 ∧ τ7.1 2 ≤ 30000 := hT.1 2
      have v3 : 0 ≤ τ7.1 3 ∧ τ7.1 3 ≤ 1000 := hT.1 3
      have v5 : 0 ≤ τ7.1 5 ∧ τ7.1 5 ≤ 1500 := hT.1 5
      have v6 : 0 ≤ τ7.1 6 ∧ τ7.1 6 ≤ 30000 := hT.1 6
      have v7 : 0 ≤ τ7.1 7 ∧ τ7.1 7 ≤ 90000 := hT.1 7
      have v8 : 0 ≤ τ7.1 8 ∧ τ7.1 8 ≤ 20000 := hT.1 8
      have v9 : 0 ≤ τ7.1 9 ∧ τ7.1 9 ≤ 20000 := hT.1 9
      have v17 : 0 ≤ τ7.1 17 ∧ τ7.1 17 ≤ 60000 := hT.1 17
      have v18 : 0 ≤ τ7.1 18 ∧ τ7.1 18 ≤ 60000 := hT.1 18
      have v20 : 0 ≤ τ7.1 20 ∧ τ7.1 20 ≤ 19 := hT.1 20
      have v22 : 0 ≤ τ7.1 22 ∧ τ7.1 22 ≤ 1499 := hT.1 22
      exact ⟨hT, (show (τ7.1 20) = 0 → (τ7.1 22) = (σ.1 5) ∧ τ7.2.1 15 (τ7.1 22) = 0 ∧ τ7.2.1 19 (τ7.1 22) = 0 ∧ τ7.2.1 22 (τ7.1 22) = 0 ∧ τ7.2.1 26 (τ7.1 22) = 0 ∧ (σ.1 5) < 1500 from by (first | omega | (simp only [st_s] <;> omega) | assumption | omega)), (show (τ7.1 20) = 0 → τ7.2.1 14 (τ7.1 22) = (σ.1 6) ∧ τ7.2.1 18 (τ7.1 22) = (σ.1 7) ∧ τ7.2.1 21 (τ7.1 22) = (σ.1 8) ∧ τ7.2.1 25 (τ7.1 22) = (σ.1 9) from by (first | omega | (simp only [st_s] <;> omega) | assumption | omega)), (show oc (τ7.2.1 7) ≤ (σ.1 5) + 1 from by (first | omega | (simp only [st_s] <;> omega) | assumption | omega)), (show ¬ (σ.1 20) = 0 → (τ7.1 20) = (σ.1 20) from by (first | omega | (simp only [st_s] <;> omega) | assumption | omega)), ag⟩
    ·
      refine ⟨fun c4 => ?_, fun c4 => ?_⟩
      ·
        exact l_42 ((61 - 0 : Int).toNat + 1) _ _ (show (61 - 0 : Int) < (((61 - 0 : Int).toNat + 1 : Nat) : Int) from by ((first | omega | (simp only [st_s] <;> omega) | assumption | omega))) hT ag (show σ.1 0 = σ.1 0 from by omega) (show σ.1 3 = σ.1 3 from by omega) (show σ.1 5 = σ.1 5 from by omega) (show σ.1 6 = σ.1 6 from by omega) (show σ.1 7 = σ.1 7 from by omega) (show σ.1 8 = σ.1 8 from by omega) (show σ.1 9 = σ.1 9 from by omega) (show σ.1 17 = σ.1 17 from by omega) (show σ.1 18 = σ.1 18 from by omega) G6 (show 0 ≤ 0 from by (first | omega | (simp only [st_s] <;> omega) | assumption | omega)) (show 0 ≤ 60 from by (first | omega | (simp only [st_s] <;> omega) | assumption | omega)) (show (σ.1 20) = (σ.1 20) from by (first | omega | (simp only [st_s] <;> omega) | assumption | omega)) (show oc (σ.2.1 7) ≤ (σ.1 5) from by (first | omega | (simp only [st_s] <;> omega) | assumption | omega)) (show (σ.1 5) < 1500 from by (first | omega | (simp only [st_s] <;> omega) | assumption | omega)) (show (σ.1 2) + (σ.1 18) ≤ 30000 from by (first | omega | (simp only [st_s] <;> omega) | assumption | omega)) (show (σ.1 18) ≤ 60 from by (first | omega | (simp only [st_s] <;> omega) | assumption | omega)) (show (σ.1 2) = (σ.1 2) from by (first | omega | (simp only [st_s] <;> omega) | assumption | omega))
      ·
        refine h34 _ ?_
        refine ⟨_, K_X13_failHere hT (show 0 ≤ 5 from by (first | omega | (simp only [st_s] <;> omega) | assumption | omega)) (show 5 ≤ 19 from by (first | omega | (simp only [st_s] <;> omega) | assumption | omega)), ?_⟩
        intro τ7 hn_τ7 hf_τ7 hq
        obtain ⟨hT, q5_1, q5_2⟩ := hq
        replace q5_1 : ¬ (σ.1 20) = 0 → (τ7.1 20) = (σ.1 20) := q5_1
        replace q5_2 : (σ.1 20) = 0 → (τ7.1 20) = 5 := q5_2
        replace ag : m_ag σ τ7 := ag_r ag hf_τ7 rfl rfl
        have w0_τ7 : τ7.1 0 = σ.1 0 := hf_τ7.1 0 (by decide)
        have w2_τ7 : τ7.1 2 = σ.1 2 := hf_τ7.1 2 (by decide)
        have w3_τ7 : τ7.1 3 = σ.1 3 := hf_τ7.1 3 (by decide)
        have w5_τ7 : τ7.1 5 = σ.1 5 := hf_τ7.1 5 (by decide)
        have w6_τ7 : τ7.1 6 = σ.1 6 := hf_τ7.1 6 (by decide)
        have w7_τ7 : τ7.1 7 = σ.1 7 := hf_τ7.1 7 (by decide)
        have w8_τ7 : τ7.1 8 = σ.1 8 := hf_τ7.1 8 (by decide)
        have w9_τ7 : τ7.1 9 = σ.1 9 := hf_τ7.1 9 (by decide)
        have w17_τ7 : τ7.1 17 = σ.1 17 := hf_τ7.1 17 (by decide)
        have w18_τ7 : τ7.1 18 = σ.1 18 := hf_τ7.1 18 (by decide)
        have w22_τ7 : τ7.1 22 = σ.1 22 := hf_τ7.1 22 (by decide)
        have g6_τ7 : τ7.2.1 6 = σ.2.1 6 := hf_τ7.2.1 6 (by decide)
        have g7_τ7 : τ7.2.1 7 = σ.2.1 7 := hf_τ7.2.1 7 (by decide)
        have g14_τ7 : τ7.2.1 14 = σ.2.1 14 := hf_τ7.2.1 14 (by decide)
        have g15_τ7 : τ7.2.1 15 = σ.2.1 15 := hf_τ7.2.1 15 (by decide)
        have g18_τ7 : τ7.2.1 18 = σ.2.1 18 := hf_τ7.2.1 18 (by decide)
        have g19_τ7 : τ7.2.1 19 = σ.2.1 19 := hf_τ7.2.1 19 (by decide)
        have g21_τ7 : τ7.2.1 21 = σ.2.1 21 := hf_τ7.2.1 21 (by decide)
        have g22_τ7 : τ7.2.1 22 = σ.2.1 22 := hf_τ7.2.1 22 (by decide)
        have g25_τ7 : τ7.2.1 25 = σ.2.1 25 := hf_τ7.2.1 25 (by decide)
        have g26_τ7 : τ7.2.1 26 = σ.2.1 26 := hf_τ7.2.1 26 (by decide)
        first | (have o6_τ7 := congrArg oc g6_τ7) | skip
        first | (have o7_τ7 := congrArg oc g7_τ7) | skip
        have W0 : τ7.1 0 = σ.1 0 := by omega
        have W3 : τ7.1 3 = σ.1 3 := by omega
        have W5 : τ7.1 5 = σ.1 5 := by omega
        have W6 : τ7.1 6 = σ.1 6 := by omega
        have W7 : τ7.1 7 = σ.1 7 := by omega
        have W8 : τ7.1 8 = σ.1 8 := by omega
        have W9 : τ7.1 9 = σ.1 9 := by omega
        have W17 : τ7.1 17 = σ.1 17 := by omega
        have W18 : τ7.1 18 = σ.1 18 := by omega
        have G6 : τ7.2.1 6 = σ.2.1 6 := (g6_τ7).trans G6
        have y14_22_τ7 : τ7.2.1 14 (τ7.1 22) = (σ.2.1 14) (σ.1 22) := by rw [g14_τ7, w22_τ7]
        have y15_22_τ7 : τ7.2.1 15 (τ7.1 22) = (σ.2.1 15) (σ.1 22) := by rw [g15_τ7, w22_τ7]
        have y18_22_τ7 : τ7.2.1 18 (τ7.1 22) = (σ.2.1 18) (σ.1 22) := by rw [g18_τ7, w22_τ7]
        have y19_22_τ7 : τ7.2.1 19 (τ7.1 22) = (σ.2.1 19) (σ.1 22) := by rw [g19_τ7, w22_τ7]
        have y21_22_τ7 : τ7.2.1 21 (τ7.1 22) = (σ.2.1 21) (σ.1 22) := by rw [g21_τ7, w22_τ7]
        have y22_22_τ7 : τ7.2.1 22 (τ7.1 22) = (σ.2.1 22) (σ.1 22) := by rw [g22_τ7, w22_τ7]
        have y25_22_τ7 : τ7.2.1 25 (τ7.1 22) = (σ.2.1 25) (σ.1 22) := by rw [g25_τ7, w22_τ7]
        have y26_22_τ7 : τ7.2.1 26 (τ7.1 22) = (σ.2.1 26) (σ.1 22) := by rw [g26_τ7, w22_τ7]
        have A6 : ∀ j, (-1) ≤ τ7.2.1 6 j ∧ τ7.2.1 6 j ≤ 999 := fun j => hT.2 6 j
        have A7 : ∀ j, (-1) ≤ τ7.2.1 7 j ∧ τ7.2.1 7 j ≤ 1499 := fun j => hT.2 7 j
        have A14 : ∀ j, 0 ≤ τ7.2.1 14 j ∧ τ7.2.1 14 j ≤ 30000 := fun j => hT.2 14 j
        have A15 : ∀ j, 0 ≤ τ7.2.1 15 j ∧ τ7.2.1 15 j ≤ 300 := fun j => hT.2 15 j
        have A18 : ∀ j, 0 ≤ τ7.2.1 18 j ∧ τ7.2.1 18 j ≤ 90000 := fun j => hT.2 18 j
        have A19 : ∀ j, 0 ≤ τ7.2.1 19 j ∧ τ7.2.1 19 j ≤ 60 := fun j => hT.2 19 j
        have A21 : ∀ j, 0 ≤ τ7.2.1 21 j ∧ τ7.2.1 21 j ≤ 20000 := fun j => hT.2 21 j
        have A22 : ∀ j, 0 ≤ τ7.2.1 22 j ∧ τ7.2.1 22 j ≤ 20000 := fun j => hT.2 22 j
        have A25 : ∀ j, 0 ≤ τ7.2.1 25 j ∧ τ7.2.1 25 j ≤ 20000 := fun j => hT.2 25 j
        have A26 : ∀ j, 0 ≤ τ7.2.1 26 j ∧ τ7.2.1 26 j ≤ 20000 := fun j => hT.2 26 j
        have v0 : 0 ≤ τ7.1 0 ∧ τ7.1 0 ≤ 60000 := hT.1 0
        have v2 : 0 ≤ τ7.1 2 ∧ τ7.1 2 ≤ 30000 := hT.1 2
        have v3 : 0 ≤ τ7.1 3 ∧ τ7.1 3 ≤ 1000 := hT.1 3
        have v5 : 0 ≤ τ7.1 5 ∧ τ7.1 5 ≤ 1500 := hT.1 5
        have v6 : 0 ≤ τ7.1 6 ∧ τ7.1 6 ≤ 30000 := hT.1 6
        have v7 : 0 ≤ τ7.1 7 ∧ τ7.1 7 ≤ 90000 := hT.1 7
        have v8 : 0 ≤ τ7.1 8 ∧ τ7.1 8 ≤ 20000 := hT.1 8
        have v9 : 0 ≤ τ7.1 9 ∧ τ7.1 9 ≤ 20000 := hT.1 9
        have v17 : 0 ≤ τ7.1 17 ∧ τ7.1 17 ≤ 60000 := hT.1 17
        have v18 : 0 ≤ τ7.1 18 ∧ τ7.1 18 ≤ 60000 := hT.1 18
        have v20 : 0 ≤ τ7.1 20 ∧ τ7.1 20 ≤ 19 := hT.1 20
        have v22 : 0 ≤ τ7.1 22 ∧ τ7.1 22 ≤ 1499 := hT.1 22
        exact ⟨hT, (show (τ7.1 20) = 0 → (τ7.1 22) = (σ.1 5) ∧ τ7.2.1 15 (τ7.1 22) = 0 ∧ τ7.2.1 19 (τ7.1 22) = 0 ∧ τ7.2.1 22 (τ7.1 22) = 0 ∧ τ7.2.1 26 (τ7.1 22) = 0 ∧ (σ.1 5) < 1500 from by (first | omega | (simp only [st_s] <;> omega) | assumption | omega)), (show (τ7.1 20) = 0 → τ7.2.1 14 (τ7.1 22) = (σ.1 6) ∧ τ7.2.1 18 (τ7.1 22) = (σ.1 7) ∧ τ7.2.1 21 (τ7.1 22) = (σ.1 8) ∧ τ7.2.1 25 (τ7.1 22) = (σ.1 9) from by (first | omega | (simp only [st_s] <;> omega) | assumption | omega)), (show oc (τ7.2.1 7) ≤ (σ.1 5) + 1 from by (first | omega | (simp only [st_s] <;> omega) | assumption | omega)), (show ¬ (σ.1 20) = 0 → (τ7.1 20) = (σ.1 20) from by (first | omega | (simp only [st_s] <;> omega) | assumption | omega)), ag⟩
set_option maxHeartbeats 1000000 in
theorem K_X13_stepHere {σ : S0} (hT : m_T σ) (p1 : (σ.1 17) + (σ.1 18) ≤ (σ.1 0)) (p2 : oc (σ.2.1 7) < 4096) : W_X13_stepHere σ (fun (x : Int) => (-1 ≤ x ∧ x < (σ.1 22) ∨ x = -1) ∧ (-1 ≤ x ∧ x ≤ 1499)) := by
  have v0 : 0 ≤ σ.1 0 ∧ σ.1 0 ≤ 60000 := hT.1 0
  have v13 : 0 ≤ σ.1 13 ∧ σ.1 13 ≤ 1500 := hT.1 13
  have v17 : 0 ≤ σ.1 17 ∧ σ.1 17 ≤ 60000 := hT.1 17
  have v18 : 0 ≤ σ.1 18 ∧ σ.1 18 ≤ 60000 := hT.1 18
  have v22 : 0 ≤ σ.1 22 ∧ σ.1 22 ≤ 1499 := hT.1 22
  intro P48 h48
  have l_48 : ∀ (m_48 : Nat) (u1_48 : Int) (u2_48 : Int) (u3_48 : Int), 1501 - u3_48 < (m_48 : Int) → (0 ≤ u1_48) → (u1_48 < (σ.1 22)) → (0 ≤ u3_48) → (u3_48 ≤ 1500) → P48 u1_48 u2_48 u3_48 := by
    intro m_48
    induction m_48 with
    | zero =>
      intro u1_48 u2_48 u3_48 hm i48_1 i48_2 i48_3 i48_4
      exfalso; (first | omega | (simp only [st_s] <;> omega) | assumption | omega)
    | succ m_48 ih_48 =>
      intro u1_48 u2_48 u3_48 hm_48 i48_1 i48_2 i48_3 i48_4
      refine h48 u1_48 u2_48 u3_48 ?_
      refine ⟨fun c9 => ?_, fun c9 => ?_⟩
      ·
        refine ⟨fun c10 => ?_, fun c10 => ?_⟩
        ·
          exact ⟨(show -1 ≤ (-1) ∧ (-1) < (σ.1 22) ∨ (-1) = -1 from by (first | omega | (simp only [st_s] <;> omega) | assumption | omega)), (show -1 ≤ (-1) ∧ (-1) ≤ 1499 from by (first | omega | (simp only [st_s] <;> omega) | assumption | omega))⟩
        ·
          exact ⟨(show -1 ≤ u1_48 ∧ u1_48 < (σ.1 22) ∨ u1_48 = -1 from by (first | omega | (simp only [st_s] <;> omega) | assumption | omega)), (show -1 ≤ u1_48 ∧ u1_48 ≤ 1499 from by (first | omega | (simp only [st_s] <;> omega) | assumption | omega))⟩
      ·
        refine ⟨fun c11 => ?_, fun c11 => ?_⟩
        ·
          refine ⟨(⟨by (first | omega | (simp only [st_s] <;> omega) | assumption | omega), by (first | omega | (simp only [st_s] <;> omega) | assumption | omega)⟩ : rg (u3_48 + 1)), ?_⟩
          exact ih_48 _ _ _ (show (1501 - (u3_48 + 1) : Int) < ((m_48 : Nat) : Int) from by ((first | omega | (simp only [st_s] <;> omega) | assumption | omega))) (show 0 ≤ u1_48 from by (first | omega | (simp only [st_s] <;> omega) | assumption | omega)) (show u1_48 < (σ.1 22) from by (first | omega | (simp only [st_s] <;> omega) | assumption | omega)) (show 0 ≤ (u3_48 + 1) from by (first | omega | (simp only [st_s] <;> omega) | assumption | omega)) (show (u3_48 + 1) ≤ 1500 from by (first | omega | (simp only [st_s] <;> omega) | assumption | omega))
        ·
          refine ⟨(show 0 ≤ u3_48 ∧ u3_48 < 1501 from by (first | omega | (simp only [st_s] <;> omega) | assumption | omega)), ?_⟩
          intro x14 r_x14 e_x14
          have b_x14 : 0 ≤ x14 ∧ x14 ≤ 1499 := by rw [e_x14]; exact hT.2 31 _
          refine ⟨fun c15 => ?_, fun c15 => ?_⟩
          ·
            refine ⟨(⟨by (first | omega | (simp only [st_s] <;> omega) | assumption | omega), by (first | omega | (simp only [st_s] <;> omega) | assumption | omega)⟩ : rg (u3_48 + 1)), ?_⟩
            exact ih_48 _ _ _ (show (1501 - (u3_48 + 1) : Int) < ((m_48 : Nat) : Int) from by ((first | omega | (simp only [st_s] <;> omega) | assumption | omega))) (show 0 ≤ u1_48 from by (first | omega | (simp only [st_s] <;> omega) | assumption | omega)) (show u1_48 < (σ.1 22) from by (first | omega | (simp only [st_s] <;> omega) | assumption | omega)) (show 0 ≤ (u3_48 + 1) from by (first | omega | (simp only [st_s] <;> omega) | assumption | omega)) (show (u3_48 + 1) ≤ 1500 from by (first | omega | (simp only [st_s] <;> omega) | assumption | omega))
          ·
            refine ⟨(⟨by (first | omega | (simp only [st_s] <;> omega) | assumption | omega), by (first | omega | (simp only [st_s] <;> omega) | assumption | omega)⟩ : rg (u3_48 + 1)), ?_⟩
            exact ih_48 _ _ _ (show (1501 - (u3_48 + 1) : Int) < ((m_48 : Nat) : Int) from by ((first | omega | (simp only [st_s] <;> omega) | assumption | omega))) (show 0 ≤ u1_48 from by (first | omega | (simp only [st_s] <;> omega) | assumption | omega)) (show u1_48 < (σ.1 22) from by (first | omega | (simp only [st_s] <;> omega) | assumption | omega)) (show 0 ≤ (u3_48 + 1) from by (first | omega | (simp only [st_s] <;> omega) | assumption | omega)) (show (u3_48 + 1) ≤ 1500 from by (first | omega | (simp only [st_s] <;> omega) | assumption | omega))
  refine ⟨_, K_X13_findLabel_q1 hT (show 0 ≤ (σ.1 17) from by (first | omega | (simp only [st_s] <;> omega) | assumption | omega)) (show (σ.1 17) + (σ.1 18) ≤ 60000 from by (first | omega | (simp only [st_s] <;> omega) | assumption | omega)) (show oc (σ.2.1 7) < 4096 from by (first | omega | (simp only [st_s] <;> omega) | assumption | omega)), ?_⟩
  intro x2 r_x2 hq
  have q1_1 := hq
  replace q1_1 : -1 ≤ x2 ∧ x2 ≤ 1499 := q1_1
  refine ⟨fun c4 => ?_, fun c4 => ?_⟩
  ·
    exact ⟨(show -1 ≤ (-1) ∧ (-1) < (σ.1 22) ∨ (-1) = -1 from by (first | omega | (simp only [st_s] <;> omega) | assumption | omega)), (show -1 ≤ (-1) ∧ (-1) ≤ 1499 from by (first | omega | (simp only [st_s] <;> omega) | assumption | omega))⟩
  ·
    refine ⟨fun c5 => ?_, fun c5 => ?_⟩
    ·
      refine ⟨(show 0 ≤ x2 ∧ x2 < 1501 from by (first | omega | (simp only [st_s] <;> omega) | assumption | omega)), ?_⟩
      intro x7 r_x7 e_x7
      have b_x7 : 0 ≤ x7 ∧ x7 ≤ 4 := by rw [e_x7]; exact hT.2 13 _
      refine ⟨fun c8 => ?_, fun c8 => ?_⟩
      ·
        exact l_48 ((1501 - 0 : Int).toNat + 1) _ _ _ (show (1501 - 0 : Int) < (((1501 - 0 : Int).toNat + 1 : Nat) : Int) from by ((first | omega | (simp only [st_s] <;> omega) | assumption | omega))) (show 0 ≤ x2 from by (first | omega | (simp only [st_s] <;> omega) | assumption | omega)) (show x2 < (σ.1 22) from by (first | omega | (simp only [st_s] <;> omega) | assumption | omega)) (show 0 ≤ 0 from by (first | omega | (simp only [st_s] <;> omega) | assumption | omega)) (show 0 ≤ 1500 from by (first | omega | (simp only [st_s] <;> omega) | assumption | omega))
      ·
        exact ⟨(show -1 ≤ x2 ∧ x2 < (σ.1 22) ∨ x2 = -1 from by (first | omega | (simp only [st_s] <;> omega) | assumption | omega)), (show -1 ≤ x2 ∧ x2 ≤ 1499 from by (first | omega | (simp only [st_s] <;> omega) | assumption | omega))⟩
    ·
      exact ⟨(show -1 ≤ (-1) ∧ (-1) < (σ.1 22) ∨ (-1) = -1 from by (first | omega | (simp only [st_s] <;> omega) | assumption | omega)), (show -1 ≤ (-1) ∧ (-1) ≤ 1499 from by (first | omega | (simp only [st_s] <;> omega) | assumption | omega))⟩
set_option maxHeartbeats 1000000 in
theorem K_X13_addStep {n1 : Int} {n2 : Int} {σ : S0} (hT : m_T σ) (p1 : -300 ≤ n1) (p2 : n1 ≤ 1499) (p3 : 0 ≤ n2) (p4 : n2 ≤ 60000) (p5 : (σ.1 9) < 20000) (p6 : σ.2.1 26 (σ.1 22) < 20000) (p7 : (σ.1 22) = (σ.1 5)) : W_X13_addStep n1 n2 σ (fun (τ : S0) => (m_T τ) ∧ ((τ.1 9) = (σ.1 9) + 1) ∧ (τ.2.1 26 (τ.1 22) = σ.2.1 26 (σ.1 22) + 1) ∧ (τ.2.1 27 = st (σ.2.1 27) (σ.1 9) n1) ∧ (j_eq ((σ.1 9)) (σ.2.1 28) (τ.2.1 28)) ∧ (ca (τ.2.1 28) ((τ.1 9)) = ca (σ.2.1 28) ((σ.1 9))) ∧ (τ.2.1 28 (σ.1 9) = 0) ∧ (m_ag σ τ)) := by
  have A26 : ∀ j, 0 ≤ σ.2.1 26 j ∧ σ.2.1 26 j ≤ 20000 := fun j => hT.2 26 j
  have A28 : ∀ j, 0 ≤ σ.2.1 28 j ∧ σ.2.1 28 j ≤ 1 := fun j => hT.2 28 j
  have v3 : 0 ≤ σ.1 3 ∧ σ.1 3 ≤ 1000 := hT.1 3
  have v5 : 0 ≤ σ.1 5 ∧ σ.1 5 ≤ 1500 := hT.1 5
  have v6 : 0 ≤ σ.1 6 ∧ σ.1 6 ≤ 30000 := hT.1 6
  have v7 : 0 ≤ σ.1 7 ∧ σ.1 7 ≤ 90000 := hT.1 7
  have v8 : 0 ≤ σ.1 8 ∧ σ.1 8 ≤ 20000 := hT.1 8
  have v9 : 0 ≤ σ.1 9 ∧ σ.1 9 ≤ 20000 := hT.1 9
  have v22 : 0 ≤ σ.1 22 ∧ σ.1 22 ≤ 1499 := hT.1 22
  have W3 : σ.1 3 = σ.1 3 := rfl
  have W5 : σ.1 5 = σ.1 5 := rfl
  have W6 : σ.1 6 = σ.1 6 := rfl
  have W7 : σ.1 7 = σ.1 7 := rfl
  have W8 : σ.1 8 = σ.1 8 := rfl
  have W22 : σ.1 22 = σ.1 22 := rfl
  have ag : m_ag σ σ := ag_0 σ
  have cn := ca_n (σ.2.1 28) (σ.1 9) 0 (by omega)
  unfold W_X13_addStep
  refine ⟨(show 0 ≤ σ.1 9 ∧ σ.1 9 < 20001 from by (first | omega | (simp only [st_s] <;> omega) | assumption | omega)), ?_⟩
  replace ag := ag_w (k := 27) (x := n1) 9 0 ag rfl (show σ.1 9 + 0 ≤ (σ.1 9) from by (first | omega | (simp only [st_s] <;> omega) | assumption | omega))
  replace hT := mT_a (k := 27) (j := (σ.1 9)) hT (show (-300 : Int) ≤ n1 ∧ n1 ≤ 1499 from by (first | omega | (simp only [st_s] <;> omega) | assumption | omega))
  replace ag := ag_a (k := 28) (e := (σ.1 9)) (x := 0) ag rfl
  replace hT := mT_a (k := 28) (j := (σ.1 9)) hT (show (0 : Int) ≤ 0 ∧ 0 ≤ 1 from by (first | omega | (simp only [st_s] <;> omega) | assumption | omega))
  replace ag := ag_w (k := 29) (x := n2) 9 0 ag rfl (show σ.1 9 + 0 ≤ (σ.1 9) from by (first | omega | (simp only [st_s] <;> omega) | assumption | omega))
  replace hT := mT_a (k := 29) (j := (σ.1 9)) hT (show (0 : Int) ≤ n2 ∧ n2 ≤ 60000 from by (first | omega | (simp only [st_s] <;> omega) | assumption | omega))
  refine ⟨(⟨by (first | omega | (simp only [st_s] <;> omega) | assumption | omega), by (first | omega | (simp only [st_s] <;> omega) | assumption | omega)⟩ : rg (σ.1 9 + 1)), ?_⟩
  replace ag := ag_v (i := 9) (x := (σ.1 9 + 1)) ag (Or.inr (show σ.1 9 ≤ (σ.1 9 + 1) from by (first | omega | (simp only [st_s] <;> omega) | assumption | omega)))
  replace hT := mT_v (i := 9) hT (show 0 ≤ (σ.1 9 + 1) ∧ (σ.1 9 + 1) ≤ 20000 from by (first | omega | (simp only [st_s] <;> omega) | assumption | omega))
  refine ⟨(show 0 ≤ σ.1 22 ∧ σ.1 22 < 1501 from by (first | omega | (simp only [st_s] <;> omega) | assumption | omega)), ?_⟩
  intro x4 r_x4 e_x4
  have b_x4 : 0 ≤ x4 ∧ x4 ≤ 20000 := by rw [e_x4]; exact hT.2 26 _
  refine ⟨(⟨by (first | omega | (simp only [st_s] <;> omega) | assumption | omega), by (first | omega | (simp only [st_s] <;> omega) | assumption | omega)⟩ : rg (x4 + 1)), ?_⟩
  replace ag := ag_w (k := 26) (x := (x4 + 1)) 5 0 ag rfl (show σ.1 5 + 0 ≤ (σ.1 22) from by (first | omega | (simp only [st_s] <;> omega) | assumption | omega))
  replace hT := mT_a (k := 26) (j := (σ.1 22)) hT (show (0 : Int) ≤ (x4 + 1) ∧ (x4 + 1) ≤ 20000 from by (first | omega | (simp only [st_s] <;> omega) | assumption | omega))
  exact ⟨hT, (show ((σ.1 9 + 1)) = (σ.1 9) + 1 from by (first | omega | (simp only [st_s] <;> omega) | assumption | omega)), (show (st (σ.2.1 26) (σ.1 22) (x4 + 1)) (σ.1 22) = σ.2.1 26 (σ.1 22) + 1 from by (first | omega | (simp only [st_s] <;> omega) | assumption | omega)), (show (st (σ.2.1 27) (σ.1 9) n1) = st (σ.2.1 27) (σ.1 9) n1 from by rfl), (show j_eq ((σ.1 9)) (σ.2.1 28) ((st (σ.2.1 28) (σ.1 9) 0)) from by exact j_eqs (j_eq0 _ _) (Int.le_refl _)), (show ca ((st (σ.2.1 28) (σ.1 9) 0)) (((σ.1 9 + 1))) = ca (σ.2.1 28) ((σ.1 9)) from by omega), (show (st (σ.2.1 28) (σ.1 9) 0) (σ.1 9) = 0 from by exact st_s _ _ _), ag⟩
