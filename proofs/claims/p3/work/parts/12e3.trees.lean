-- pure: all rules of the model become nodes
set_option maxHeartbeats 6000000 in
theorem K_X13_treeRules {σ : S0} (hT : m_T σ) (p1 : m_J σ) : W_X13_treeRules σ (fun (τ : S0) => (m_T τ) ∧ (y_TT σ τ (σ.1 5) (σ.1 5)) ∧ (y_Un σ (σ.1 5) (τ.1 48) (τ.2.1 84)) ∧ ((τ.1 49) = 1)) := by
  have A8 : ∀ j, 0 ≤ σ.2.1 8 j ∧ σ.2.1 8 j ≤ 1 := fun j => hT.2 8 j
  have A10 : ∀ j, (-1) ≤ σ.2.1 10 j ∧ σ.2.1 10 j ≤ 999 := fun j => hT.2 10 j
  have A13 : ∀ j, 0 ≤ σ.2.1 13 j ∧ σ.2.1 13 j ≤ 4 := fun j => hT.2 13 j
  have A14 : ∀ j, 0 ≤ σ.2.1 14 j ∧ σ.2.1 14 j ≤ 30000 := fun j => hT.2 14 j
  have A15 : ∀ j, 0 ≤ σ.2.1 15 j ∧ σ.2.1 15 j ≤ 300 := fun j => hT.2 15 j
  have A16 : ∀ j, 0 ≤ σ.2.1 16 j ∧ σ.2.1 16 j ≤ 999 := fun j => hT.2 16 j
  have A18 : ∀ j, 0 ≤ σ.2.1 18 j ∧ σ.2.1 18 j ≤ 90000 := fun j => hT.2 18 j
  have A19 : ∀ j, 0 ≤ σ.2.1 19 j ∧ σ.2.1 19 j ≤ 60 := fun j => hT.2 19 j
  have A20 : ∀ j, 0 ≤ σ.2.1 20 j ∧ σ.2.1 20 j ≤ 1499 := fun j => hT.2 20 j
  have A21 : ∀ j, 0 ≤ σ.2.1 21 j ∧ σ.2.1 21 j ≤ 20000 := fun j => hT.2 21 j
  have A22 : ∀ j, 0 ≤ σ.2.1 22 j ∧ σ.2.1 22 j ≤ 20000 := fun j => hT.2 22 j
  have A25 : ∀ j, 0 ≤ σ.2.1 25 j ∧ σ.2.1 25 j ≤ 20000 := fun j => hT.2 25 j
  have A26 : ∀ j, 0 ≤ σ.2.1 26 j ∧ σ.2.1 26 j ≤ 20000 := fun j => hT.2 26 j
  have A28 : ∀ j, 0 ≤ σ.2.1 28 j ∧ σ.2.1 28 j ≤ 1 := fun j => hT.2 28 j
  have A79 : ∀ j, (-1) ≤ σ.2.1 79 j ∧ σ.2.1 79 j ≤ 30001 := fun j => hT.2 79 j
  have A80 : ∀ j, (-1) ≤ σ.2.1 80 j ∧ σ.2.1 80 j ≤ 30001 := fun j => hT.2 80 j
  have A84 : ∀ j, 0 ≤ σ.2.1 84 j ∧ σ.2.1 84 j ≤ 1499 := fun j => hT.2 84 j
  have v5 : 0 ≤ σ.1 5 ∧ σ.1 5 ≤ 1500 := hT.1 5
  have v6 : 0 ≤ σ.1 6 ∧ σ.1 6 ≤ 30000 := hT.1 6
  have v7 : 0 ≤ σ.1 7 ∧ σ.1 7 ≤ 90000 := hT.1 7
  have v8 : 0 ≤ σ.1 8 ∧ σ.1 8 ≤ 20000 := hT.1 8
  have v9 : 0 ≤ σ.1 9 ∧ σ.1 9 ≤ 20000 := hT.1 9
  have v11 : (-1) ≤ σ.1 11 ∧ σ.1 11 ≤ 999 := hT.1 11
  have v47 : 0 ≤ σ.1 47 ∧ σ.1 47 ≤ 30001 := hT.1 47
  have v48 : 0 ≤ σ.1 48 ∧ σ.1 48 ≤ 1500 := hT.1 48
  have v49 : 0 ≤ σ.1 49 ∧ σ.1 49 ≤ 1 := hT.1 49
  have W5 : σ.1 5 = σ.1 5 := rfl
  have W6 : σ.1 6 = σ.1 6 := rfl
  have W7 : σ.1 7 = σ.1 7 := rfl
  have W8 : σ.1 8 = σ.1 8 := rfl
  have W9 : σ.1 9 = σ.1 9 := rfl
  have W11 : σ.1 11 = σ.1 11 := rfl
  have G8 : σ.2.1 8 = σ.2.1 8 := rfl
  have G10 : σ.2.1 10 = σ.2.1 10 := rfl
  have G13 : σ.2.1 13 = σ.2.1 13 := rfl
  have G14 : σ.2.1 14 = σ.2.1 14 := rfl
  have G15 : σ.2.1 15 = σ.2.1 15 := rfl
  have G16 : σ.2.1 16 = σ.2.1 16 := rfl
  have G18 : σ.2.1 18 = σ.2.1 18 := rfl
  have G19 : σ.2.1 19 = σ.2.1 19 := rfl
  have G20 : σ.2.1 20 = σ.2.1 20 := rfl
  have G21 : σ.2.1 21 = σ.2.1 21 := rfl
  have G22 : σ.2.1 22 = σ.2.1 22 := rfl
  have G25 : σ.2.1 25 = σ.2.1 25 := rfl
  have G26 : σ.2.1 26 = σ.2.1 26 := rfl
  have G28 : σ.2.1 28 = σ.2.1 28 := rfl
  intro P19 h19
  have B14 := A14
  have l_19 : ∀ (m_19 : Nat) (u1_19 : Int) (τ_19 : S0), 1501 - u1_19 < (m_19 : Int) → (m_T τ_19) → (τ_19.1 5 = σ.1 5) → (τ_19.1 6 = σ.1 6) → (τ_19.1 7 = σ.1 7) → (τ_19.1 8 = σ.1 8) → (τ_19.1 9 = σ.1 9) → (τ_19.1 11 = σ.1 11) → (τ_19.2.1 8 = σ.2.1 8) → (τ_19.2.1 10 = σ.2.1 10) → (τ_19.2.1 13 = σ.2.1 13) → (τ_19.2.1 14 = σ.2.1 14) → (τ_19.2.1 15 = σ.2.1 15) → (τ_19.2.1 16 = σ.2.1 16) → (τ_19.2.1 18 = σ.2.1 18) → (τ_19.2.1 19 = σ.2.1 19) → (τ_19.2.1 20 = σ.2.1 20) → (τ_19.2.1 21 = σ.2.1 21) → (τ_19.2.1 22 = σ.2.1 22) → (τ_19.2.1 25 = σ.2.1 25) → (τ_19.2.1 26 = σ.2.1 26) → (τ_19.2.1 28 = σ.2.1 28) → (0 ≤ u1_19) → (u1_19 ≤ (σ.1 5)) → (y_TT σ τ_19 u1_19 u1_19) → (y_Un σ u1_19 (τ_19.1 48) (τ_19.2.1 84)) → (∀ r : Int, u1_19 ≤ r → r < (σ.1 5) → (τ_19.1 47) ≤ 1 + σ.2.1 14 r) → P19 u1_19 τ_19 := by
    intro m_19
    induction m_19 with
    | zero =>
      intro u1_19 τ_19 hm hT W5 W6 W7 W8 W9 W11 G8 G10 G13 G14 G15 G16 G18 G19 G20 G21 G22 G25 G26 G28 i19_1 i19_2 i19_3 i19_4 i19_5
      have A8 : ∀ j, 0 ≤ τ_19.2.1 8 j ∧ τ_19.2.1 8 j ≤ 1 := fun j => hT.2 8 j
      have A10 : ∀ j, (-1) ≤ τ_19.2.1 10 j ∧ τ_19.2.1 10 j ≤ 999 := fun j => hT.2 10 j
      have A13 : ∀ j, 0 ≤ τ_19.2.1 13 j ∧ τ_19.2.1 13 j ≤ 4 := fun j => hT.2 13 j
      have A14 : ∀ j, 0 ≤ τ_19.2.1 14 j ∧ τ_19.2.1 14 j ≤ 30000 := fun j => hT.2 14 j
      have A15 : ∀ j, 0 ≤ τ_19.2.1 15 j ∧ τ_19.2.1 15 j ≤ 300 := fun j => hT.2 15 j
      have A16 : ∀ j, 0 ≤ τ_19.2.1 16 j ∧ τ_19.2.1 16 j ≤ 999 := fun j => hT.2 16 j
      have A18 : ∀ j, 0 ≤ τ_19.2.1 18 j ∧ τ_19.2.1 18 j ≤ 90000 := fun j => hT.2 18 j
      have A19 : ∀ j, 0 ≤ τ_19.2.1 19 j ∧ τ_19.2.1 19 j ≤ 60 := fun j => hT.2 19 j
      have A20 : ∀ j, 0 ≤ τ_19.2.1 20 j ∧ τ_19.2.1 20 j ≤ 1499 := fun j => hT.2 20 j
      have A21 : ∀ j, 0 ≤ τ_19.2.1 21 j ∧ τ_19.2.1 21 j ≤ 20000 := fun j => hT.2 21 j
      have A22 : ∀ j, 0 ≤ τ_19.2.1 22 j ∧ τ_19.2.1 22 j ≤ 20000 := fun j => hT.2 22 j
      have A25 : ∀ j, 0 ≤ τ_19.2.1 25 j ∧ τ_19.2.1 25 j ≤ 20000 := fun j => hT.2 25 j
      have A26 : ∀ j, 0 ≤ τ_19.2.1 26 j ∧ τ_19.2.1 26 j ≤ 20000 := fun j => hT.2 26 j
      have A28 : ∀ j, 0 ≤ τ_19.2.1 28 j ∧ τ_19.2.1 28 j ≤ 1 := fun j => hT.2 28 j
      have A79 : ∀ j, (-1) ≤ τ_19.2.1 79 j ∧ τ_19.2.1 79 j ≤ 30001 := fun j => hT.2 79 j
      have A80 : ∀ j, (-1) ≤ τ_19.2.1 80 j ∧ τ_19.2.1 80 j ≤ 30001 := fun j => hT.2 80 j
      have A84 : ∀ j, 0 ≤ τ_19.2.1 84 j ∧ τ_19.2.1 84 j ≤ 1499 := fun j => hT.2 84 j
      have v5 : 0 ≤ τ_19.1 5 ∧ τ_19.1 5 ≤ 1500 := hT.1 5
      have v6 : 0 ≤ τ_19.1 6 ∧ τ_19.1 6 ≤ 30000 := hT.1 6
      have v7 : 0 ≤ τ_19.1 7 ∧ τ_19.1 7 ≤ 90000 := hT.1 7
      have v8 : 0 ≤ τ_19.1 8 ∧ τ_19.1 8 ≤ 20000 := hT.1 8
      have v9 : 0 ≤ τ_19.1 9 ∧ τ_19.1 9 ≤ 20000 := hT.1 9
      have v11 : (-1) ≤ τ_19.1 11 ∧ τ_19.1 11 ≤ 999 := hT.1 11
      have v47 : 0 ≤ τ_19.1 47 ∧ τ_19.1 47 ≤ 30001 := hT.1 47
      have v48 : 0 ≤ τ_19.1 48 ∧ τ_19.1 48 ≤ 1500 := hT.1 48
      have v49 : 0 ≤ τ_19.1 49 ∧ τ_19.1 49 ≤ 1 := hT.1 49
      exfalso; (first | omega | (simp only [st_s] <;> omega) | assumption | omega | fail)
    | succ m_19 ih_19 =>
      intro u1_19 τ_19 hm_19 hT W5 W6 W7 W8 W9 W11 G8 G10 G13 G14 G15 G16 G18 G19 G20 G21 G22 G25 G26 G28 i19_1 i19_2 i19_3 i19_4 i19_5
      have A8 : ∀ j, 0 ≤ τ_19.2.1 8 j ∧ τ_19.2.1 8 j ≤ 1 := fun j => hT.2 8 j
      have A10 : ∀ j, (-1) ≤ τ_19.2.1 10 j ∧ τ_19.2.1 10 j ≤ 999 := fun j => hT.2 10 j
      have A13 : ∀ j, 0 ≤ τ_19.2.1 13 j ∧ τ_19.2.1 13 j ≤ 4 := fun j => hT.2 13 j
      have A14 : ∀ j, 0 ≤ τ_19.2.1 14 j ∧ τ_19.2.1 14 j ≤ 30000 := fun j => hT.2 14 j
      have A15 : ∀ j, 0 ≤ τ_19.2.1 15 j ∧ τ_19.2.1 15 j ≤ 300 := fun j => hT.2 15 j
      have A16 : ∀ j, 0 ≤ τ_19.2.1 16 j ∧ τ_19.2.1 16 j ≤ 999 := fun j => hT.2 16 j
      have A18 : ∀ j, 0 ≤ τ_19.2.1 18 j ∧ τ_19.2.1 18 j ≤ 90000 := fun j => hT.2 18 j
      have A19 : ∀ j, 0 ≤ τ_19.2.1 19 j ∧ τ_19.2.1 19 j ≤ 60 := fun j => hT.2 19 j
      have A20 : ∀ j, 0 ≤ τ_19.2.1 20 j ∧ τ_19.2.1 20 j ≤ 1499 := fun j => hT.2 20 j
      have A21 : ∀ j, 0 ≤ τ_19.2.1 21 j ∧ τ_19.2.1 21 j ≤ 20000 := fun j => hT.2 21 j
      have A22 : ∀ j, 0 ≤ τ_19.2.1 22 j ∧ τ_19.2.1 22 j ≤ 20000 := fun j => hT.2 22 j
      have A25 : ∀ j, 0 ≤ τ_19.2.1 25 j ∧ τ_19.2.1 25 j ≤ 20000 := fun j => hT.2 25 j
      have A26 : ∀ j, 0 ≤ τ_19.2.1 26 j ∧ τ_19.2.1 26 j ≤ 20000 := fun j => hT.2 26 j
      have A28 : ∀ j, 0 ≤ τ_19.2.1 28 j ∧ τ_19.2.1 28 j ≤ 1 := fun j => hT.2 28 j
      have A79 : ∀ j, (-1) ≤ τ_19.2.1 79 j ∧ τ_19.2.1 79 j ≤ 30001 := fun j => hT.2 79 j
      have A80 : ∀ j, (-1) ≤ τ_19.2.1 80 j ∧ τ_19.2.1 80 j ≤ 30001 := fun j => hT.2 80 j
      have A84 : ∀ j, 0 ≤ τ_19.2.1 84 j ∧ τ_19.2.1 84 j ≤ 1499 := fun j => hT.2 84 j
      have v5 : 0 ≤ τ_19.1 5 ∧ τ_19.1 5 ≤ 1500 := hT.1 5
      have v6 : 0 ≤ τ_19.1 6 ∧ τ_19.1 6 ≤ 30000 := hT.1 6
      have v7 : 0 ≤ τ_19.1 7 ∧ τ_19.1 7 ≤ 90000 := hT.1 7
      have v8 : 0 ≤ τ_19.1 8 ∧ τ_19.1 8 ≤ 20000 := hT.1 8
      have v9 : 0 ≤ τ_19.1 9 ∧ τ_19.1 9 ≤ 20000 := hT.1 9
      have v11 : (-1) ≤ τ_19.1 11 ∧ τ_19.1 11 ≤ 999 := hT.1 11
      have v47 : 0 ≤ τ_19.1 47 ∧ τ_19.1 47 ≤ 30001 := hT.1 47
      have v48 : 0 ≤ τ_19.1 48 ∧ τ_19.1 48 ≤ 1500 := hT.1 48
      have v49 : 0 ≤ τ_19.1 49 ∧ τ_19.1 49 ≤ 1 := hT.1 49
      have SD : y_SD σ τ_19 := ⟨W11, G8, G10, G13, G14, G15, G16, G18, G19, G20⟩
      obtain ⟨sd1, sd2, sd3, sd4, sd5, sd6, sd7⟩ := y_SD_e SD
      have uc := y_Un_c i19_4 i19_1
      have mj : m_J τ_19 := by (rw [show m_J τ_19 ↔ J_m (τ_19.1 5) (τ_19.1 6) (τ_19.1 7) (τ_19.1 8) (τ_19.1 9) (τ_19.2.1 14) (τ_19.2.1 15) (τ_19.2.1 18) (τ_19.2.1 19) (τ_19.2.1 21) (τ_19.2.1 22) (τ_19.2.1 25) (τ_19.2.1 26) (τ_19.2.1 28) from Iff.rfl, W5, W6, W7, W8, W9, G14, G15, G18, G19, G21, G22, G25, G26, G28]; exact p1)
      refine h19 u1_19 τ_19 ?_
      refine ⟨fun c4 => ?_, fun c4 => ?_⟩
      ·
        replace hT := mT_v (i := 49) hT (show (0 : Int) ≤ 1 ∧ 1 ≤ 1 from by (first | omega | (simp only [st_s] <;> omega) | assumption | omega | fail))
        exact ⟨hT, (show y_TT σ (s_v τ_19 49 1) (σ.1 5) (σ.1 5) from by (rw [show σ.1 5 = u1_19 from by omega]; exact i19_3)), (show y_Un σ (σ.1 5) (τ_19.1 48) (τ_19.2.1 84) from by (rw [show σ.1 5 = u1_19 from by omega]; exact i19_4)), (show ((1 : Int)) = 1 from by (first | omega | (simp only [st_s] <;> omega) | assumption | omega | fail))⟩
      ·
        refine ⟨(show 0 ≤ u1_19 ∧ u1_19 < 1501 from by (first | omega | (simp only [st_s] <;> omega) | assumption | omega | fail)), ?_⟩
        intro x6 r_x6 e_x6
        have b_x6 : 0 ≤ x6 ∧ x6 ≤ 300 := by rw [e_x6]; exact hT.2 15 _
        rw [G15] at e_x6
        refine ⟨fun c7 => ?_, fun c7 => ?_⟩
        ·
          have mm1 := fun z => p1 u1_19 i19_1 z
          refine ⟨(⟨by (first | omega | (simp only [st_s] <;> omega) | assumption | omega | fail), by (first | omega | (simp only [st_s] <;> omega) | assumption | omega | fail)⟩ : rg (u1_19 + 1)), ?_⟩
          exact ih_19 _ _ (show (1501 - (u1_19 + 1) : Int) < ((m_19 : Nat) : Int) from by ((first | omega | (simp only [st_s] <;> omega) | assumption | omega | fail))) hT (show τ_19.1 5 = σ.1 5 from by first | exact W5 | omega) (show τ_19.1 6 = σ.1 6 from by first | exact W6 | omega) (show τ_19.1 7 = σ.1 7 from by first | exact W7 | omega) (show τ_19.1 8 = σ.1 8 from by first | exact W8 | omega) (show τ_19.1 9 = σ.1 9 from by first | exact W9 | omega) (show τ_19.1 11 = σ.1 11 from by first | exact W11 | omega) G8 G10 G13 G14 G15 G16 G18 G19 G20 G21 G22 G25 G26 G28 (show 0 ≤ (u1_19 + 1) from by (first | omega | (simp only [st_s] <;> omega) | assumption | omega | fail)) (show (u1_19 + 1) ≤ (σ.1 5) from by (first | omega | (simp only [st_s] <;> omega) | assumption | omega | fail)) (show y_TT σ τ_19 (u1_19 + 1) (u1_19 + 1) from by (first | (refine ⟨⟨?_, ?_⟩, by omega, fun x a b => by exfalso; omega, fun x y a b c => by exfalso; omega⟩; (rw [show τ3.1 47 = 1 from by omega]; exact y_T_0 (Int.le_refl _)); (rw [show τ3.1 47 = 1 from by omega]; intro x a b; rw [show x = 0 from by omega]; exact ⟨Or.inl a79, Or.inl a80⟩)) | exact w18 | exact y_TT_m i19_3 i19_1 (fun q => by (have w := q.1.2; omega)) | exact y_TT_m i19_3 i19_1 (fun q => absurd (by assumption) (q9_2.mpr q.1.1)) | exact y_TT_m i19_3 i19_1 (fun q => q.2 (q14_2.mp (by assumption))) | fail)) (show y_Un σ (u1_19 + 1) (τ_19.1 48) (τ_19.2.1 84) from by (first | (rw [show τ3.1 48 = 0 from by omega]; exact ⟨fun k a b => by exfalso; omega, fun j k a b d => by exfalso; omega, fun r a b => by exfalso; omega⟩) | exact y_Un_n i19_4 (fun q => by (have w := q.1.2; omega)) | exact y_Un_n i19_4 (fun q => absurd (by assumption) (q9_2.mpr q.1.1)) | (rw [w48_τ20, g84_τ20]; exact y_Un_n i19_4 (fun q => absurd (by assumption) (q14_2.mpr q.2))) | exact y_Un_y i19_4 (by omega) i19_1 ⟨q9_2.mp (by assumption), by omega⟩ (q14_2.mp (by assumption)) | fail)) (show ∀ r : Int, (u1_19 + 1) ≤ r → r < (σ.1 5) → (τ_19.1 47) ≤ 1 + σ.2.1 14 r from by (first | (intro r a b; have w := i19_5 r (by omega) b; omega) | (intro r a b; have w := B14 r; omega) | (intro r a b; have w := (p1 u1_19 i19_1 (by omega)).2.2.2.2 r (by omega) b; omega) | fail))
        ·
          have mm1 := fun z => p1 u1_19 i19_1 z
          refine ⟨_, K_X13_isRule hT (show 0 ≤ u1_19 from by (first | omega | (simp only [st_s] <;> omega) | assumption | omega | fail)) (show u1_19 < (τ_19.1 5) from by (first | omega | (simp only [st_s] <;> omega) | assumption | omega | fail)), ?_⟩
          intro x10 r_x10 hq
          obtain ⟨q9_1, q9_2⟩ := hq
          replace q9_1 : 0 ≤ x10 ∧ x10 ≤ 1 := q9_1
          replace q9_2 : ¬ x10 = 0 ↔ y_R τ_19 u1_19 := q9_2
          rw [sd1] at q9_2
          refine ⟨fun c12 => ?_, fun c12 => ?_⟩
          ·
            refine ⟨(⟨by (first | omega | (simp only [st_s] <;> omega) | assumption | omega | fail), by (first | omega | (simp only [st_s] <;> omega) | assumption | omega | fail)⟩ : rg (u1_19 + 1)), ?_⟩
            exact ih_19 _ _ (show (1501 - (u1_19 + 1) : Int) < ((m_19 : Nat) : Int) from by ((first | omega | (simp only [st_s] <;> omega) | assumption | omega | fail))) hT (show τ_19.1 5 = σ.1 5 from by first | exact W5 | omega) (show τ_19.1 6 = σ.1 6 from by first | exact W6 | omega) (show τ_19.1 7 = σ.1 7 from by first | exact W7 | omega) (show τ_19.1 8 = σ.1 8 from by first | exact W8 | omega) (show τ_19.1 9 = σ.1 9 from by first | exact W9 | omega) (show τ_19.1 11 = σ.1 11 from by first | exact W11 | omega) G8 G10 G13 G14 G15 G16 G18 G19 G20 G21 G22 G25 G26 G28 (show 0 ≤ (u1_19 + 1) from by (first | omega | (simp only [st_s] <;> omega) | assumption | omega | fail)) (show (u1_19 + 1) ≤ (σ.1 5) from by (first | omega | (simp only [st_s] <;> omega) | assumption | omega | fail)) (show y_TT σ τ_19 (u1_19 + 1) (u1_19 + 1) from by (first | (refine ⟨⟨?_, ?_⟩, by omega, fun x a b => by exfalso; omega, fun x y a b c => by exfalso; omega⟩; (rw [show τ3.1 47 = 1 from by omega]; exact y_T_0 (Int.le_refl _)); (rw [show τ3.1 47 = 1 from by omega]; intro x a b; rw [show x = 0 from by omega]; exact ⟨Or.inl a79, Or.inl a80⟩)) | exact w18 | exact y_TT_m i19_3 i19_1 (fun q => by (have w := q.1.2; omega)) | exact y_TT_m i19_3 i19_1 (fun q => absurd (by assumption) (q9_2.mpr q.1.1)) | exact y_TT_m i19_3 i19_1 (fun q => q.2 (q14_2.mp (by assumption))) | fail)) (show y_Un σ (u1_19 + 1) (τ_19.1 48) (τ_19.2.1 84) from by (first | (rw [show τ3.1 48 = 0 from by omega]; exact ⟨fun k a b => by exfalso; omega, fun j k a b d => by exfalso; omega, fun r a b => by exfalso; omega⟩) | exact y_Un_n i19_4 (fun q => by (have w := q.1.2; omega)) | exact y_Un_n i19_4 (fun q => absurd (by assumption) (q9_2.mpr q.1.1)) | (rw [w48_τ20, g84_τ20]; exact y_Un_n i19_4 (fun q => absurd (by assumption) (q14_2.mpr q.2))) | exact y_Un_y i19_4 (by omega) i19_1 ⟨q9_2.mp (by assumption), by omega⟩ (q14_2.mp (by assumption)) | fail)) (show ∀ r : Int, (u1_19 + 1) ≤ r → r < (σ.1 5) → (τ_19.1 47) ≤ 1 + σ.2.1 14 r from by (first | (intro r a b; have w := i19_5 r (by omega) b; omega) | (intro r a b; have w := B14 r; omega) | (intro r a b; have w := (p1 u1_19 i19_1 (by omega)).2.2.2.2 r (by omega) b; omega) | fail))
          ·
            refine ⟨_, K_X13_isUnit hT (show 0 ≤ u1_19 from by (first | omega | (simp only [st_s] <;> omega) | assumption | omega | fail)) (show u1_19 < (τ_19.1 5) from by (first | omega | (simp only [st_s] <;> omega) | assumption | omega | fail)), ?_⟩
            intro x15 r_x15 hq
            obtain ⟨q14_1, q14_2⟩ := hq
            replace q14_1 : 0 ≤ x15 ∧ x15 ≤ 1 := q14_1
            replace q14_2 : ¬ x15 = 0 ↔ y_U τ_19 u1_19 := q14_2
            rw [sd6] at q14_2
            refine ⟨fun c17 => ?_, fun c17 => ?_⟩
            ·
              refine ⟨_, K_X13_treeRule hT (show 0 ≤ u1_19 from by (first | omega | (simp only [st_s] <;> omega) | assumption | omega | fail)) (show u1_19 < (τ_19.1 5) from by (first | omega | (simp only [st_s] <;> omega) | assumption | omega | fail)) (show y_RN τ_19 u1_19 from by exact ⟨⟨by (rw [sd1]; exact q9_2.mp (by assumption)), by (rw [G15]; omega)⟩, by (rw [sd6]; intro q; exact absurd (by assumption) (q14_2.mpr q))⟩) (show y_TT τ_19 τ_19 u1_19 u1_19 from by exact (y_TT_e SD).mpr i19_3) (show (τ_19.1 47) ≤ 1 + τ_19.2.1 14 u1_19 from by (rw [G14]; exact i19_5 u1_19 (Int.le_refl _) (by omega))) (show m_J τ_19 from by exact mj), ?_⟩
              intro τ20 hn_τ20 hf_τ20 hq
              obtain ⟨hT, q18_1, q18_2⟩ := hq
              replace q18_1 : y_TT τ_19 τ20 (u1_19 + 1) (u1_19 + 1) := q18_1
              replace q18_2 : (τ20.1 47) ≤ 1 + τ_19.2.1 14 u1_19 + τ_19.2.1 15 u1_19 := q18_2
              have w5_τ20 : τ20.1 5 = τ_19.1 5 := hf_τ20.1 5 (by decide)
              have w6_τ20 : τ20.1 6 = τ_19.1 6 := hf_τ20.1 6 (by decide)
              have w7_τ20 : τ20.1 7 = τ_19.1 7 := hf_τ20.1 7 (by decide)
              have w8_τ20 : τ20.1 8 = τ_19.1 8 := hf_τ20.1 8 (by decide)
              have w9_τ20 : τ20.1 9 = τ_19.1 9 := hf_τ20.1 9 (by decide)
              have w11_τ20 : τ20.1 11 = τ_19.1 11 := hf_τ20.1 11 (by decide)
              have w48_τ20 : τ20.1 48 = τ_19.1 48 := hf_τ20.1 48 (by decide)
              have w49_τ20 : τ20.1 49 = τ_19.1 49 := hf_τ20.1 49 (by decide)
              have g8_τ20 : τ20.2.1 8 = τ_19.2.1 8 := hf_τ20.2.1 8 (by decide)
              have g10_τ20 : τ20.2.1 10 = τ_19.2.1 10 := hf_τ20.2.1 10 (by decide)
              have g13_τ20 : τ20.2.1 13 = τ_19.2.1 13 := hf_τ20.2.1 13 (by decide)
              have g14_τ20 : τ20.2.1 14 = τ_19.2.1 14 := hf_τ20.2.1 14 (by decide)
              have g15_τ20 : τ20.2.1 15 = τ_19.2.1 15 := hf_τ20.2.1 15 (by decide)
              have g16_τ20 : τ20.2.1 16 = τ_19.2.1 16 := hf_τ20.2.1 16 (by decide)
              have g18_τ20 : τ20.2.1 18 = τ_19.2.1 18 := hf_τ20.2.1 18 (by decide)
              have g19_τ20 : τ20.2.1 19 = τ_19.2.1 19 := hf_τ20.2.1 19 (by decide)
              have g20_τ20 : τ20.2.1 20 = τ_19.2.1 20 := hf_τ20.2.1 20 (by decide)
              have g21_τ20 : τ20.2.1 21 = τ_19.2.1 21 := hf_τ20.2.1 21 (by decide)
              have g22_τ20 : τ20.2.1 22 = τ_19.2.1 22 := hf_τ20.2.1 22 (by decide)
              have g25_τ20 : τ20.2.1 25 = τ_19.2.1 25 := hf_τ20.2.1 25 (by decide)
              have g26_τ20 : τ20.2.1 26 = τ_19.2.1 26 := hf_τ20.2.1 26 (by decide)
              have g28_τ20 : τ20.2.1 28 = τ_19.2.1 28 := hf_τ20.2.1 28 (by decide)
              have g84_τ20 : τ20.2.1 84 = τ_19.2.1 84 := hf_τ20.2.1 84 (by decide)
              have W5 : τ20.1 5 = σ.1 5 := by first | exact w5_τ20.trans W5 | omega
              have W6 : τ20.1 6 = σ.1 6 := by first | exact w6_τ20.trans W6 | omega
              have W7 : τ20.1 7 = σ.1 7 := by first | exact w7_τ20.trans W7 | omega
              have W8 : τ20.1 8 = σ.1 8 := by first | exact w8_τ20.trans W8 | omega
              have W9 : τ20.1 9 = σ.1 9 := by first | exact w9_τ20.trans W9 | omega
              have W11 : τ20.1 11 = σ.1 11 := by first | exact w11_τ20.trans W11 | omega
              have G8 : τ20.2.1 8 = σ.2.1 8 := (g8_τ20).trans G8
              have G10 : τ20.2.1 10 = σ.2.1 10 := (g10_τ20).trans G10
              have G13 : τ20.2.1 13 = σ.2.1 13 := (g13_τ20).trans G13
              have G14 : τ20.2.1 14 = σ.2.1 14 := (g14_τ20).trans G14
              have G15 : τ20.2.1 15 = σ.2.1 15 := (g15_τ20).trans G15
              have G16 : τ20.2.1 16 = σ.2.1 16 := (g16_τ20).trans G16
              have G18 : τ20.2.1 18 = σ.2.1 18 := (g18_τ20).trans G18
              have G19 : τ20.2.1 19 = σ.2.1 19 := (g19_τ20).trans G19
              have G20 : τ20.2.1 20 = σ.2.1 20 := (g20_τ20).trans G20
              have G21 : τ20.2.1 21 = σ.2.1 21 := (g21_τ20).trans G21
              have G22 : τ20.2.1 22 = σ.2.1 22 := (g22_τ20).trans G22
              have G25 : τ20.2.1 25 = σ.2.1 25 := (g25_τ20).trans G25
              have G26 : τ20.2.1 26 = σ.2.1 26 := (g26_τ20).trans G26
              have G28 : τ20.2.1 28 = σ.2.1 28 := (g28_τ20).trans G28
              have A8 : ∀ j, 0 ≤ τ20.2.1 8 j ∧ τ20.2.1 8 j ≤ 1 := fun j => hT.2 8 j
              have A10 : ∀ j, (-1) ≤ τ20.2.1 10 j ∧ τ20.2.1 10 j ≤ 999 := fun j => hT.2 10 j
              have A13 : ∀ j, 0 ≤ τ20.2.1 13 j ∧ τ20.2.1 13 j ≤ 4 := fun j => hT.2 13 j
              have A14 : ∀ j, 0 ≤ τ20.2.1 14 j ∧ τ20.2.1 14 j ≤ 30000 := fun j => hT.2 14 j
              have A15 : ∀ j, 0 ≤ τ20.2.1 15 j ∧ τ20.2.1 15 j ≤ 300 := fun j => hT.2 15 j
              have A16 : ∀ j, 0 ≤ τ20.2.1 16 j ∧ τ20.2.1 16 j ≤ 999 := fun j => hT.2 16 j
              have A18 : ∀ j, 0 ≤ τ20.2.1 18 j ∧ τ20.2.1 18 j ≤ 90000 := fun j => hT.2 18 j
              have A19 : ∀ j, 0 ≤ τ20.2.1 19 j ∧ τ20.2.1 19 j ≤ 60 := fun j => hT.2 19 j
              have A20 : ∀ j, 0 ≤ τ20.2.1 20 j ∧ τ20.2.1 20 j ≤ 1499 := fun j => hT.2 20 j
              have A21 : ∀ j, 0 ≤ τ20.2.1 21 j ∧ τ20.2.1 21 j ≤ 20000 := fun j => hT.2 21 j
              have A22 : ∀ j, 0 ≤ τ20.2.1 22 j ∧ τ20.2.1 22 j ≤ 20000 := fun j => hT.2 22 j
              have A25 : ∀ j, 0 ≤ τ20.2.1 25 j ∧ τ20.2.1 25 j ≤ 20000 := fun j => hT.2 25 j
              have A26 : ∀ j, 0 ≤ τ20.2.1 26 j ∧ τ20.2.1 26 j ≤ 20000 := fun j => hT.2 26 j
              have A28 : ∀ j, 0 ≤ τ20.2.1 28 j ∧ τ20.2.1 28 j ≤ 1 := fun j => hT.2 28 j
              have A79 : ∀ j, (-1) ≤ τ20.2.1 79 j ∧ τ20.2.1 79 j ≤ 30001 := fun j => hT.2 79 j
              have A80 : ∀ j, (-1) ≤ τ20.2.1 80 j ∧ τ20.2.1 80 j ≤ 30001 := fun j => hT.2 80 j
              have A84 : ∀ j, 0 ≤ τ20.2.1 84 j ∧ τ20.2.1 84 j ≤ 1499 := fun j => hT.2 84 j
              have v5 : 0 ≤ τ20.1 5 ∧ τ20.1 5 ≤ 1500 := hT.1 5
              have v6 : 0 ≤ τ20.1 6 ∧ τ20.1 6 ≤ 30000 := hT.1 6
              have v7 : 0 ≤ τ20.1 7 ∧ τ20.1 7 ≤ 90000 := hT.1 7
              have v8 : 0 ≤ τ20.1 8 ∧ τ20.1 8 ≤ 20000 := hT.1 8
              have v9 : 0 ≤ τ20.1 9 ∧ τ20.1 9 ≤ 20000 := hT.1 9
              have v11 : (-1) ≤ τ20.1 11 ∧ τ20.1 11 ≤ 999 := hT.1 11
              have v47 : 0 ≤ τ20.1 47 ∧ τ20.1 47 ≤ 30001 := hT.1 47
              have v48 : 0 ≤ τ20.1 48 ∧ τ20.1 48 ≤ 1500 := hT.1 48
              have v49 : 0 ≤ τ20.1 49 ∧ τ20.1 49 ≤ 1 := hT.1 49
              have w18 := (y_TT_e SD).mp q18_1
              rw [SD.2.2.2.2.1, SD.2.2.2.2.2.1] at q18_2
              refine ⟨(⟨by (first | omega | (simp only [st_s] <;> omega) | assumption | omega | fail), by (first | omega | (simp only [st_s] <;> omega) | assumption | omega | fail)⟩ : rg (u1_19 + 1)), ?_⟩
              exact ih_19 _ _ (show (1501 - (u1_19 + 1) : Int) < ((m_19 : Nat) : Int) from by ((first | omega | (simp only [st_s] <;> omega) | assumption | omega | fail))) hT (show τ20.1 5 = σ.1 5 from by first | exact W5 | omega) (show τ20.1 6 = σ.1 6 from by first | exact W6 | omega) (show τ20.1 7 = σ.1 7 from by first | exact W7 | omega) (show τ20.1 8 = σ.1 8 from by first | exact W8 | omega) (show τ20.1 9 = σ.1 9 from by first | exact W9 | omega) (show τ20.1 11 = σ.1 11 from by first | exact W11 | omega) G8 G10 G13 G14 G15 G16 G18 G19 G20 G21 G22 G25 G26 G28 (show 0 ≤ (u1_19 + 1) from by (first | omega | (simp only [st_s] <;> omega) | assumption | omega | fail)) (show (u1_19 + 1) ≤ (σ.1 5) from by (first | omega | (simp only [st_s] <;> omega) | assumption | omega | fail)) (show y_TT σ τ20 (u1_19 + 1) (u1_19 + 1) from by (first | (refine ⟨⟨?_, ?_⟩, by omega, fun x a b => by exfalso; omega, fun x y a b c => by exfalso; omega⟩; (rw [show τ3.1 47 = 1 from by omega]; exact y_T_0 (Int.le_refl _)); (rw [show τ3.1 47 = 1 from by omega]; intro x a b; rw [show x = 0 from by omega]; exact ⟨Or.inl a79, Or.inl a80⟩)) | exact w18 | exact y_TT_m i19_3 i19_1 (fun q => by (have w := q.1.2; omega)) | exact y_TT_m i19_3 i19_1 (fun q => absurd (by assumption) (q9_2.mpr q.1.1)) | exact y_TT_m i19_3 i19_1 (fun q => q.2 (q14_2.mp (by assumption))) | fail)) (show y_Un σ (u1_19 + 1) (τ20.1 48) (τ20.2.1 84) from by (first | (rw [show τ3.1 48 = 0 from by omega]; exact ⟨fun k a b => by exfalso; omega, fun j k a b d => by exfalso; omega, fun r a b => by exfalso; omega⟩) | exact y_Un_n i19_4 (fun q => by (have w := q.1.2; omega)) | exact y_Un_n i19_4 (fun q => absurd (by assumption) (q9_2.mpr q.1.1)) | (rw [w48_τ20, g84_τ20]; exact y_Un_n i19_4 (fun q => absurd (by assumption) (q14_2.mpr q.2))) | exact y_Un_y i19_4 (by omega) i19_1 ⟨q9_2.mp (by assumption), by omega⟩ (q14_2.mp (by assumption)) | fail)) (show ∀ r : Int, (u1_19 + 1) ≤ r → r < (σ.1 5) → (τ20.1 47) ≤ 1 + σ.2.1 14 r from by (first | (intro r a b; have w := i19_5 r (by omega) b; omega) | (intro r a b; have w := B14 r; omega) | (intro r a b; have w := (p1 u1_19 i19_1 (by omega)).2.2.2.2 r (by omega) b; omega) | fail))
            ·
              refine ⟨(show 0 ≤ τ_19.1 48 ∧ τ_19.1 48 < 1501 from by (first | omega | (simp only [st_s] <;> omega) | assumption | omega | fail)), ?_⟩
              replace hT := mT_a (k := 84) (j := (τ_19.1 48)) hT (show (0 : Int) ≤ u1_19 ∧ u1_19 ≤ 1499 from by (first | omega | (simp only [st_s] <;> omega) | assumption | omega | fail))
              refine ⟨(⟨by (first | omega | (simp only [st_s] <;> omega) | assumption | omega | fail), by (first | omega | (simp only [st_s] <;> omega) | assumption | omega | fail)⟩ : rg (τ_19.1 48 + 1)), ?_⟩
              replace hT := mT_v (i := 48) hT (show 0 ≤ (τ_19.1 48 + 1) ∧ (τ_19.1 48 + 1) ≤ 1500 from by (first | omega | (simp only [st_s] <;> omega) | assumption | omega | fail))
              refine ⟨(⟨by (first | omega | (simp only [st_s] <;> omega) | assumption | omega | fail), by (first | omega | (simp only [st_s] <;> omega) | assumption | omega | fail)⟩ : rg (u1_19 + 1)), ?_⟩
              exact ih_19 _ _ (show (1501 - (u1_19 + 1) : Int) < ((m_19 : Nat) : Int) from by ((first | omega | (simp only [st_s] <;> omega) | assumption | omega | fail))) hT (show τ_19.1 5 = σ.1 5 from by first | exact W5 | omega) (show τ_19.1 6 = σ.1 6 from by first | exact W6 | omega) (show τ_19.1 7 = σ.1 7 from by first | exact W7 | omega) (show τ_19.1 8 = σ.1 8 from by first | exact W8 | omega) (show τ_19.1 9 = σ.1 9 from by first | exact W9 | omega) (show τ_19.1 11 = σ.1 11 from by first | exact W11 | omega) G8 G10 G13 G14 G15 G16 G18 G19 G20 G21 G22 G25 G26 G28 (show 0 ≤ (u1_19 + 1) from by (first | omega | (simp only [st_s] <;> omega) | assumption | omega | fail)) (show (u1_19 + 1) ≤ (σ.1 5) from by (first | omega | (simp only [st_s] <;> omega) | assumption | omega | fail)) (show y_TT σ (s_v (s_a τ_19 84 (τ_19.1 48) u1_19) 48 (τ_19.1 48 + 1)) (u1_19 + 1) (u1_19 + 1) from by (first | (refine ⟨⟨?_, ?_⟩, by omega, fun x a b => by exfalso; omega, fun x y a b c => by exfalso; omega⟩; (rw [show τ3.1 47 = 1 from by omega]; exact y_T_0 (Int.le_refl _)); (rw [show τ3.1 47 = 1 from by omega]; intro x a b; rw [show x = 0 from by omega]; exact ⟨Or.inl a79, Or.inl a80⟩)) | exact w18 | exact y_TT_m i19_3 i19_1 (fun q => by (have w := q.1.2; omega)) | exact y_TT_m i19_3 i19_1 (fun q => absurd (by assumption) (q9_2.mpr q.1.1)) | exact y_TT_m i19_3 i19_1 (fun q => q.2 (q14_2.mp (by assumption))) | fail)) (show y_Un σ (u1_19 + 1) ((τ_19.1 48 + 1)) ((st (τ_19.2.1 84) (τ_19.1 48) u1_19)) from by (first | (rw [show τ3.1 48 = 0 from by omega]; exact ⟨fun k a b => by exfalso; omega, fun j k a b d => by exfalso; omega, fun r a b => by exfalso; omega⟩) | exact y_Un_n i19_4 (fun q => by (have w := q.1.2; omega)) | exact y_Un_n i19_4 (fun q => absurd (by assumption) (q9_2.mpr q.1.1)) | (rw [w48_τ20, g84_τ20]; exact y_Un_n i19_4 (fun q => absurd (by assumption) (q14_2.mpr q.2))) | exact y_Un_y i19_4 (by omega) i19_1 ⟨q9_2.mp (by assumption), by omega⟩ (q14_2.mp (by assumption)) | fail)) (show ∀ r : Int, (u1_19 + 1) ≤ r → r < (σ.1 5) → (τ_19.1 47) ≤ 1 + σ.2.1 14 r from by (first | (intro r a b; have w := i19_5 r (by omega) b; omega) | (intro r a b; have w := B14 r; omega) | (intro r a b; have w := (p1 u1_19 i19_1 (by omega)).2.2.2.2 r (by omega) b; omega) | fail))
  replace hT := mT_v (i := 47) hT (show (0 : Int) ≤ 0 ∧ 0 ≤ 30001 from by (first | omega | (simp only [st_s] <;> omega) | assumption | omega | fail))
  replace hT := mT_v (i := 48) hT (show (0 : Int) ≤ 0 ∧ 0 ≤ 1500 from by (first | omega | (simp only [st_s] <;> omega) | assumption | omega | fail))
  refine ⟨_, K_X13_newRuleNode hT (show ((0 : Int)) ≤ 30000 from by (first | omega | (simp only [st_s] <;> omega) | assumption | omega | fail)) (show -1 ≤ (-1 : Int) from by (first | omega | (simp only [st_s] <;> omega) | assumption | omega | fail)) (show (-1 : Int) ≤ 30001 from by (first | omega | (simp only [st_s] <;> omega) | assumption | omega | fail)) (show -1001 ≤ (-1 : Int) from by (first | omega | (simp only [st_s] <;> omega) | assumption | omega | fail)) (show (-1 : Int) ≤ 999 from by (first | omega | (simp only [st_s] <;> omega) | assumption | omega | fail)), ?_⟩
  intro x2 τ3 r_x2 hn_τ3 hf_τ3 hq
  obtain ⟨hT, q1_1, q1_2, q1_3, q1_4, q1_5, q1_6, q1_7, q1_8, q1_9⟩ := hq
  replace q1_1 : x2 = ((0 : Int)) := q1_1
  replace q1_2 : (τ3.1 47) = ((0 : Int)) + 1 := q1_2
  replace q1_3 : τ3.2.1 77 = st (σ.2.1 77) ((0 : Int)) (-1 : Int) := q1_3
  replace q1_4 : τ3.2.1 78 = st (σ.2.1 78) ((0 : Int)) (-1 : Int) := q1_4
  replace q1_5 : τ3.2.1 79 = st (σ.2.1 79) ((0 : Int)) (-1) := q1_5
  replace q1_6 : τ3.2.1 80 = st (σ.2.1 80) ((0 : Int)) (-1) := q1_6
  replace q1_7 : τ3.2.1 81 = st (σ.2.1 81) ((0 : Int)) 1500 := q1_7
  replace q1_8 : τ3.2.1 82 = st (σ.2.1 82) ((0 : Int)) 1500 := q1_8
  replace q1_9 : τ3.2.1 83 = st (σ.2.1 83) ((0 : Int)) 1500 := q1_9
  have w5_τ3 : τ3.1 5 = σ.1 5 := hf_τ3.1 5 (by decide)
  have w6_τ3 : τ3.1 6 = σ.1 6 := hf_τ3.1 6 (by decide)
  have w7_τ3 : τ3.1 7 = σ.1 7 := hf_τ3.1 7 (by decide)
  have w8_τ3 : τ3.1 8 = σ.1 8 := hf_τ3.1 8 (by decide)
  have w9_τ3 : τ3.1 9 = σ.1 9 := hf_τ3.1 9 (by decide)
  have w11_τ3 : τ3.1 11 = σ.1 11 := hf_τ3.1 11 (by decide)
  have w48_τ3 : τ3.1 48 = 0 := hf_τ3.1 48 (by decide)
  have w49_τ3 : τ3.1 49 = σ.1 49 := hf_τ3.1 49 (by decide)
  have g8_τ3 : τ3.2.1 8 = σ.2.1 8 := hf_τ3.2.1 8 (by decide)
  have g10_τ3 : τ3.2.1 10 = σ.2.1 10 := hf_τ3.2.1 10 (by decide)
  have g13_τ3 : τ3.2.1 13 = σ.2.1 13 := hf_τ3.2.1 13 (by decide)
  have g14_τ3 : τ3.2.1 14 = σ.2.1 14 := hf_τ3.2.1 14 (by decide)
  have g15_τ3 : τ3.2.1 15 = σ.2.1 15 := hf_τ3.2.1 15 (by decide)
  have g16_τ3 : τ3.2.1 16 = σ.2.1 16 := hf_τ3.2.1 16 (by decide)
  have g18_τ3 : τ3.2.1 18 = σ.2.1 18 := hf_τ3.2.1 18 (by decide)
  have g19_τ3 : τ3.2.1 19 = σ.2.1 19 := hf_τ3.2.1 19 (by decide)
  have g20_τ3 : τ3.2.1 20 = σ.2.1 20 := hf_τ3.2.1 20 (by decide)
  have g21_τ3 : τ3.2.1 21 = σ.2.1 21 := hf_τ3.2.1 21 (by decide)
  have g22_τ3 : τ3.2.1 22 = σ.2.1 22 := hf_τ3.2.1 22 (by decide)
  have g25_τ3 : τ3.2.1 25 = σ.2.1 25 := hf_τ3.2.1 25 (by decide)
  have g26_τ3 : τ3.2.1 26 = σ.2.1 26 := hf_τ3.2.1 26 (by decide)
  have g28_τ3 : τ3.2.1 28 = σ.2.1 28 := hf_τ3.2.1 28 (by decide)
  have g84_τ3 : τ3.2.1 84 = σ.2.1 84 := hf_τ3.2.1 84 (by decide)
  have W5 : τ3.1 5 = σ.1 5 := by first | exact w5_τ3.trans W5 | omega
  have W6 : τ3.1 6 = σ.1 6 := by first | exact w6_τ3.trans W6 | omega
  have W7 : τ3.1 7 = σ.1 7 := by first | exact w7_τ3.trans W7 | omega
  have W8 : τ3.1 8 = σ.1 8 := by first | exact w8_τ3.trans W8 | omega
  have W9 : τ3.1 9 = σ.1 9 := by first | exact w9_τ3.trans W9 | omega
  have W11 : τ3.1 11 = σ.1 11 := by first | exact w11_τ3.trans W11 | omega
  have G8 : τ3.2.1 8 = σ.2.1 8 := (g8_τ3).trans G8
  have G10 : τ3.2.1 10 = σ.2.1 10 := (g10_τ3).trans G10
  have G13 : τ3.2.1 13 = σ.2.1 13 := (g13_τ3).trans G13
  have G14 : τ3.2.1 14 = σ.2.1 14 := (g14_τ3).trans G14
  have G15 : τ3.2.1 15 = σ.2.1 15 := (g15_τ3).trans G15
  have G16 : τ3.2.1 16 = σ.2.1 16 := (g16_τ3).trans G16
  have G18 : τ3.2.1 18 = σ.2.1 18 := (g18_τ3).trans G18
  have G19 : τ3.2.1 19 = σ.2.1 19 := (g19_τ3).trans G19
  have G20 : τ3.2.1 20 = σ.2.1 20 := (g20_τ3).trans G20
  have G21 : τ3.2.1 21 = σ.2.1 21 := (g21_τ3).trans G21
  have G22 : τ3.2.1 22 = σ.2.1 22 := (g22_τ3).trans G22
  have G25 : τ3.2.1 25 = σ.2.1 25 := (g25_τ3).trans G25
  have G26 : τ3.2.1 26 = σ.2.1 26 := (g26_τ3).trans G26
  have G28 : τ3.2.1 28 = σ.2.1 28 := (g28_τ3).trans G28
  have A8 : ∀ j, 0 ≤ τ3.2.1 8 j ∧ τ3.2.1 8 j ≤ 1 := fun j => hT.2 8 j
  have A10 : ∀ j, (-1) ≤ τ3.2.1 10 j ∧ τ3.2.1 10 j ≤ 999 := fun j => hT.2 10 j
  have A13 : ∀ j, 0 ≤ τ3.2.1 13 j ∧ τ3.2.1 13 j ≤ 4 := fun j => hT.2 13 j
  have A14 : ∀ j, 0 ≤ τ3.2.1 14 j ∧ τ3.2.1 14 j ≤ 30000 := fun j => hT.2 14 j
  have A15 : ∀ j, 0 ≤ τ3.2.1 15 j ∧ τ3.2.1 15 j ≤ 300 := fun j => hT.2 15 j
  have A16 : ∀ j, 0 ≤ τ3.2.1 16 j ∧ τ3.2.1 16 j ≤ 999 := fun j => hT.2 16 j
  have A18 : ∀ j, 0 ≤ τ3.2.1 18 j ∧ τ3.2.1 18 j ≤ 90000 := fun j => hT.2 18 j
  have A19 : ∀ j, 0 ≤ τ3.2.1 19 j ∧ τ3.2.1 19 j ≤ 60 := fun j => hT.2 19 j
  have A20 : ∀ j, 0 ≤ τ3.2.1 20 j ∧ τ3.2.1 20 j ≤ 1499 := fun j => hT.2 20 j
  have A21 : ∀ j, 0 ≤ τ3.2.1 21 j ∧ τ3.2.1 21 j ≤ 20000 := fun j => hT.2 21 j
  have A22 : ∀ j, 0 ≤ τ3.2.1 22 j ∧ τ3.2.1 22 j ≤ 20000 := fun j => hT.2 22 j
  have A25 : ∀ j, 0 ≤ τ3.2.1 25 j ∧ τ3.2.1 25 j ≤ 20000 := fun j => hT.2 25 j
  have A26 : ∀ j, 0 ≤ τ3.2.1 26 j ∧ τ3.2.1 26 j ≤ 20000 := fun j => hT.2 26 j
  have A28 : ∀ j, 0 ≤ τ3.2.1 28 j ∧ τ3.2.1 28 j ≤ 1 := fun j => hT.2 28 j
  have A79 : ∀ j, (-1) ≤ τ3.2.1 79 j ∧ τ3.2.1 79 j ≤ 30001 := fun j => hT.2 79 j
  have A80 : ∀ j, (-1) ≤ τ3.2.1 80 j ∧ τ3.2.1 80 j ≤ 30001 := fun j => hT.2 80 j
  have A84 : ∀ j, 0 ≤ τ3.2.1 84 j ∧ τ3.2.1 84 j ≤ 1499 := fun j => hT.2 84 j
  have v5 : 0 ≤ τ3.1 5 ∧ τ3.1 5 ≤ 1500 := hT.1 5
  have v6 : 0 ≤ τ3.1 6 ∧ τ3.1 6 ≤ 30000 := hT.1 6
  have v7 : 0 ≤ τ3.1 7 ∧ τ3.1 7 ≤ 90000 := hT.1 7
  have v8 : 0 ≤ τ3.1 8 ∧ τ3.1 8 ≤ 20000 := hT.1 8
  have v9 : 0 ≤ τ3.1 9 ∧ τ3.1 9 ≤ 20000 := hT.1 9
  have v11 : (-1) ≤ τ3.1 11 ∧ τ3.1 11 ≤ 999 := hT.1 11
  have v47 : 0 ≤ τ3.1 47 ∧ τ3.1 47 ≤ 30001 := hT.1 47
  have v48 : 0 ≤ τ3.1 48 ∧ τ3.1 48 ≤ 1500 := hT.1 48
  have v49 : 0 ≤ τ3.1 49 ∧ τ3.1 49 ≤ 1 := hT.1 49
  have a79 : τ3.2.1 79 0 = -1 := by (rw [q1_5]; exact st_s _ _ _)
  have a80 : τ3.2.1 80 0 = -1 := by (rw [q1_6]; exact st_s _ _ _)
  exact l_19 ((1501 - 0 : Int).toNat + 1) _ _ (show (1501 - 0 : Int) < (((1501 - 0 : Int).toNat + 1 : Nat) : Int) from by ((first | omega | (simp only [st_s] <;> omega) | assumption | omega | fail))) hT (show τ3.1 5 = σ.1 5 from by first | exact W5 | omega) (show τ3.1 6 = σ.1 6 from by first | exact W6 | omega) (show τ3.1 7 = σ.1 7 from by first | exact W7 | omega) (show τ3.1 8 = σ.1 8 from by first | exact W8 | omega) (show τ3.1 9 = σ.1 9 from by first | exact W9 | omega) (show τ3.1 11 = σ.1 11 from by first | exact W11 | omega) G8 G10 G13 G14 G15 G16 G18 G19 G20 G21 G22 G25 G26 G28 (show 0 ≤ 0 from by (first | omega | (simp only [st_s] <;> omega) | assumption | omega | fail)) (show 0 ≤ (σ.1 5) from by (first | omega | (simp only [st_s] <;> omega) | assumption | omega | fail)) (show y_TT σ τ3 0 0 from by (first | (refine ⟨⟨?_, ?_⟩, by omega, fun x a b => by exfalso; omega, fun x y a b c => by exfalso; omega⟩; (rw [show τ3.1 47 = 1 from by omega]; exact y_T_0 (Int.le_refl _)); (rw [show τ3.1 47 = 1 from by omega]; intro x a b; rw [show x = 0 from by omega]; exact ⟨Or.inl a79, Or.inl a80⟩)) | exact w18 | exact y_TT_m i19_3 i19_1 (fun q => by (have w := q.1.2; omega)) | exact y_TT_m i19_3 i19_1 (fun q => absurd (by assumption) (q9_2.mpr q.1.1)) | exact y_TT_m i19_3 i19_1 (fun q => q.2 (q14_2.mp (by assumption))) | fail)) (show y_Un σ 0 (τ3.1 48) (τ3.2.1 84) from by (first | (rw [show τ3.1 48 = 0 from by omega]; exact ⟨fun k a b => by exfalso; omega, fun j k a b d => by exfalso; omega, fun r a b => by exfalso; omega⟩) | exact y_Un_n i19_4 (fun q => by (have w := q.1.2; omega)) | exact y_Un_n i19_4 (fun q => absurd (by assumption) (q9_2.mpr q.1.1)) | (rw [w48_τ20, g84_τ20]; exact y_Un_n i19_4 (fun q => absurd (by assumption) (q14_2.mpr q.2))) | exact y_Un_y i19_4 (by omega) i19_1 ⟨q9_2.mp (by assumption), by omega⟩ (q14_2.mp (by assumption)) | fail)) (show ∀ r : Int, 0 ≤ r → r < (σ.1 5) → (τ3.1 47) ≤ 1 + σ.2.1 14 r from by (first | (intro r a b; have w := i19_5 r (by omega) b; omega) | (intro r a b; have w := B14 r; omega) | (intro r a b; have w := (p1 u1_19 i19_1 (by omega)).2.2.2.2 r (by omega) b; omega) | fail))
