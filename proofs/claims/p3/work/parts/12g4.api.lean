
set_option maxHeartbeats 4000000 in
theorem K_X13_trees {n1 : Int} {σ : S0} (hT : m_T σ) (p1 : -2147483648 ≤ n1 ∧ n1 ≤ 2147483647) (p2 : ca (σ.2.1 12) ((σ.1 3)) ≤ (σ.1 4)) (p3 : n_J σ) (p4 : m_J σ) (p5 : (σ.1 10) < (σ.1 3)) (p6 : (σ.1 49) = 0 ∨ (y_TT σ σ (σ.1 5) (σ.1 5) ∧ y_Un σ (σ.1 5) (σ.1 48) (σ.2.1 84))) (p7 : (σ.1 51) ≤ 47000) (p8 : (σ.1 52) ≤ 88000) (p9 : y_CT σ) : W_X13_trees n1 σ (fun (x : Int) (τ : S0) => (m_T τ) ∧ (y_CT τ) ∧ (((τ.1 49) = 0 ∨ (y_TT τ τ (σ.1 5) (σ.1 5) ∧ y_Un τ (σ.1 5) (τ.1 48) (τ.2.1 84)))) ∧ ((τ.1 51) = (σ.1 51) ∧ (τ.1 52) = (σ.1 52)) ∧ (y_KC σ τ)) := by
  have A8 : ∀ j, 0 ≤ σ.2.1 8 j ∧ σ.2.1 8 j ≤ 1 := fun j => hT.2 8 j
  have A10 : ∀ j, (-1) ≤ σ.2.1 10 j ∧ σ.2.1 10 j ≤ 999 := fun j => hT.2 10 j
  have A12 : ∀ j, 0 ≤ σ.2.1 12 j ∧ σ.2.1 12 j ≤ 1 := fun j => hT.2 12 j
  have A13 : ∀ j, 0 ≤ σ.2.1 13 j ∧ σ.2.1 13 j ≤ 4 := fun j => hT.2 13 j
  have A14 : ∀ j, 0 ≤ σ.2.1 14 j ∧ σ.2.1 14 j ≤ 30000 := fun j => hT.2 14 j
  have A15 : ∀ j, 0 ≤ σ.2.1 15 j ∧ σ.2.1 15 j ≤ 300 := fun j => hT.2 15 j
  have A16 : ∀ j, 0 ≤ σ.2.1 16 j ∧ σ.2.1 16 j ≤ 999 := fun j => hT.2 16 j
  have A17 : ∀ j, (-1) ≤ σ.2.1 17 j ∧ σ.2.1 17 j ≤ 1499 := fun j => hT.2 17 j
  have A18 : ∀ j, 0 ≤ σ.2.1 18 j ∧ σ.2.1 18 j ≤ 90000 := fun j => hT.2 18 j
  have A19 : ∀ j, 0 ≤ σ.2.1 19 j ∧ σ.2.1 19 j ≤ 60 := fun j => hT.2 19 j
  have A20 : ∀ j, 0 ≤ σ.2.1 20 j ∧ σ.2.1 20 j ≤ 1499 := fun j => hT.2 20 j
  have A86 : ∀ j, (-1500) ≤ σ.2.1 86 j ∧ σ.2.1 86 j ≤ 1499 := fun j => hT.2 86 j
  have A87 : ∀ j, 0 ≤ σ.2.1 87 j ∧ σ.2.1 87 j ≤ 120000 := fun j => hT.2 87 j
  have A88 : ∀ j, 0 ≤ σ.2.1 88 j ∧ σ.2.1 88 j ≤ 59 := fun j => hT.2 88 j
  have A89 : ∀ j, 0 ≤ σ.2.1 89 j ∧ σ.2.1 89 j ≤ 59 := fun j => hT.2 89 j
  have A90 : ∀ j, (-1) ≤ σ.2.1 90 j ∧ σ.2.1 90 j ≤ 99 := fun j => hT.2 90 j
  have A91 : ∀ j, 0 ≤ σ.2.1 91 j ∧ σ.2.1 91 j ≤ 60000 := fun j => hT.2 91 j
  have A94 : ∀ j, (-1) ≤ σ.2.1 94 j ∧ σ.2.1 94 j ≤ 2 := fun j => hT.2 94 j
  have A95 : ∀ j, (-9) ≤ σ.2.1 95 j ∧ σ.2.1 95 j ≤ 1499 := fun j => hT.2 95 j
  have A96 : ∀ j, 0 ≤ σ.2.1 96 j ∧ σ.2.1 96 j ≤ 1 := fun j => hT.2 96 j
  have v3 : 0 ≤ σ.1 3 ∧ σ.1 3 ≤ 1000 := hT.1 3
  have v4 : 0 ≤ σ.1 4 ∧ σ.1 4 ≤ 100 := hT.1 4
  have v5 : 0 ≤ σ.1 5 ∧ σ.1 5 ≤ 1500 := hT.1 5
  have v10 : (-1) ≤ σ.1 10 ∧ σ.1 10 ≤ 999 := hT.1 10
  have v11 : (-1) ≤ σ.1 11 ∧ σ.1 11 ≤ 999 := hT.1 11
  have v48 : 0 ≤ σ.1 48 ∧ σ.1 48 ≤ 1500 := hT.1 48
  have v49 : 0 ≤ σ.1 49 ∧ σ.1 49 ≤ 1 := hT.1 49
  have v51 : 0 ≤ σ.1 51 ∧ σ.1 51 ≤ 60000 := hT.1 51
  have v52 : 0 ≤ σ.1 52 ∧ σ.1 52 ≤ 120000 := hT.1 52
  have W3 : σ.1 3 = σ.1 3 := rfl
  have W4 : σ.1 4 = σ.1 4 := rfl
  have W5 : σ.1 5 = σ.1 5 := rfl
  have W10 : σ.1 10 = σ.1 10 := rfl
  have W11 : σ.1 11 = σ.1 11 := rfl
  have G8 : σ.2.1 8 = σ.2.1 8 := rfl
  have G10 : σ.2.1 10 = σ.2.1 10 := rfl
  have G12 : σ.2.1 12 = σ.2.1 12 := rfl
  have G13 : σ.2.1 13 = σ.2.1 13 := rfl
  have G14 : σ.2.1 14 = σ.2.1 14 := rfl
  have G15 : σ.2.1 15 = σ.2.1 15 := rfl
  have G16 : σ.2.1 16 = σ.2.1 16 := rfl
  have G17 : σ.2.1 17 = σ.2.1 17 := rfl
  have G18 : σ.2.1 18 = σ.2.1 18 := rfl
  have G19 : σ.2.1 19 = σ.2.1 19 := rfl
  have G20 : σ.2.1 20 = σ.2.1 20 := rfl
  have G95 : σ.2.1 95 = σ.2.1 95 := rfl
  have G96 : σ.2.1 96 = σ.2.1 96 := rfl
  have Y20 : ca (σ.2.1 12) ((σ.1 3)) ≤ (σ.1 4) := p2
  have Y20_0 := Y20
  unfold W_X13_trees
  refine ⟨_, K_X13_isStatement hT (show -2147483648 ≤ n1 ∧ n1 ≤ 2147483647 from by (first | omega | (simp only [st_s] <;> omega) | assumption | omega | fail)), ?_⟩
  intro x2 r_x2 hq
  obtain ⟨q1_1, q1_2⟩ := hq
  replace q1_1 : 0 ≤ x2 ∧ x2 ≤ 1 := q1_1
  replace q1_2 : ¬ x2 = 0 → 0 ≤ n1 ∧ n1 < (σ.1 5) := q1_2
  refine ⟨fun c4 => ?_, fun c4 => ?_⟩
  ·
    refine ⟨(show 0 ≤ n1 ∧ n1 < 1501 from by (first | omega | (simp only [st_s] <;> omega) | assumption | omega | fail)), ?_⟩
    intro x6 r_x6 e_x6
    have b_x6 : 0 ≤ x6 ∧ x6 ≤ 300 := by rw [e_x6]; exact hT.2 15 _
    refine ⟨fun c7 => ?_, fun c7 => ?_⟩
    ·
      refine ⟨_, K_X13_countTrees hT (show 0 ≤ n1 from by (first | omega | (simp only [st_s] <;> omega) | assumption | omega | fail)) (show n1 < (σ.1 5) from by (first | omega | (simp only [st_s] <;> omega) | assumption | omega | fail)) (show σ.2.1 15 n1 ≤ 60 from by (first | omega | (simp only [st_s] <;> omega) | assumption | omega | fail)) (show ca (σ.2.1 12) ((σ.1 3)) ≤ (σ.1 4) from Y20) (show n_J σ from by (first | omega | (simp only [st_s] <;> omega) | assumption | omega | fail)) (show m_J σ from by (first | omega | (simp only [st_s] <;> omega) | assumption | omega | fail)) (show (σ.1 10) < (σ.1 3) from by (first | omega | (simp only [st_s] <;> omega) | assumption | omega | fail)) (show (σ.1 49) = 0 ∨ (y_TT σ σ (σ.1 5) (σ.1 5) ∧ y_Un σ (σ.1 5) (σ.1 48) (σ.2.1 84)) from by (first | omega | (simp only [st_s] <;> omega) | assumption | omega | fail)) (show (σ.1 51) ≤ 47000 from by (first | omega | (simp only [st_s] <;> omega) | assumption | omega | fail)) (show (σ.1 52) ≤ 88000 from by (first | omega | (simp only [st_s] <;> omega) | assumption | omega | fail)) (show y_CT σ from by (first | omega | (simp only [st_s] <;> omega) | assumption | omega | fail)), ?_⟩
      intro x9 τ10 r_x9 hn_τ10 hf_τ10 hq
      obtain ⟨hT, q8_1, q8_2, q8_3, q8_4, q8_5, q8_6, q8_7, q8_8, q8_9⟩ := hq
      replace q8_1 : y_CT τ10 := q8_1
      replace q8_2 : τ10.2.1 94 n1 = x9 ∧ 0 ≤ x9 ∧ x9 ≤ 2 := q8_2
      replace q8_3 : ((τ10.1 49) = 0 ∨ (y_TT τ10 τ10 (σ.1 5) (σ.1 5) ∧ y_Un τ10 (σ.1 5) (τ10.1 48) (τ10.2.1 84))) := q8_3
      replace q8_4 : (τ10.1 51) = (σ.1 51) ∧ (τ10.1 52) = (σ.1 52) := q8_4
      replace q8_5 : ∀ y : Int, y < (σ.1 51) → (τ10.2.1 86 y = σ.2.1 86 y ∧ τ10.2.1 87 y = σ.2.1 87 y) ∧ τ10.2.1 88 y = σ.2.1 88 y ∧ τ10.2.1 89 y = σ.2.1 89 y ∧ τ10.2.1 90 y = σ.2.1 90 y := q8_5
      replace q8_6 : ∀ e : Int, e < (σ.1 52) → τ10.2.1 91 e = σ.2.1 91 e := q8_6
      replace q8_7 : ∀ k : Int, ¬ (24 * n1 ≤ k ∧ k < 24 * n1 + 24) → τ10.2.2 7 k = σ.2.2 7 k := q8_7
      replace q8_8 : ∀ i : Int, ¬ i = n1 → τ10.2.1 94 i = σ.2.1 94 i := q8_8
      replace q8_9 : ¬ σ.2.1 94 n1 = -1 → τ10 = σ := q8_9
      have w3_τ10 : τ10.1 3 = σ.1 3 := hf_τ10.1 3 (by decide)
      have w4_τ10 : τ10.1 4 = σ.1 4 := hf_τ10.1 4 (by decide)
      have w5_τ10 : τ10.1 5 = σ.1 5 := hf_τ10.1 5 (by decide)
      have w10_τ10 : τ10.1 10 = σ.1 10 := hf_τ10.1 10 (by decide)
      have w11_τ10 : τ10.1 11 = σ.1 11 := hf_τ10.1 11 (by decide)
      have g8_τ10 : τ10.2.1 8 = σ.2.1 8 := hf_τ10.2.1 8 (by decide)
      have g10_τ10 : τ10.2.1 10 = σ.2.1 10 := hf_τ10.2.1 10 (by decide)
      have g12_τ10 : τ10.2.1 12 = σ.2.1 12 := hf_τ10.2.1 12 (by decide)
      have g13_τ10 : τ10.2.1 13 = σ.2.1 13 := hf_τ10.2.1 13 (by decide)
      have g14_τ10 : τ10.2.1 14 = σ.2.1 14 := hf_τ10.2.1 14 (by decide)
      have g15_τ10 : τ10.2.1 15 = σ.2.1 15 := hf_τ10.2.1 15 (by decide)
      have g16_τ10 : τ10.2.1 16 = σ.2.1 16 := hf_τ10.2.1 16 (by decide)
      have g17_τ10 : τ10.2.1 17 = σ.2.1 17 := hf_τ10.2.1 17 (by decide)
      have g18_τ10 : τ10.2.1 18 = σ.2.1 18 := hf_τ10.2.1 18 (by decide)
      have g19_τ10 : τ10.2.1 19 = σ.2.1 19 := hf_τ10.2.1 19 (by decide)
      have g20_τ10 : τ10.2.1 20 = σ.2.1 20 := hf_τ10.2.1 20 (by decide)
      have g95_τ10 : τ10.2.1 95 = σ.2.1 95 := hf_τ10.2.1 95 (by decide)
      have g96_τ10 : τ10.2.1 96 = σ.2.1 96 := hf_τ10.2.1 96 (by decide)
      have W3 : τ10.1 3 = σ.1 3 := by first | exact w3_τ10.trans W3 | omega
      have W4 : τ10.1 4 = σ.1 4 := by first | exact w4_τ10.trans W4 | omega
      have W5 : τ10.1 5 = σ.1 5 := by first | exact w5_τ10.trans W5 | omega
      have W10 : τ10.1 10 = σ.1 10 := by first | exact w10_τ10.trans W10 | omega
      have W11 : τ10.1 11 = σ.1 11 := by first | exact w11_τ10.trans W11 | omega
      have G8 : τ10.2.1 8 = σ.2.1 8 := (g8_τ10).trans G8
      have G10 : τ10.2.1 10 = σ.2.1 10 := (g10_τ10).trans G10
      have G12 : τ10.2.1 12 = σ.2.1 12 := (g12_τ10).trans G12
      have G13 : τ10.2.1 13 = σ.2.1 13 := (g13_τ10).trans G13
      have G14 : τ10.2.1 14 = σ.2.1 14 := (g14_τ10).trans G14
      have G15 : τ10.2.1 15 = σ.2.1 15 := (g15_τ10).trans G15
      have G16 : τ10.2.1 16 = σ.2.1 16 := (g16_τ10).trans G16
      have G17 : τ10.2.1 17 = σ.2.1 17 := (g17_τ10).trans G17
      have G18 : τ10.2.1 18 = σ.2.1 18 := (g18_τ10).trans G18
      have G19 : τ10.2.1 19 = σ.2.1 19 := (g19_τ10).trans G19
      have G20 : τ10.2.1 20 = σ.2.1 20 := (g20_τ10).trans G20
      have G95 : τ10.2.1 95 = σ.2.1 95 := (g95_τ10).trans G95
      have G96 : τ10.2.1 96 = σ.2.1 96 := (g96_τ10).trans G96
      have Y20 : ca (τ10.2.1 12) ((τ10.1 3)) ≤ (τ10.1 4) := by rw [show (ca (τ10.2.1 12) ((τ10.1 3)) ≤ (τ10.1 4)) = (ca (σ.2.1 12) ((σ.1 3)) ≤ (σ.1 4)) from by rw [w3_τ10, w4_τ10, g12_τ10]]; exact Y20
      have A8 : ∀ j, 0 ≤ τ10.2.1 8 j ∧ τ10.2.1 8 j ≤ 1 := fun j => hT.2 8 j
      have A10 : ∀ j, (-1) ≤ τ10.2.1 10 j ∧ τ10.2.1 10 j ≤ 999 := fun j => hT.2 10 j
      have A12 : ∀ j, 0 ≤ τ10.2.1 12 j ∧ τ10.2.1 12 j ≤ 1 := fun j => hT.2 12 j
      have A13 : ∀ j, 0 ≤ τ10.2.1 13 j ∧ τ10.2.1 13 j ≤ 4 := fun j => hT.2 13 j
      have A14 : ∀ j, 0 ≤ τ10.2.1 14 j ∧ τ10.2.1 14 j ≤ 30000 := fun j => hT.2 14 j
      have A15 : ∀ j, 0 ≤ τ10.2.1 15 j ∧ τ10.2.1 15 j ≤ 300 := fun j => hT.2 15 j
      have A16 : ∀ j, 0 ≤ τ10.2.1 16 j ∧ τ10.2.1 16 j ≤ 999 := fun j => hT.2 16 j
      have A17 : ∀ j, (-1) ≤ τ10.2.1 17 j ∧ τ10.2.1 17 j ≤ 1499 := fun j => hT.2 17 j
      have A18 : ∀ j, 0 ≤ τ10.2.1 18 j ∧ τ10.2.1 18 j ≤ 90000 := fun j => hT.2 18 j
      have A19 : ∀ j, 0 ≤ τ10.2.1 19 j ∧ τ10.2.1 19 j ≤ 60 := fun j => hT.2 19 j
      have A20 : ∀ j, 0 ≤ τ10.2.1 20 j ∧ τ10.2.1 20 j ≤ 1499 := fun j => hT.2 20 j
      have A86 : ∀ j, (-1500) ≤ τ10.2.1 86 j ∧ τ10.2.1 86 j ≤ 1499 := fun j => hT.2 86 j
      have A87 : ∀ j, 0 ≤ τ10.2.1 87 j ∧ τ10.2.1 87 j ≤ 120000 := fun j => hT.2 87 j
      have A88 : ∀ j, 0 ≤ τ10.2.1 88 j ∧ τ10.2.1 88 j ≤ 59 := fun j => hT.2 88 j
      have A89 : ∀ j, 0 ≤ τ10.2.1 89 j ∧ τ10.2.1 89 j ≤ 59 := fun j => hT.2 89 j
      have A90 : ∀ j, (-1) ≤ τ10.2.1 90 j ∧ τ10.2.1 90 j ≤ 99 := fun j => hT.2 90 j
      have A91 : ∀ j, 0 ≤ τ10.2.1 91 j ∧ τ10.2.1 91 j ≤ 60000 := fun j => hT.2 91 j
      have A94 : ∀ j, (-1) ≤ τ10.2.1 94 j ∧ τ10.2.1 94 j ≤ 2 := fun j => hT.2 94 j
      have A95 : ∀ j, (-9) ≤ τ10.2.1 95 j ∧ τ10.2.1 95 j ≤ 1499 := fun j => hT.2 95 j
      have A96 : ∀ j, 0 ≤ τ10.2.1 96 j ∧ τ10.2.1 96 j ≤ 1 := fun j => hT.2 96 j
      have v3 : 0 ≤ τ10.1 3 ∧ τ10.1 3 ≤ 1000 := hT.1 3
      have v4 : 0 ≤ τ10.1 4 ∧ τ10.1 4 ≤ 100 := hT.1 4
      have v5 : 0 ≤ τ10.1 5 ∧ τ10.1 5 ≤ 1500 := hT.1 5
      have v10 : (-1) ≤ τ10.1 10 ∧ τ10.1 10 ≤ 999 := hT.1 10
      have v11 : (-1) ≤ τ10.1 11 ∧ τ10.1 11 ≤ 999 := hT.1 11
      have v48 : 0 ≤ τ10.1 48 ∧ τ10.1 48 ≤ 1500 := hT.1 48
      have v49 : 0 ≤ τ10.1 49 ∧ τ10.1 49 ≤ 1 := hT.1 49
      have v51 : 0 ≤ τ10.1 51 ∧ τ10.1 51 ≤ 60000 := hT.1 51
      have v52 : 0 ≤ τ10.1 52 ∧ τ10.1 52 ≤ 120000 := hT.1 52
      exact ⟨hT, (show y_CT τ10 from by (first | exact p9 | exact q8_1 | fail)), (show ((τ10.1 49) = 0 ∨ (y_TT τ10 τ10 (σ.1 5) (σ.1 5) ∧ y_Un τ10 (σ.1 5) (τ10.1 48) (τ10.2.1 84))) from by (first | exact p6 | exact q8_3 | fail)), (show (τ10.1 51) = (σ.1 51) ∧ (τ10.1 52) = (σ.1 52) from by (first | exact ⟨rfl, rfl⟩ | exact q8_4 | fail)), (show y_KC σ τ10 from by (first | exact y_KC_0 σ | exact y_KC_c q8_7 q8_8 q8_9 | fail))⟩
    ·
      exact ⟨hT, (show y_CT σ from by (first | exact p9 | exact q8_1 | fail)), (show ((σ.1 49) = 0 ∨ (y_TT σ σ (σ.1 5) (σ.1 5) ∧ y_Un σ (σ.1 5) (σ.1 48) (σ.2.1 84))) from by (first | exact p6 | exact q8_3 | fail)), (show (σ.1 51) = (σ.1 51) ∧ (σ.1 52) = (σ.1 52) from by (first | exact ⟨rfl, rfl⟩ | exact q8_4 | fail)), (show y_KC σ σ from by (first | exact y_KC_0 σ | exact y_KC_c q8_7 q8_8 q8_9 | fail))⟩
  ·
    exact ⟨hT, (show y_CT σ from by (first | exact p9 | exact q8_1 | fail)), (show ((σ.1 49) = 0 ∨ (y_TT σ σ (σ.1 5) (σ.1 5) ∧ y_Un σ (σ.1 5) (σ.1 48) (σ.2.1 84))) from by (first | exact p6 | exact q8_3 | fail)), (show (σ.1 51) = (σ.1 51) ∧ (σ.1 52) = (σ.1 52) from by (first | exact ⟨rfl, rfl⟩ | exact q8_4 | fail)), (show y_KC σ σ from by (first | exact y_KC_0 σ | exact y_KC_c q8_7 q8_8 q8_9 | fail))⟩
set_option maxHeartbeats 4000000 in
theorem K_X13_definitionOf {n1 : Int} {σ : S0} (hT : m_T σ) (p1 : 0 ≤ n1) (p2 : n1 < (σ.1 5)) (p3 : σ.2.1 15 n1 ≤ 60) (p4 : ca (σ.2.1 12) ((σ.1 3)) ≤ (σ.1 4)) (p5 : n_J σ) (p6 : m_J σ) (p7 : (σ.1 10) < (σ.1 3)) (p8 : (σ.1 49) = 0 ∨ (y_TT σ σ (σ.1 5) (σ.1 5) ∧ y_Un σ (σ.1 5) (σ.1 48) (σ.2.1 84))) (p9 : (σ.1 51) ≤ 47000) (p10 : (σ.1 52) ≤ 88000) (p11 : y_CT σ) (p12 : y_EQ σ) (p13 : y_DT σ) : W_X13_definitionOf n1 σ (fun (x : Int) (τ : S0) => (m_T τ) ∧ (y_CT τ) ∧ (((τ.1 49) = 0 ∨ (y_TT τ τ (σ.1 5) (σ.1 5) ∧ y_Un τ (σ.1 5) (τ.1 48) (τ.2.1 84)))) ∧ ((τ.1 51) = (σ.1 51) ∧ (τ.1 52) = (σ.1 52)) ∧ (y_KC σ τ) ∧ (y_DT τ) ∧ (τ.2.1 95 n1 = x ∧ ¬ x = -9) ∧ (∀ i : Int, ¬ i = n1 → τ.2.1 95 i = σ.2.1 95 i) ∧ (¬ σ.2.1 95 n1 = -9 → τ = σ)) := by
  have A8 : ∀ j, 0 ≤ σ.2.1 8 j ∧ σ.2.1 8 j ≤ 1 := fun j => hT.2 8 j
  have A10 : ∀ j, (-1) ≤ σ.2.1 10 j ∧ σ.2.1 10 j ≤ 999 := fun j => hT.2 10 j
  have A12 : ∀ j, 0 ≤ σ.2.1 12 j ∧ σ.2.1 12 j ≤ 1 := fun j => hT.2 12 j
  have A13 : ∀ j, 0 ≤ σ.2.1 13 j ∧ σ.2.1 13 j ≤ 4 := fun j => hT.2 13 j
  have A14 : ∀ j, 0 ≤ σ.2.1 14 j ∧ σ.2.1 14 j ≤ 30000 := fun j => hT.2 14 j
  have A15 : ∀ j, 0 ≤ σ.2.1 15 j ∧ σ.2.1 15 j ≤ 300 := fun j => hT.2 15 j
  have A16 : ∀ j, 0 ≤ σ.2.1 16 j ∧ σ.2.1 16 j ≤ 999 := fun j => hT.2 16 j
  have A17 : ∀ j, (-1) ≤ σ.2.1 17 j ∧ σ.2.1 17 j ≤ 1499 := fun j => hT.2 17 j
  have A18 : ∀ j, 0 ≤ σ.2.1 18 j ∧ σ.2.1 18 j ≤ 90000 := fun j => hT.2 18 j
  have A19 : ∀ j, 0 ≤ σ.2.1 19 j ∧ σ.2.1 19 j ≤ 60 := fun j => hT.2 19 j
  have A20 : ∀ j, 0 ≤ σ.2.1 20 j ∧ σ.2.1 20 j ≤ 1499 := fun j => hT.2 20 j
  have A86 : ∀ j, (-1500) ≤ σ.2.1 86 j ∧ σ.2.1 86 j ≤ 1499 := fun j => hT.2 86 j
  have A87 : ∀ j, 0 ≤ σ.2.1 87 j ∧ σ.2.1 87 j ≤ 120000 := fun j => hT.2 87 j
  have A88 : ∀ j, 0 ≤ σ.2.1 88 j ∧ σ.2.1 88 j ≤ 59 := fun j => hT.2 88 j
  have A89 : ∀ j, 0 ≤ σ.2.1 89 j ∧ σ.2.1 89 j ≤ 59 := fun j => hT.2 89 j
  have A90 : ∀ j, (-1) ≤ σ.2.1 90 j ∧ σ.2.1 90 j ≤ 99 := fun j => hT.2 90 j
  have A91 : ∀ j, 0 ≤ σ.2.1 91 j ∧ σ.2.1 91 j ≤ 60000 := fun j => hT.2 91 j
  have A94 : ∀ j, (-1) ≤ σ.2.1 94 j ∧ σ.2.1 94 j ≤ 2 := fun j => hT.2 94 j
  have A95 : ∀ j, (-9) ≤ σ.2.1 95 j ∧ σ.2.1 95 j ≤ 1499 := fun j => hT.2 95 j
  have A96 : ∀ j, 0 ≤ σ.2.1 96 j ∧ σ.2.1 96 j ≤ 1 := fun j => hT.2 96 j
  have v3 : 0 ≤ σ.1 3 ∧ σ.1 3 ≤ 1000 := hT.1 3
  have v4 : 0 ≤ σ.1 4 ∧ σ.1 4 ≤ 100 := hT.1 4
  have v5 : 0 ≤ σ.1 5 ∧ σ.1 5 ≤ 1500 := hT.1 5
  have v10 : (-1) ≤ σ.1 10 ∧ σ.1 10 ≤ 999 := hT.1 10
  have v11 : (-1) ≤ σ.1 11 ∧ σ.1 11 ≤ 999 := hT.1 11
  have v48 : 0 ≤ σ.1 48 ∧ σ.1 48 ≤ 1500 := hT.1 48
  have v49 : 0 ≤ σ.1 49 ∧ σ.1 49 ≤ 1 := hT.1 49
  have v51 : 0 ≤ σ.1 51 ∧ σ.1 51 ≤ 60000 := hT.1 51
  have v52 : 0 ≤ σ.1 52 ∧ σ.1 52 ≤ 120000 := hT.1 52
  have W3 : σ.1 3 = σ.1 3 := rfl
  have W4 : σ.1 4 = σ.1 4 := rfl
  have W5 : σ.1 5 = σ.1 5 := rfl
  have W10 : σ.1 10 = σ.1 10 := rfl
  have W11 : σ.1 11 = σ.1 11 := rfl
  have G8 : σ.2.1 8 = σ.2.1 8 := rfl
  have G10 : σ.2.1 10 = σ.2.1 10 := rfl
  have G12 : σ.2.1 12 = σ.2.1 12 := rfl
  have G13 : σ.2.1 13 = σ.2.1 13 := rfl
  have G14 : σ.2.1 14 = σ.2.1 14 := rfl
  have G15 : σ.2.1 15 = σ.2.1 15 := rfl
  have G16 : σ.2.1 16 = σ.2.1 16 := rfl
  have G17 : σ.2.1 17 = σ.2.1 17 := rfl
  have G18 : σ.2.1 18 = σ.2.1 18 := rfl
  have G19 : σ.2.1 19 = σ.2.1 19 := rfl
  have G20 : σ.2.1 20 = σ.2.1 20 := rfl
  have G96 : σ.2.1 96 = σ.2.1 96 := rfl
  have hTσ := hT
  have Y20 : ca (σ.2.1 12) ((σ.1 3)) ≤ (σ.1 4) := p4
  have Y20_0 := Y20
  unfold W_X13_definitionOf
  refine ⟨(show 0 ≤ n1 ∧ n1 < 1501 from by (first | omega | (simp only [st_s] <;> omega) | assumption | omega | fail)), ?_⟩
  intro x2 r_x2 e_x2
  have b_x2 : (-9) ≤ x2 ∧ x2 ≤ 1499 := by rw [e_x2]; exact hT.2 95 _
  refine ⟨fun c3 => ?_, fun c3 => ?_⟩
  ·
    intro x4 r_x4 e_x4
    have b_x4 : (-9) ≤ x4 ∧ x4 ≤ 1499 := by rw [e_x4]; exact hT.2 95 _
    exact ⟨hT, (show y_CT σ from by (first | exact p11 | exact y_CT_e ⟨rfl, rfl, rfl, rfl, rfl, rfl, rfl, rfl, rfl, rfl⟩ rfl rfl rfl rfl rfl q5_1 | fail)), (show ((σ.1 49) = 0 ∨ (y_TT σ σ (σ.1 5) (σ.1 5) ∧ y_Un σ (σ.1 5) (σ.1 48) (σ.2.1 84))) from by (first | exact p8 | exact q5_2 | fail)), (show (σ.1 51) = (σ.1 51) ∧ (σ.1 52) = (σ.1 52) from by (first | exact ⟨rfl, rfl⟩ | exact q5_3 | fail)), (show y_KC σ σ from by (first | exact y_KC_0 σ | exact y_KC_t q5_4 (y_KC_e rfl rfl) | fail)), (show y_DT σ from by (first | exact p13 | exact DTx | fail)), (show σ.2.1 95 n1 = x4 ∧ ¬ x4 = -9 from by (first | (exact ⟨e_x4.symm, by omega⟩) | (exact ⟨e_x8.symm, by (rw [e_x8, st_s]; exact x6n.1)⟩) | fail)), (show ∀ i : Int, ¬ i = n1 → σ.2.1 95 i = σ.2.1 95 i from by (first | exact fun _ _ => rfl | (intro i a; rw [st_n _ _ a, e95]) | fail)), (show ¬ σ.2.1 95 n1 = -9 → σ = σ from by (first | exact fun _ => rfl | (intro z; exfalso; omega) | fail))⟩
  ·
    refine ⟨_, K_X13_findDefinition hT (show 0 ≤ n1 from by (first | omega | (simp only [st_s] <;> omega) | assumption | omega | fail)) (show n1 < (σ.1 5) from by (first | omega | (simp only [st_s] <;> omega) | assumption | omega | fail)) (show σ.2.1 15 n1 ≤ 60 from by (first | omega | (simp only [st_s] <;> omega) | assumption | omega | fail)) (show ca (σ.2.1 12) ((σ.1 3)) ≤ (σ.1 4) from Y20) (show n_J σ from by (first | omega | (simp only [st_s] <;> omega) | assumption | omega | fail)) (show m_J σ from by (first | omega | (simp only [st_s] <;> omega) | assumption | omega | fail)) (show (σ.1 10) < (σ.1 3) from by (first | omega | (simp only [st_s] <;> omega) | assumption | omega | fail)) (show (σ.1 49) = 0 ∨ (y_TT σ σ (σ.1 5) (σ.1 5) ∧ y_Un σ (σ.1 5) (σ.1 48) (σ.2.1 84)) from by (first | omega | (simp only [st_s] <;> omega) | assumption | omega | fail)) (show (σ.1 51) ≤ 47000 from by (first | omega | (simp only [st_s] <;> omega) | assumption | omega | fail)) (show (σ.1 52) ≤ 88000 from by (first | omega | (simp only [st_s] <;> omega) | assumption | omega | fail)) (show y_CT σ from by (first | omega | (simp only [st_s] <;> omega) | assumption | omega | fail)) (show y_EQ σ from by (first | omega | (simp only [st_s] <;> omega) | assumption | omega | fail)), ?_⟩
    intro x6 τ7 r_x6 hn_τ7 hf_τ7 hq
    obtain ⟨hT, q5_1, q5_2, q5_3, q5_4, q5_5⟩ := hq
    replace q5_1 : y_CT τ7 := q5_1
    replace q5_2 : ((τ7.1 49) = 0 ∨ (y_TT τ7 τ7 (σ.1 5) (σ.1 5) ∧ y_Un τ7 (σ.1 5) (τ7.1 48) (τ7.2.1 84))) := q5_2
    replace q5_3 : (τ7.1 51) = (σ.1 51) ∧ (τ7.1 52) = (σ.1 52) := q5_3
    replace q5_4 : y_KC σ τ7 := q5_4
    replace q5_5 : x6 = -1 ∨ y_DE τ7 n1 x6 := q5_5
    have w3_τ7 : τ7.1 3 = σ.1 3 := hf_τ7.1 3 (by decide)
    have w4_τ7 : τ7.1 4 = σ.1 4 := hf_τ7.1 4 (by decide)
    have w5_τ7 : τ7.1 5 = σ.1 5 := hf_τ7.1 5 (by decide)
    have w10_τ7 : τ7.1 10 = σ.1 10 := hf_τ7.1 10 (by decide)
    have w11_τ7 : τ7.1 11 = σ.1 11 := hf_τ7.1 11 (by decide)
    have g8_τ7 : τ7.2.1 8 = σ.2.1 8 := hf_τ7.2.1 8 (by decide)
    have g10_τ7 : τ7.2.1 10 = σ.2.1 10 := hf_τ7.2.1 10 (by decide)
    have g12_τ7 : τ7.2.1 12 = σ.2.1 12 := hf_τ7.2.1 12 (by decide)
    have g13_τ7 : τ7.2.1 13 = σ.2.1 13 := hf_τ7.2.1 13 (by decide)
    have g14_τ7 : τ7.2.1 14 = σ.2.1 14 := hf_τ7.2.1 14 (by decide)
    have g15_τ7 : τ7.2.1 15 = σ.2.1 15 := hf_τ7.2.1 15 (by decide)
    have g16_τ7 : τ7.2.1 16 = σ.2.1 16 := hf_τ7.2.1 16 (by decide)
    have g17_τ7 : τ7.2.1 17 = σ.2.1 17 := hf_τ7.2.1 17 (by decide)
    have g18_τ7 : τ7.2.1 18 = σ.2.1 18 := hf_τ7.2.1 18 (by decide)
    have g19_τ7 : τ7.2.1 19 = σ.2.1 19 := hf_τ7.2.1 19 (by decide)
    have g20_τ7 : τ7.2.1 20 = σ.2.1 20 := hf_τ7.2.1 20 (by decide)
    have g95_τ7 : τ7.2.1 95 = σ.2.1 95 := hf_τ7.2.1 95 (by decide)
    have g96_τ7 : τ7.2.1 96 = σ.2.1 96 := hf_τ7.2.1 96 (by decide)
    have W3 : τ7.1 3 = σ.1 3 := by first | exact w3_τ7.trans W3 | omega
    have W4 : τ7.1 4 = σ.1 4 := by first | exact w4_τ7.trans W4 | omega
    have W5 : τ7.1 5 = σ.1 5 := by first | exact w5_τ7.trans W5 | omega
    have W10 : τ7.1 10 = σ.1 10 := by first | exact w10_τ7.trans W10 | omega
    have W11 : τ7.1 11 = σ.1 11 := by first | exact w11_τ7.trans W11 | omega
    have G8 : τ7.2.1 8 = σ.2.1 8 := (g8_τ7).trans G8
    have G10 : τ7.2.1 10 = σ.2.1 10 := (g10_τ7).trans G10
    have G12 : τ7.2.1 12 = σ.2.1 12 := (g12_τ7).trans G12
    have G13 : τ7.2.1 13 = σ.2.1 13 := (g13_τ7).trans G13
    have G14 : τ7.2.1 14 = σ.2.1 14 := (g14_τ7).trans G14
    have G15 : τ7.2.1 15 = σ.2.1 15 := (g15_τ7).trans G15
    have G16 : τ7.2.1 16 = σ.2.1 16 := (g16_τ7).trans G16
    have G17 : τ7.2.1 17 = σ.2.1 17 := (g17_τ7).trans G17
    have G18 : τ7.2.1 18 = σ.2.1 18 := (g18_τ7).trans G18
    have G19 : τ7.2.1 19 = σ.2.1 19 := (g19_τ7).trans G19
    have G20 : τ7.2.1 20 = σ.2.1 20 := (g20_τ7).trans G20
    have G96 : τ7.2.1 96 = σ.2.1 96 := (g96_τ7).trans G96
    have Y20 : ca (τ7.2.1 12) ((τ7.1 3)) ≤ (τ7.1 4) := by rw [show (ca (τ7.2.1 12) ((τ7.1 3)) ≤ (τ7.1 4)) = (ca (σ.2.1 12) ((σ.1 3)) ≤ (σ.1 4)) from by rw [w3_τ7, w4_τ7, g12_τ7]]; exact Y20
    have A8 : ∀ j, 0 ≤ τ7.2.1 8 j ∧ τ7.2.1 8 j ≤ 1 := fun j => hT.2 8 j
    have A10 : ∀ j, (-1) ≤ τ7.2.1 10 j ∧ τ7.2.1 10 j ≤ 999 := fun j => hT.2 10 j
    have A12 : ∀ j, 0 ≤ τ7.2.1 12 j ∧ τ7.2.1 12 j ≤ 1 := fun j => hT.2 12 j
    have A13 : ∀ j, 0 ≤ τ7.2.1 13 j ∧ τ7.2.1 13 j ≤ 4 := fun j => hT.2 13 j
    have A14 : ∀ j, 0 ≤ τ7.2.1 14 j ∧ τ7.2.1 14 j ≤ 30000 := fun j => hT.2 14 j
    have A15 : ∀ j, 0 ≤ τ7.2.1 15 j ∧ τ7.2.1 15 j ≤ 300 := fun j => hT.2 15 j
    have A16 : ∀ j, 0 ≤ τ7.2.1 16 j ∧ τ7.2.1 16 j ≤ 999 := fun j => hT.2 16 j
    have A17 : ∀ j, (-1) ≤ τ7.2.1 17 j ∧ τ7.2.1 17 j ≤ 1499 := fun j => hT.2 17 j
    have A18 : ∀ j, 0 ≤ τ7.2.1 18 j ∧ τ7.2.1 18 j ≤ 90000 := fun j => hT.2 18 j
    have A19 : ∀ j, 0 ≤ τ7.2.1 19 j ∧ τ7.2.1 19 j ≤ 60 := fun j => hT.2 19 j
    have A20 : ∀ j, 0 ≤ τ7.2.1 20 j ∧ τ7.2.1 20 j ≤ 1499 := fun j => hT.2 20 j
    have A86 : ∀ j, (-1500) ≤ τ7.2.1 86 j ∧ τ7.2.1 86 j ≤ 1499 := fun j => hT.2 86 j
    have A87 : ∀ j, 0 ≤ τ7.2.1 87 j ∧ τ7.2.1 87 j ≤ 120000 := fun j => hT.2 87 j
    have A88 : ∀ j, 0 ≤ τ7.2.1 88 j ∧ τ7.2.1 88 j ≤ 59 := fun j => hT.2 88 j
    have A89 : ∀ j, 0 ≤ τ7.2.1 89 j ∧ τ7.2.1 89 j ≤ 59 := fun j => hT.2 89 j
    have A90 : ∀ j, (-1) ≤ τ7.2.1 90 j ∧ τ7.2.1 90 j ≤ 99 := fun j => hT.2 90 j
    have A91 : ∀ j, 0 ≤ τ7.2.1 91 j ∧ τ7.2.1 91 j ≤ 60000 := fun j => hT.2 91 j
    have A94 : ∀ j, (-1) ≤ τ7.2.1 94 j ∧ τ7.2.1 94 j ≤ 2 := fun j => hT.2 94 j
    have A95 : ∀ j, (-9) ≤ τ7.2.1 95 j ∧ τ7.2.1 95 j ≤ 1499 := fun j => hT.2 95 j
    have A96 : ∀ j, 0 ≤ τ7.2.1 96 j ∧ τ7.2.1 96 j ≤ 1 := fun j => hT.2 96 j
    have v3 : 0 ≤ τ7.1 3 ∧ τ7.1 3 ≤ 1000 := hT.1 3
    have v4 : 0 ≤ τ7.1 4 ∧ τ7.1 4 ≤ 100 := hT.1 4
    have v5 : 0 ≤ τ7.1 5 ∧ τ7.1 5 ≤ 1500 := hT.1 5
    have v10 : (-1) ≤ τ7.1 10 ∧ τ7.1 10 ≤ 999 := hT.1 10
    have v11 : (-1) ≤ τ7.1 11 ∧ τ7.1 11 ≤ 999 := hT.1 11
    have v48 : 0 ≤ τ7.1 48 ∧ τ7.1 48 ≤ 1500 := hT.1 48
    have v49 : 0 ≤ τ7.1 49 ∧ τ7.1 49 ≤ 1 := hT.1 49
    have v51 : 0 ≤ τ7.1 51 ∧ τ7.1 51 ≤ 60000 := hT.1 51
    have v52 : 0 ≤ τ7.1 52 ∧ τ7.1 52 ≤ 120000 := hT.1 52
    have l5 : σ.1 5 ≤ 1500 := (hTσ.1 5).2
    have SFa := y_SF_h hf_τ7 rfl rfl
    have e95 : τ7.2.1 95 = σ.2.1 95 := hf_τ7.2.1 95 (by decide)
    have DT7 := y_DT_k p13 hTσ SFa q5_4 e95
    have DTx := y_DT_s DT7 hT q5_5
    have x6n : ¬ x6 = -9 ∧ (-9 ≤ x6 ∧ x6 ≤ 1499) := (by rcases q5_5 with z | z; (omega); (have w := z.2.1.1; omega))
    replace hT := mT_a (k := 95) (j := n1) hT (show (-9 : Int) ≤ x6 ∧ x6 ≤ 1499 from by (first | omega | (simp only [st_s] <;> omega) | assumption | omega | fail))
    intro x8 r_x8 e_x8
    have b_x8 : (-9) ≤ x8 ∧ x8 ≤ 1499 := by rw [e_x8]; exact hT.2 95 _
    exact ⟨hT, (show y_CT (s_a τ7 95 n1 x6) from by (first | exact p11 | exact y_CT_e ⟨rfl, rfl, rfl, rfl, rfl, rfl, rfl, rfl, rfl, rfl⟩ rfl rfl rfl rfl rfl q5_1 | fail)), (show ((τ7.1 49) = 0 ∨ (y_TT (s_a τ7 95 n1 x6) (s_a τ7 95 n1 x6) (σ.1 5) (σ.1 5) ∧ y_Un (s_a τ7 95 n1 x6) (σ.1 5) (τ7.1 48) (τ7.2.1 84))) from by (first | exact p8 | exact q5_2 | fail)), (show (τ7.1 51) = (σ.1 51) ∧ (τ7.1 52) = (σ.1 52) from by (first | exact ⟨rfl, rfl⟩ | exact q5_3 | fail)), (show y_KC σ (s_a τ7 95 n1 x6) from by (first | exact y_KC_0 σ | exact y_KC_t q5_4 (y_KC_e rfl rfl) | fail)), (show y_DT (s_a τ7 95 n1 x6) from by (first | exact p13 | exact DTx | fail)), (show (st (τ7.2.1 95) n1 x6) n1 = x8 ∧ ¬ x8 = -9 from by (first | (exact ⟨e_x4.symm, by omega⟩) | (exact ⟨e_x8.symm, by (rw [e_x8, st_s]; exact x6n.1)⟩) | fail)), (show ∀ i : Int, ¬ i = n1 → (st (τ7.2.1 95) n1 x6) i = σ.2.1 95 i from by (first | exact fun _ _ => rfl | (intro i a; rw [st_n _ _ a, e95]) | fail)), (show ¬ σ.2.1 95 n1 = -9 → (s_a τ7 95 n1 x6) = σ from by (first | exact fun _ => rfl | (intro z; exfalso; omega) | fail))⟩
set_option maxHeartbeats 4000000 in
theorem K_X13_definition {n1 : Int} {σ : S0} (hT : m_T σ) (p1 : -2147483648 ≤ n1 ∧ n1 ≤ 2147483647) (p2 : ca (σ.2.1 12) ((σ.1 3)) ≤ (σ.1 4)) (p3 : n_J σ) (p4 : m_J σ) (p5 : (σ.1 10) < (σ.1 3)) (p6 : (σ.1 49) = 0 ∨ (y_TT σ σ (σ.1 5) (σ.1 5) ∧ y_Un σ (σ.1 5) (σ.1 48) (σ.2.1 84))) (p7 : (σ.1 51) ≤ 47000) (p8 : (σ.1 52) ≤ 88000) (p9 : y_CT σ) (p10 : y_EQ σ) (p11 : y_DT σ) : W_X13_definition n1 σ (fun (x : Int) (τ : S0) => (m_T τ) ∧ (y_CT τ) ∧ (((τ.1 49) = 0 ∨ (y_TT τ τ (σ.1 5) (σ.1 5) ∧ y_Un τ (σ.1 5) (τ.1 48) (τ.2.1 84)))) ∧ ((τ.1 51) = (σ.1 51) ∧ (τ.1 52) = (σ.1 52)) ∧ (y_KC σ τ) ∧ (y_DT τ)) := by
  have A8 : ∀ j, 0 ≤ σ.2.1 8 j ∧ σ.2.1 8 j ≤ 1 := fun j => hT.2 8 j
  have A10 : ∀ j, (-1) ≤ σ.2.1 10 j ∧ σ.2.1 10 j ≤ 999 := fun j => hT.2 10 j
  have A12 : ∀ j, 0 ≤ σ.2.1 12 j ∧ σ.2.1 12 j ≤ 1 := fun j => hT.2 12 j
  have A13 : ∀ j, 0 ≤ σ.2.1 13 j ∧ σ.2.1 13 j ≤ 4 := fun j => hT.2 13 j
  have A14 : ∀ j, 0 ≤ σ.2.1 14 j ∧ σ.2.1 14 j ≤ 30000 := fun j => hT.2 14 j
  have A15 : ∀ j, 0 ≤ σ.2.1 15 j ∧ σ.2.1 15 j ≤ 300 := fun j => hT.2 15 j
  have A16 : ∀ j, 0 ≤ σ.2.1 16 j ∧ σ.2.1 16 j ≤ 999 := fun j => hT.2 16 j
  have A17 : ∀ j, (-1) ≤ σ.2.1 17 j ∧ σ.2.1 17 j ≤ 1499 := fun j => hT.2 17 j
  have A18 : ∀ j, 0 ≤ σ.2.1 18 j ∧ σ.2.1 18 j ≤ 90000 := fun j => hT.2 18 j
  have A19 : ∀ j, 0 ≤ σ.2.1 19 j ∧ σ.2.1 19 j ≤ 60 := fun j => hT.2 19 j
  have A20 : ∀ j, 0 ≤ σ.2.1 20 j ∧ σ.2.1 20 j ≤ 1499 := fun j => hT.2 20 j
  have A86 : ∀ j, (-1500) ≤ σ.2.1 86 j ∧ σ.2.1 86 j ≤ 1499 := fun j => hT.2 86 j
  have A87 : ∀ j, 0 ≤ σ.2.1 87 j ∧ σ.2.1 87 j ≤ 120000 := fun j => hT.2 87 j
  have A88 : ∀ j, 0 ≤ σ.2.1 88 j ∧ σ.2.1 88 j ≤ 59 := fun j => hT.2 88 j
  have A89 : ∀ j, 0 ≤ σ.2.1 89 j ∧ σ.2.1 89 j ≤ 59 := fun j => hT.2 89 j
  have A90 : ∀ j, (-1) ≤ σ.2.1 90 j ∧ σ.2.1 90 j ≤ 99 := fun j => hT.2 90 j
  have A91 : ∀ j, 0 ≤ σ.2.1 91 j ∧ σ.2.1 91 j ≤ 60000 := fun j => hT.2 91 j
  have A94 : ∀ j, (-1) ≤ σ.2.1 94 j ∧ σ.2.1 94 j ≤ 2 := fun j => hT.2 94 j
  have A95 : ∀ j, (-9) ≤ σ.2.1 95 j ∧ σ.2.1 95 j ≤ 1499 := fun j => hT.2 95 j
  have A96 : ∀ j, 0 ≤ σ.2.1 96 j ∧ σ.2.1 96 j ≤ 1 := fun j => hT.2 96 j
  have v3 : 0 ≤ σ.1 3 ∧ σ.1 3 ≤ 1000 := hT.1 3
  have v4 : 0 ≤ σ.1 4 ∧ σ.1 4 ≤ 100 := hT.1 4
  have v5 : 0 ≤ σ.1 5 ∧ σ.1 5 ≤ 1500 := hT.1 5
  have v10 : (-1) ≤ σ.1 10 ∧ σ.1 10 ≤ 999 := hT.1 10
  have v11 : (-1) ≤ σ.1 11 ∧ σ.1 11 ≤ 999 := hT.1 11
  have v48 : 0 ≤ σ.1 48 ∧ σ.1 48 ≤ 1500 := hT.1 48
  have v49 : 0 ≤ σ.1 49 ∧ σ.1 49 ≤ 1 := hT.1 49
  have v51 : 0 ≤ σ.1 51 ∧ σ.1 51 ≤ 60000 := hT.1 51
  have v52 : 0 ≤ σ.1 52 ∧ σ.1 52 ≤ 120000 := hT.1 52
  have W3 : σ.1 3 = σ.1 3 := rfl
  have W4 : σ.1 4 = σ.1 4 := rfl
  have W5 : σ.1 5 = σ.1 5 := rfl
  have W10 : σ.1 10 = σ.1 10 := rfl
  have W11 : σ.1 11 = σ.1 11 := rfl
  have G8 : σ.2.1 8 = σ.2.1 8 := rfl
  have G10 : σ.2.1 10 = σ.2.1 10 := rfl
  have G12 : σ.2.1 12 = σ.2.1 12 := rfl
  have G13 : σ.2.1 13 = σ.2.1 13 := rfl
  have G14 : σ.2.1 14 = σ.2.1 14 := rfl
  have G15 : σ.2.1 15 = σ.2.1 15 := rfl
  have G16 : σ.2.1 16 = σ.2.1 16 := rfl
  have G17 : σ.2.1 17 = σ.2.1 17 := rfl
  have G18 : σ.2.1 18 = σ.2.1 18 := rfl
  have G19 : σ.2.1 19 = σ.2.1 19 := rfl
  have G20 : σ.2.1 20 = σ.2.1 20 := rfl
  have G96 : σ.2.1 96 = σ.2.1 96 := rfl
  have Y20 : ca (σ.2.1 12) ((σ.1 3)) ≤ (σ.1 4) := p2
  have Y20_0 := Y20
  unfold W_X13_definition
  refine ⟨_, K_X13_isStatement hT (show -2147483648 ≤ n1 ∧ n1 ≤ 2147483647 from by (first | omega | (simp only [st_s] <;> omega) | assumption | omega | fail)), ?_⟩
  intro x2 r_x2 hq
  obtain ⟨q1_1, q1_2⟩ := hq
  replace q1_1 : 0 ≤ x2 ∧ x2 ≤ 1 := q1_1
  replace q1_2 : ¬ x2 = 0 → 0 ≤ n1 ∧ n1 < (σ.1 5) := q1_2
  refine ⟨fun c4 => ?_, fun c4 => ?_⟩
  ·
    exact ⟨hT, (show y_CT σ from by (first | exact p9 | exact q10_1 | fail)), (show ((σ.1 49) = 0 ∨ (y_TT σ σ (σ.1 5) (σ.1 5) ∧ y_Un σ (σ.1 5) (σ.1 48) (σ.2.1 84))) from by (first | exact p6 | exact q10_2 | fail)), (show (σ.1 51) = (σ.1 51) ∧ (σ.1 52) = (σ.1 52) from by (first | exact ⟨rfl, rfl⟩ | exact q10_3 | fail)), (show y_KC σ σ from by (first | exact y_KC_0 σ | exact q10_4 | fail)), (show y_DT σ from by (first | exact p11 | exact q10_5 | fail))⟩
  ·
    refine ⟨(show 0 ≤ n1 ∧ n1 < 1501 from by (first | omega | (simp only [st_s] <;> omega) | assumption | omega | fail)), ?_⟩
    intro x6 r_x6 e_x6
    have b_x6 : 0 ≤ x6 ∧ x6 ≤ 4 := by rw [e_x6]; exact hT.2 13 _
    refine ⟨fun c7 => ?_, fun c7 => ?_⟩
    ·
      intro x8 r_x8 e_x8
      have b_x8 : 0 ≤ x8 ∧ x8 ≤ 300 := by rw [e_x8]; exact hT.2 15 _
      refine ⟨fun c9 => ?_, fun c9 => ?_⟩
      ·
        refine ⟨_, K_X13_definitionOf hT (show 0 ≤ n1 from by (first | omega | (simp only [st_s] <;> omega) | assumption | omega | fail)) (show n1 < (σ.1 5) from by (first | omega | (simp only [st_s] <;> omega) | assumption | omega | fail)) (show σ.2.1 15 n1 ≤ 60 from by (first | omega | (simp only [st_s] <;> omega) | assumption | omega | fail)) (show ca (σ.2.1 12) ((σ.1 3)) ≤ (σ.1 4) from Y20) (show n_J σ from by (first | omega | (simp only [st_s] <;> omega) | assumption | omega | fail)) (show m_J σ from by (first | omega | (simp only [st_s] <;> omega) | assumption | omega | fail)) (show (σ.1 10) < (σ.1 3) from by (first | omega | (simp only [st_s] <;> omega) | assumption | omega | fail)) (show (σ.1 49) = 0 ∨ (y_TT σ σ (σ.1 5) (σ.1 5) ∧ y_Un σ (σ.1 5) (σ.1 48) (σ.2.1 84)) from by (first | omega | (simp only [st_s] <;> omega) | assumption | omega | fail)) (show (σ.1 51) ≤ 47000 from by (first | omega | (simp only [st_s] <;> omega) | assumption | omega | fail)) (show (σ.1 52) ≤ 88000 from by (first | omega | (simp only [st_s] <;> omega) | assumption | omega | fail)) (show y_CT σ from by (first | omega | (simp only [st_s] <;> omega) | assumption | omega | fail)) (show y_EQ σ from by (first | omega | (simp only [st_s] <;> omega) | assumption | omega | fail)) (show y_DT σ from by (first | omega | (simp only [st_s] <;> omega) | assumption | omega | fail)), ?_⟩
        intro x11 τ12 r_x11 hn_τ12 hf_τ12 hq
        obtain ⟨hT, q10_1, q10_2, q10_3, q10_4, q10_5, q10_6, q10_7, q10_8⟩ := hq
        replace q10_1 : y_CT τ12 := q10_1
        replace q10_2 : ((τ12.1 49) = 0 ∨ (y_TT τ12 τ12 (σ.1 5) (σ.1 5) ∧ y_Un τ12 (σ.1 5) (τ12.1 48) (τ12.2.1 84))) := q10_2
        replace q10_3 : (τ12.1 51) = (σ.1 51) ∧ (τ12.1 52) = (σ.1 52) := q10_3
        replace q10_4 : y_KC σ τ12 := q10_4
        replace q10_5 : y_DT τ12 := q10_5
        replace q10_6 : τ12.2.1 95 n1 = x11 ∧ ¬ x11 = -9 := q10_6
        replace q10_7 : ∀ i : Int, ¬ i = n1 → τ12.2.1 95 i = σ.2.1 95 i := q10_7
        replace q10_8 : ¬ σ.2.1 95 n1 = -9 → τ12 = σ := q10_8
        have w3_τ12 : τ12.1 3 = σ.1 3 := hf_τ12.1 3 (by decide)
        have w4_τ12 : τ12.1 4 = σ.1 4 := hf_τ12.1 4 (by decide)
        have w5_τ12 : τ12.1 5 = σ.1 5 := hf_τ12.1 5 (by decide)
        have w10_τ12 : τ12.1 10 = σ.1 10 := hf_τ12.1 10 (by decide)
        have w11_τ12 : τ12.1 11 = σ.1 11 := hf_τ12.1 11 (by decide)
        have g8_τ12 : τ12.2.1 8 = σ.2.1 8 := hf_τ12.2.1 8 (by decide)
        have g10_τ12 : τ12.2.1 10 = σ.2.1 10 := hf_τ12.2.1 10 (by decide)
        have g12_τ12 : τ12.2.1 12 = σ.2.1 12 := hf_τ12.2.1 12 (by decide)
        have g13_τ12 : τ12.2.1 13 = σ.2.1 13 := hf_τ12.2.1 13 (by decide)
        have g14_τ12 : τ12.2.1 14 = σ.2.1 14 := hf_τ12.2.1 14 (by decide)
        have g15_τ12 : τ12.2.1 15 = σ.2.1 15 := hf_τ12.2.1 15 (by decide)
        have g16_τ12 : τ12.2.1 16 = σ.2.1 16 := hf_τ12.2.1 16 (by decide)
        have g17_τ12 : τ12.2.1 17 = σ.2.1 17 := hf_τ12.2.1 17 (by decide)
        have g18_τ12 : τ12.2.1 18 = σ.2.1 18 := hf_τ12.2.1 18 (by decide)
        have g19_τ12 : τ12.2.1 19 = σ.2.1 19 := hf_τ12.2.1 19 (by decide)
        have g20_τ12 : τ12.2.1 20 = σ.2.1 20 := hf_τ12.2.1 20 (by decide)
        have g96_τ12 : τ12.2.1 96 = σ.2.1 96 := hf_τ12.2.1 96 (by decide)
        have W3 : τ12.1 3 = σ.1 3 := by first | exact w3_τ12.trans W3 | omega
        have W4 : τ12.1 4 = σ.1 4 := by first | exact w4_τ12.trans W4 | omega
        have W5 : τ12.1 5 = σ.1 5 := by first | exact w5_τ12.trans W5 | omega
        have W10 : τ12.1 10 = σ.1 10 := by first | exact w10_τ12.trans W10 | omega
        have W11 : τ12.1 11 = σ.1 11 := by first | exact w11_τ12.trans W11 | omega
        have G8 : τ12.2.1 8 = σ.2.1 8 := (g8_τ12).trans G8
        have G10 : τ12.2.1 10 = σ.2.1 10 := (g10_τ12).trans G10
        have G12 : τ12.2.1 12 = σ.2.1 12 := (g12_τ12).trans G12
        have G13 : τ12.2.1 13 = σ.2.1 13 := (g13_τ12).trans G13
        have G14 : τ12.2.1 14 = σ.2.1 14 := (g14_τ12).trans G14
        have G15 : τ12.2.1 15 = σ.2.1 15 := (g15_τ12).trans G15
        have G16 : τ12.2.1 16 = σ.2.1 16 := (g16_τ12).trans G16
        have G17 : τ12.2.1 17 = σ.2.1 17 := (g17_τ12).trans G17
        have G18 : τ12.2.1 18 = σ.2.1 18 := (g18_τ12).trans G18
        have G19 : τ12.2.1 19 = σ.2.1 19 := (g19_τ12).trans G19
        have G20 : τ12.2.1 20 = σ.2.1 20 := (g20_τ12).trans G20
        have G96 : τ12.2.1 96 = σ.2.1 96 := (g96_τ12).trans G96
        have Y20 : ca (τ12.2.1 12) ((τ12.1 3)) ≤ (τ12.1 4) := by rw [show (ca (τ12.2.1 12) ((τ12.1 3)) ≤ (τ12.1 4)) = (ca (σ.2.1 12) ((σ.1 3)) ≤ (σ.1 4)) from by rw [w3_τ12, w4_τ12, g12_τ12]]; exact Y20
        have A8 : ∀ j, 0 ≤ τ12.2.1 8 j ∧ τ12.2.1 8 j ≤ 1 := fun j => hT.2 8 j
        have A10 : ∀ j, (-1) ≤ τ12.2.1 10 j ∧ τ12.2.1 10 j ≤ 999 := fun j => hT.2 10 j
        have A12 : ∀ j, 0 ≤ τ12.2.1 12 j ∧ τ12.2.1 12 j ≤ 1 := fun j => hT.2 12 j
        have A13 : ∀ j, 0 ≤ τ12.2.1 13 j ∧ τ12.2.1 13 j ≤ 4 := fun j => hT.2 13 j
        have A14 : ∀ j, 0 ≤ τ12.2.1 14 j ∧ τ12.2.1 14 j ≤ 30000 := fun j => hT.2 14 j
        have A15 : ∀ j, 0 ≤ τ12.2.1 15 j ∧ τ12.2.1 15 j ≤ 300 := fun j => hT.2 15 j
        have A16 : ∀ j, 0 ≤ τ12.2.1 16 j ∧ τ12.2.1 16 j ≤ 999 := fun j => hT.2 16 j
        have A17 : ∀ j, (-1) ≤ τ12.2.1 17 j ∧ τ12.2.1 17 j ≤ 1499 := fun j => hT.2 17 j
        have A18 : ∀ j, 0 ≤ τ12.2.1 18 j ∧ τ12.2.1 18 j ≤ 90000 := fun j => hT.2 18 j
        have A19 : ∀ j, 0 ≤ τ12.2.1 19 j ∧ τ12.2.1 19 j ≤ 60 := fun j => hT.2 19 j
        have A20 : ∀ j, 0 ≤ τ12.2.1 20 j ∧ τ12.2.1 20 j ≤ 1499 := fun j => hT.2 20 j
        have A86 : ∀ j, (-1500) ≤ τ12.2.1 86 j ∧ τ12.2.1 86 j ≤ 1499 := fun j => hT.2 86 j
        have A87 : ∀ j, 0 ≤ τ12.2.1 87 j ∧ τ12.2.1 87 j ≤ 120000 := fun j => hT.2 87 j
        have A88 : ∀ j, 0 ≤ τ12.2.1 88 j ∧ τ12.2.1 88 j ≤ 59 := fun j => hT.2 88 j
        have A89 : ∀ j, 0 ≤ τ12.2.1 89 j ∧ τ12.2.1 89 j ≤ 59 := fun j => hT.2 89 j
        have A90 : ∀ j, (-1) ≤ τ12.2.1 90 j ∧ τ12.2.1 90 j ≤ 99 := fun j => hT.2 90 j
        have A91 : ∀ j, 0 ≤ τ12.2.1 91 j ∧ τ12.2.1 91 j ≤ 60000 := fun j => hT.2 91 j
        have A94 : ∀ j, (-1) ≤ τ12.2.1 94 j ∧ τ12.2.1 94 j ≤ 2 := fun j => hT.2 94 j
        have A95 : ∀ j, (-9) ≤ τ12.2.1 95 j ∧ τ12.2.1 95 j ≤ 1499 := fun j => hT.2 95 j
        have A96 : ∀ j, 0 ≤ τ12.2.1 96 j ∧ τ12.2.1 96 j ≤ 1 := fun j => hT.2 96 j
        have v3 : 0 ≤ τ12.1 3 ∧ τ12.1 3 ≤ 1000 := hT.1 3
        have v4 : 0 ≤ τ12.1 4 ∧ τ12.1 4 ≤ 100 := hT.1 4
        have v5 : 0 ≤ τ12.1 5 ∧ τ12.1 5 ≤ 1500 := hT.1 5
        have v10 : (-1) ≤ τ12.1 10 ∧ τ12.1 10 ≤ 999 := hT.1 10
        have v11 : (-1) ≤ τ12.1 11 ∧ τ12.1 11 ≤ 999 := hT.1 11
        have v48 : 0 ≤ τ12.1 48 ∧ τ12.1 48 ≤ 1500 := hT.1 48
        have v49 : 0 ≤ τ12.1 49 ∧ τ12.1 49 ≤ 1 := hT.1 49
        have v51 : 0 ≤ τ12.1 51 ∧ τ12.1 51 ≤ 60000 := hT.1 51
        have v52 : 0 ≤ τ12.1 52 ∧ τ12.1 52 ≤ 120000 := hT.1 52
        exact ⟨hT, (show y_CT τ12 from by (first | exact p9 | exact q10_1 | fail)), (show ((τ12.1 49) = 0 ∨ (y_TT τ12 τ12 (σ.1 5) (σ.1 5) ∧ y_Un τ12 (σ.1 5) (τ12.1 48) (τ12.2.1 84))) from by (first | exact p6 | exact q10_2 | fail)), (show (τ12.1 51) = (σ.1 51) ∧ (τ12.1 52) = (σ.1 52) from by (first | exact ⟨rfl, rfl⟩ | exact q10_3 | fail)), (show y_KC σ τ12 from by (first | exact y_KC_0 σ | exact q10_4 | fail)), (show y_DT τ12 from by (first | exact p11 | exact q10_5 | fail))⟩
      ·
        exact ⟨hT, (show y_CT σ from by (first | exact p9 | exact q10_1 | fail)), (show ((σ.1 49) = 0 ∨ (y_TT σ σ (σ.1 5) (σ.1 5) ∧ y_Un σ (σ.1 5) (σ.1 48) (σ.2.1 84))) from by (first | exact p6 | exact q10_2 | fail)), (show (σ.1 51) = (σ.1 51) ∧ (σ.1 52) = (σ.1 52) from by (first | exact ⟨rfl, rfl⟩ | exact q10_3 | fail)), (show y_KC σ σ from by (first | exact y_KC_0 σ | exact q10_4 | fail)), (show y_DT σ from by (first | exact p11 | exact q10_5 | fail))⟩
    ·
      exact ⟨hT, (show y_CT σ from by (first | exact p9 | exact q10_1 | fail)), (show ((σ.1 49) = 0 ∨ (y_TT σ σ (σ.1 5) (σ.1 5) ∧ y_Un σ (σ.1 5) (σ.1 48) (σ.2.1 84))) from by (first | exact p6 | exact q10_2 | fail)), (show (σ.1 51) = (σ.1 51) ∧ (σ.1 52) = (σ.1 52) from by (first | exact ⟨rfl, rfl⟩ | exact q10_3 | fail)), (show y_KC σ σ from by (first | exact y_KC_0 σ | exact q10_4 | fail)), (show y_DT σ from by (first | exact p11 | exact q10_5 | fail))⟩
set_option maxHeartbeats 4000000 in
theorem K_X13_ruleOf {n1 : Int} {σ : S0} (hT : m_T σ) (p1 : 0 ≤ n1) (p2 : n1 < (σ.1 5)) (p3 : ca (σ.2.1 12) ((σ.1 3)) ≤ (σ.1 4)) (p4 : n_J σ) (p5 : m_J σ) (p6 : (σ.1 10) < (σ.1 3)) (p7 : (σ.1 49) = 0 ∨ (y_TT σ σ (σ.1 5) (σ.1 5) ∧ y_Un σ (σ.1 5) (σ.1 48) (σ.2.1 84))) (p8 : (σ.1 51) ≤ 47000) (p9 : (σ.1 52) ≤ 88000) (p10 : y_CT σ) (p11 : y_EQ σ) (p12 : y_DT σ) : W_X13_ruleOf n1 σ (fun (x : Int) (τ : S0) => (m_T τ) ∧ (y_CT τ) ∧ (((τ.1 49) = 0 ∨ (y_TT τ τ (σ.1 5) (σ.1 5) ∧ y_Un τ (σ.1 5) (τ.1 48) (τ.2.1 84)))) ∧ ((τ.1 51) = (σ.1 51) ∧ (τ.1 52) = (σ.1 52)) ∧ (y_KC σ τ) ∧ (y_DT τ) ∧ (∀ i : Int, ¬ i = n1 → τ.2.1 95 i = σ.2.1 95 i) ∧ (¬ σ.2.1 95 n1 = -9 → τ = σ) ∧ (x = -1 ∨ (τ.2.1 95 n1 = x ∧ ¬ x = -9)) ∧ (σ.2.1 13 n1 = 2 → σ.2.1 15 n1 ≤ 60 → τ.2.1 95 n1 = x ∧ ¬ x = -9) ∧ (¬ x = -1 → σ.2.1 13 n1 = 2 ∧ σ.2.1 15 n1 ≤ 60)) := by
  have A8 : ∀ j, 0 ≤ σ.2.1 8 j ∧ σ.2.1 8 j ≤ 1 := fun j => hT.2 8 j
  have A10 : ∀ j, (-1) ≤ σ.2.1 10 j ∧ σ.2.1 10 j ≤ 999 := fun j => hT.2 10 j
  have A12 : ∀ j, 0 ≤ σ.2.1 12 j ∧ σ.2.1 12 j ≤ 1 := fun j => hT.2 12 j
  have A13 : ∀ j, 0 ≤ σ.2.1 13 j ∧ σ.2.1 13 j ≤ 4 := fun j => hT.2 13 j
  have A14 : ∀ j, 0 ≤ σ.2.1 14 j ∧ σ.2.1 14 j ≤ 30000 := fun j => hT.2 14 j
  have A15 : ∀ j, 0 ≤ σ.2.1 15 j ∧ σ.2.1 15 j ≤ 300 := fun j => hT.2 15 j
  have A16 : ∀ j, 0 ≤ σ.2.1 16 j ∧ σ.2.1 16 j ≤ 999 := fun j => hT.2 16 j
  have A17 : ∀ j, (-1) ≤ σ.2.1 17 j ∧ σ.2.1 17 j ≤ 1499 := fun j => hT.2 17 j
  have A18 : ∀ j, 0 ≤ σ.2.1 18 j ∧ σ.2.1 18 j ≤ 90000 := fun j => hT.2 18 j
  have A19 : ∀ j, 0 ≤ σ.2.1 19 j ∧ σ.2.1 19 j ≤ 60 := fun j => hT.2 19 j
  have A20 : ∀ j, 0 ≤ σ.2.1 20 j ∧ σ.2.1 20 j ≤ 1499 := fun j => hT.2 20 j
  have A86 : ∀ j, (-1500) ≤ σ.2.1 86 j ∧ σ.2.1 86 j ≤ 1499 := fun j => hT.2 86 j
  have A87 : ∀ j, 0 ≤ σ.2.1 87 j ∧ σ.2.1 87 j ≤ 120000 := fun j => hT.2 87 j
  have A88 : ∀ j, 0 ≤ σ.2.1 88 j ∧ σ.2.1 88 j ≤ 59 := fun j => hT.2 88 j
  have A89 : ∀ j, 0 ≤ σ.2.1 89 j ∧ σ.2.1 89 j ≤ 59 := fun j => hT.2 89 j
  have A90 : ∀ j, (-1) ≤ σ.2.1 90 j ∧ σ.2.1 90 j ≤ 99 := fun j => hT.2 90 j
  have A91 : ∀ j, 0 ≤ σ.2.1 91 j ∧ σ.2.1 91 j ≤ 60000 := fun j => hT.2 91 j
  have A94 : ∀ j, (-1) ≤ σ.2.1 94 j ∧ σ.2.1 94 j ≤ 2 := fun j => hT.2 94 j
  have A95 : ∀ j, (-9) ≤ σ.2.1 95 j ∧ σ.2.1 95 j ≤ 1499 := fun j => hT.2 95 j
  have A96 : ∀ j, 0 ≤ σ.2.1 96 j ∧ σ.2.1 96 j ≤ 1 := fun j => hT.2 96 j
  have v3 : 0 ≤ σ.1 3 ∧ σ.1 3 ≤ 1000 := hT.1 3
  have v4 : 0 ≤ σ.1 4 ∧ σ.1 4 ≤ 100 := hT.1 4
  have v5 : 0 ≤ σ.1 5 ∧ σ.1 5 ≤ 1500 := hT.1 5
  have v10 : (-1) ≤ σ.1 10 ∧ σ.1 10 ≤ 999 := hT.1 10
  have v11 : (-1) ≤ σ.1 11 ∧ σ.1 11 ≤ 999 := hT.1 11
  have v48 : 0 ≤ σ.1 48 ∧ σ.1 48 ≤ 1500 := hT.1 48
  have v49 : 0 ≤ σ.1 49 ∧ σ.1 49 ≤ 1 := hT.1 49
  have v51 : 0 ≤ σ.1 51 ∧ σ.1 51 ≤ 60000 := hT.1 51
  have v52 : 0 ≤ σ.1 52 ∧ σ.1 52 ≤ 120000 := hT.1 52
  have W3 : σ.1 3 = σ.1 3 := rfl
  have W4 : σ.1 4 = σ.1 4 := rfl
  have W5 : σ.1 5 = σ.1 5 := rfl
  have W10 : σ.1 10 = σ.1 10 := rfl
  have W11 : σ.1 11 = σ.1 11 := rfl
  have G8 : σ.2.1 8 = σ.2.1 8 := rfl
  have G10 : σ.2.1 10 = σ.2.1 10 := rfl
  have G12 : σ.2.1 12 = σ.2.1 12 := rfl
  have G13 : σ.2.1 13 = σ.2.1 13 := rfl
  have G14 : σ.2.1 14 = σ.2.1 14 := rfl
  have G15 : σ.2.1 15 = σ.2.1 15 := rfl
  have G16 : σ.2.1 16 = σ.2.1 16 := rfl
  have G17 : σ.2.1 17 = σ.2.1 17 := rfl
  have G18 : σ.2.1 18 = σ.2.1 18 := rfl
  have G19 : σ.2.1 19 = σ.2.1 19 := rfl
  have G20 : σ.2.1 20 = σ.2.1 20 := rfl
  have G96 : σ.2.1 96 = σ.2.1 96 := rfl
  have Y20 : ca (σ.2.1 12) ((σ.1 3)) ≤ (σ.1 4) := p3
  have Y20_0 := Y20
  unfold W_X13_ruleOf
  refine ⟨(show 0 ≤ n1 ∧ n1 < 1501 from by (first | omega | (simp only [st_s] <;> omega) | assumption | omega | fail)), ?_⟩
  intro x2 r_x2 e_x2
  have b_x2 : 0 ≤ x2 ∧ x2 ≤ 4 := by rw [e_x2]; exact hT.2 13 _
  refine ⟨fun c3 => ?_, fun c3 => ?_⟩
  ·
    exact ⟨hT, (show y_CT σ from by (first | exact p10 | exact q6_1 | fail)), (show ((σ.1 49) = 0 ∨ (y_TT σ σ (σ.1 5) (σ.1 5) ∧ y_Un σ (σ.1 5) (σ.1 48) (σ.2.1 84))) from by (first | exact p7 | exact q6_2 | fail)), (show (σ.1 51) = (σ.1 51) ∧ (σ.1 52) = (σ.1 52) from by (first | exact ⟨rfl, rfl⟩ | exact q6_3 | fail)), (show y_KC σ σ from by (first | exact y_KC_0 σ | exact q6_4 | fail)), (show y_DT σ from by (first | exact p12 | exact q6_5 | fail)), (show ∀ i : Int, ¬ i = n1 → σ.2.1 95 i = σ.2.1 95 i from by (first | exact fun _ _ => rfl | exact q6_7 | fail)), (show ¬ σ.2.1 95 n1 = -9 → σ = σ from by (first | exact fun _ => rfl | exact q6_8 | fail)), (show (-1) = -1 ∨ (σ.2.1 95 n1 = (-1) ∧ ¬ (-1) = -9) from by (first | exact Or.inl rfl | exact Or.inr q6_6 | fail)), (show σ.2.1 13 n1 = 2 → σ.2.1 15 n1 ≤ 60 → σ.2.1 95 n1 = (-1) ∧ ¬ (-1) = -9 from by (first | (intro a; exfalso; omega) | (intro a b; exfalso; omega) | exact fun _ _ => q6_6 | fail)), (show ¬ (-1) = -1 → σ.2.1 13 n1 = 2 ∧ σ.2.1 15 n1 ≤ 60 from by (first | (intro z; exfalso; omega) | (intro _; exact ⟨by omega, by omega⟩) | fail))⟩
  ·
    intro x4 r_x4 e_x4
    have b_x4 : 0 ≤ x4 ∧ x4 ≤ 300 := by rw [e_x4]; exact hT.2 15 _
    refine ⟨fun c5 => ?_, fun c5 => ?_⟩
    ·
      exact ⟨hT, (show y_CT σ from by (first | exact p10 | exact q6_1 | fail)), (show ((σ.1 49) = 0 ∨ (y_TT σ σ (σ.1 5) (σ.1 5) ∧ y_Un σ (σ.1 5) (σ.1 48) (σ.2.1 84))) from by (first | exact p7 | exact q6_2 | fail)), (show (σ.1 51) = (σ.1 51) ∧ (σ.1 52) = (σ.1 52) from by (first | exact ⟨rfl, rfl⟩ | exact q6_3 | fail)), (show y_KC σ σ from by (first | exact y_KC_0 σ | exact q6_4 | fail)), (show y_DT σ from by (first | exact p12 | exact q6_5 | fail)), (show ∀ i : Int, ¬ i = n1 → σ.2.1 95 i = σ.2.1 95 i from by (first | exact fun _ _ => rfl | exact q6_7 | fail)), (show ¬ σ.2.1 95 n1 = -9 → σ = σ from by (first | exact fun _ => rfl | exact q6_8 | fail)), (show (-1) = -1 ∨ (σ.2.1 95 n1 = (-1) ∧ ¬ (-1) = -9) from by (first | exact Or.inl rfl | exact Or.inr q6_6 | fail)), (show σ.2.1 13 n1 = 2 → σ.2.1 15 n1 ≤ 60 → σ.2.1 95 n1 = (-1) ∧ ¬ (-1) = -9 from by (first | (intro a; exfalso; omega) | (intro a b; exfalso; omega) | exact fun _ _ => q6_6 | fail)), (show ¬ (-1) = -1 → σ.2.1 13 n1 = 2 ∧ σ.2.1 15 n1 ≤ 60 from by (first | (intro z; exfalso; omega) | (intro _; exact ⟨by omega, by omega⟩) | fail))⟩
    ·
      refine ⟨_, K_X13_definitionOf hT (show 0 ≤ n1 from by (first | omega | (simp only [st_s] <;> omega) | assumption | omega | fail)) (show n1 < (σ.1 5) from by (first | omega | (simp only [st_s] <;> omega) | assumption | omega | fail)) (show σ.2.1 15 n1 ≤ 60 from by (first | omega | (simp only [st_s] <;> omega) | assumption | omega | fail)) (show ca (σ.2.1 12) ((σ.1 3)) ≤ (σ.1 4) from Y20) (show n_J σ from by (first | omega | (simp only [st_s] <;> omega) | assumption | omega | fail)) (show m_J σ from by (first | omega | (simp only [st_s] <;> omega) | assumption | omega | fail)) (show (σ.1 10) < (σ.1 3) from by (first | omega | (simp only [st_s] <;> omega) | assumption | omega | fail)) (show (σ.1 49) = 0 ∨ (y_TT σ σ (σ.1 5) (σ.1 5) ∧ y_Un σ (σ.1 5) (σ.1 48) (σ.2.1 84)) from by (first | omega | (simp only [st_s] <;> omega) | assumption | omega | fail)) (show (σ.1 51) ≤ 47000 from by (first | omega | (simp only [st_s] <;> omega) | assumption | omega | fail)) (show (σ.1 52) ≤ 88000 from by (first | omega | (simp only [st_s] <;> omega) | assumption | omega | fail)) (show y_CT σ from by (first | omega | (simp only [st_s] <;> omega) | assumption | omega | fail)) (show y_EQ σ from by (first | omega | (simp only [st_s] <;> omega) | assumption | omega | fail)) (show y_DT σ from by (first | omega | (simp only [st_s] <;> omega) | assumption | omega | fail)), ?_⟩
      intro x7 τ8 r_x7 hn_τ8 hf_τ8 hq
      obtain ⟨hT, q6_1, q6_2, q6_3, q6_4, q6_5, q6_6, q6_7, q6_8⟩ := hq
      replace q6_1 : y_CT τ8 := q6_1
      replace q6_2 : ((τ8.1 49) = 0 ∨ (y_TT τ8 τ8 (σ.1 5) (σ.1 5) ∧ y_Un τ8 (σ.1 5) (τ8.1 48) (τ8.2.1 84))) := q6_2
      replace q6_3 : (τ8.1 51) = (σ.1 51) ∧ (τ8.1 52) = (σ.1 52) := q6_3
      replace q6_4 : y_KC σ τ8 := q6_4
      replace q6_5 : y_DT τ8 := q6_5
      replace q6_6 : τ8.2.1 95 n1 = x7 ∧ ¬ x7 = -9 := q6_6
      replace q6_7 : ∀ i : Int, ¬ i = n1 → τ8.2.1 95 i = σ.2.1 95 i := q6_7
      replace q6_8 : ¬ σ.2.1 95 n1 = -9 → τ8 = σ := q6_8
      have w3_τ8 : τ8.1 3 = σ.1 3 := hf_τ8.1 3 (by decide)
      have w4_τ8 : τ8.1 4 = σ.1 4 := hf_τ8.1 4 (by decide)
      have w5_τ8 : τ8.1 5 = σ.1 5 := hf_τ8.1 5 (by decide)
      have w10_τ8 : τ8.1 10 = σ.1 10 := hf_τ8.1 10 (by decide)
      have w11_τ8 : τ8.1 11 = σ.1 11 := hf_τ8.1 11 (by decide)
      have g8_τ8 : τ8.2.1 8 = σ.2.1 8 := hf_τ8.2.1 8 (by decide)
      have g10_τ8 : τ8.2.1 10 = σ.2.1 10 := hf_τ8.2.1 10 (by decide)
      have g12_τ8 : τ8.2.1 12 = σ.2.1 12 := hf_τ8.2.1 12 (by decide)
      have g13_τ8 : τ8.2.1 13 = σ.2.1 13 := hf_τ8.2.1 13 (by decide)
      have g14_τ8 : τ8.2.1 14 = σ.2.1 14 := hf_τ8.2.1 14 (by decide)
      have g15_τ8 : τ8.2.1 15 = σ.2.1 15 := hf_τ8.2.1 15 (by decide)
      have g16_τ8 : τ8.2.1 16 = σ.2.1 16 := hf_τ8.2.1 16 (by decide)
      have g17_τ8 : τ8.2.1 17 = σ.2.1 17 := hf_τ8.2.1 17 (by decide)
      have g18_τ8 : τ8.2.1 18 = σ.2.1 18 := hf_τ8.2.1 18 (by decide)
      have g19_τ8 : τ8.2.1 19 = σ.2.1 19 := hf_τ8.2.1 19 (by decide)
      have g20_τ8 : τ8.2.1 20 = σ.2.1 20 := hf_τ8.2.1 20 (by decide)
      have g96_τ8 : τ8.2.1 96 = σ.2.1 96 := hf_τ8.2.1 96 (by decide)
      have W3 : τ8.1 3 = σ.1 3 := by first | exact w3_τ8.trans W3 | omega
      have W4 : τ8.1 4 = σ.1 4 := by first | exact w4_τ8.trans W4 | omega
      have W5 : τ8.1 5 = σ.1 5 := by first | exact w5_τ8.trans W5 | omega
      have W10 : τ8.1 10 = σ.1 10 := by first | exact w10_τ8.trans W10 | omega
      have W11 : τ8.1 11 = σ.1 11 := by first | exact w11_τ8.trans W11 | omega
      have G8 : τ8.2.1 8 = σ.2.1 8 := (g8_τ8).trans G8
      have G10 : τ8.2.1 10 = σ.2.1 10 := (g10_τ8).trans G10
      have G12 : τ8.2.1 12 = σ.2.1 12 := (g12_τ8).trans G12
      have G13 : τ8.2.1 13 = σ.2.1 13 := (g13_τ8).trans G13
      have G14 : τ8.2.1 14 = σ.2.1 14 := (g14_τ8).trans G14
      have G15 : τ8.2.1 15 = σ.2.1 15 := (g15_τ8).trans G15
      have G16 : τ8.2.1 16 = σ.2.1 16 := (g16_τ8).trans G16
      have G17 : τ8.2.1 17 = σ.2.1 17 := (g17_τ8).trans G17
      have G18 : τ8.2.1 18 = σ.2.1 18 := (g18_τ8).trans G18
      have G19 : τ8.2.1 19 = σ.2.1 19 := (g19_τ8).trans G19
      have G20 : τ8.2.1 20 = σ.2.1 20 := (g20_τ8).trans G20
      have G96 : τ8.2.1 96 = σ.2.1 96 := (g96_τ8).trans G96
      have Y20 : ca (τ8.2.1 12) ((τ8.1 3)) ≤ (τ8.1 4) := by rw [show (ca (τ8.2.1 12) ((τ8.1 3)) ≤ (τ8.1 4)) = (ca (σ.2.1 12) ((σ.1 3)) ≤ (σ.1 4)) from by rw [w3_τ8, w4_τ8, g12_τ8]]; exact Y20
      have A8 : ∀ j, 0 ≤ τ8.2.1 8 j ∧ τ8.2.1 8 j ≤ 1 := fun j => hT.2 8 j
      have A10 : ∀ j, (-1) ≤ τ8.2.1 10 j ∧ τ8.2.1 10 j ≤ 999 := fun j => hT.2 10 j
      have A12 : ∀ j, 0 ≤ τ8.2.1 12 j ∧ τ8.2.1 12 j ≤ 1 := fun j => hT.2 12 j
      have A13 : ∀ j, 0 ≤ τ8.2.1 13 j ∧ τ8.2.1 13 j ≤ 4 := fun j => hT.2 13 j
      have A14 : ∀ j, 0 ≤ τ8.2.1 14 j ∧ τ8.2.1 14 j ≤ 30000 := fun j => hT.2 14 j
      have A15 : ∀ j, 0 ≤ τ8.2.1 15 j ∧ τ8.2.1 15 j ≤ 300 := fun j => hT.2 15 j
      have A16 : ∀ j, 0 ≤ τ8.2.1 16 j ∧ τ8.2.1 16 j ≤ 999 := fun j => hT.2 16 j
      have A17 : ∀ j, (-1) ≤ τ8.2.1 17 j ∧ τ8.2.1 17 j ≤ 1499 := fun j => hT.2 17 j
      have A18 : ∀ j, 0 ≤ τ8.2.1 18 j ∧ τ8.2.1 18 j ≤ 90000 := fun j => hT.2 18 j
      have A19 : ∀ j, 0 ≤ τ8.2.1 19 j ∧ τ8.2.1 19 j ≤ 60 := fun j => hT.2 19 j
      have A20 : ∀ j, 0 ≤ τ8.2.1 20 j ∧ τ8.2.1 20 j ≤ 1499 := fun j => hT.2 20 j
      have A86 : ∀ j, (-1500) ≤ τ8.2.1 86 j ∧ τ8.2.1 86 j ≤ 1499 := fun j => hT.2 86 j
      have A87 : ∀ j, 0 ≤ τ8.2.1 87 j ∧ τ8.2.1 87 j ≤ 120000 := fun j => hT.2 87 j
      have A88 : ∀ j, 0 ≤ τ8.2.1 88 j ∧ τ8.2.1 88 j ≤ 59 := fun j => hT.2 88 j
      have A89 : ∀ j, 0 ≤ τ8.2.1 89 j ∧ τ8.2.1 89 j ≤ 59 := fun j => hT.2 89 j
      have A90 : ∀ j, (-1) ≤ τ8.2.1 90 j ∧ τ8.2.1 90 j ≤ 99 := fun j => hT.2 90 j
      have A91 : ∀ j, 0 ≤ τ8.2.1 91 j ∧ τ8.2.1 91 j ≤ 60000 := fun j => hT.2 91 j
      have A94 : ∀ j, (-1) ≤ τ8.2.1 94 j ∧ τ8.2.1 94 j ≤ 2 := fun j => hT.2 94 j
      have A95 : ∀ j, (-9) ≤ τ8.2.1 95 j ∧ τ8.2.1 95 j ≤ 1499 := fun j => hT.2 95 j
      have A96 : ∀ j, 0 ≤ τ8.2.1 96 j ∧ τ8.2.1 96 j ≤ 1 := fun j => hT.2 96 j
      have v3 : 0 ≤ τ8.1 3 ∧ τ8.1 3 ≤ 1000 := hT.1 3
      have v4 : 0 ≤ τ8.1 4 ∧ τ8.1 4 ≤ 100 := hT.1 4
      have v5 : 0 ≤ τ8.1 5 ∧ τ8.1 5 ≤ 1500 := hT.1 5
      have v10 : (-1) ≤ τ8.1 10 ∧ τ8.1 10 ≤ 999 := hT.1 10
      have v11 : (-1) ≤ τ8.1 11 ∧ τ8.1 11 ≤ 999 := hT.1 11
      have v48 : 0 ≤ τ8.1 48 ∧ τ8.1 48 ≤ 1500 := hT.1 48
      have v49 : 0 ≤ τ8.1 49 ∧ τ8.1 49 ≤ 1 := hT.1 49
      have v51 : 0 ≤ τ8.1 51 ∧ τ8.1 51 ≤ 60000 := hT.1 51
      have v52 : 0 ≤ τ8.1 52 ∧ τ8.1 52 ≤ 120000 := hT.1 52
      exact ⟨hT, (show y_CT τ8 from by (first | exact p10 | exact q6_1 | fail)), (show ((τ8.1 49) = 0 ∨ (y_TT τ8 τ8 (σ.1 5) (σ.1 5) ∧ y_Un τ8 (σ.1 5) (τ8.1 48) (τ8.2.1 84))) from by (first | exact p7 | exact q6_2 | fail)), (show (τ8.1 51) = (σ.1 51) ∧ (τ8.1 52) = (σ.1 52) from by (first | exact ⟨rfl, rfl⟩ | exact q6_3 | fail)), (show y_KC σ τ8 from by (first | exact y_KC_0 σ | exact q6_4 | fail)), (show y_DT τ8 from by (first | exact p12 | exact q6_5 | fail)), (show ∀ i : Int, ¬ i = n1 → τ8.2.1 95 i = σ.2.1 95 i from by (first | exact fun _ _ => rfl | exact q6_7 | fail)), (show ¬ σ.2.1 95 n1 = -9 → τ8 = σ from by (first | exact fun _ => rfl | exact q6_8 | fail)), (show x7 = -1 ∨ (τ8.2.1 95 n1 = x7 ∧ ¬ x7 = -9) from by (first | exact Or.inl rfl | exact Or.inr q6_6 | fail)), (show σ.2.1 13 n1 = 2 → σ.2.1 15 n1 ≤ 60 → τ8.2.1 95 n1 = x7 ∧ ¬ x7 = -9 from by (first | (intro a; exfalso; omega) | (intro a b; exfalso; omega) | exact fun _ _ => q6_6 | fail)), (show ¬ x7 = -1 → σ.2.1 13 n1 = 2 ∧ σ.2.1 15 n1 ≤ 60 from by (first | (intro z; exfalso; omega) | (intro _; exact ⟨by omega, by omega⟩) | fail))⟩
