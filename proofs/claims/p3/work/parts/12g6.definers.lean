
set_option maxHeartbeats 4000000 in
theorem K_X13_findDefiners {n1 : Int} {σ : S0} (hT : m_T σ) (p1 : 0 ≤ n1) (p2 : n1 < (σ.1 5)) (p3 : σ.2.1 15 n1 ≤ 60) (p4 : ca (σ.2.1 12) ((σ.1 3)) ≤ (σ.1 4)) (p5 : (σ.1 10) < (σ.1 3)) (p6 : y_BI σ σ) : W_X13_findDefiners n1 σ (fun (τ : S0) => (m_T τ) ∧ (y_BI σ τ) ∧ (z_D1 τ n1) ∧ (z_N1 τ n1) ∧ (z_N2 τ (-1)) ∧ (¬ τ.2.1 94 n1 = -1)) := by
  have A8 : ∀ j, 0 ≤ σ.2.1 8 j ∧ σ.2.1 8 j ≤ 1 := fun j => hT.2 8 j
  have A10 : ∀ j, (-1) ≤ σ.2.1 10 j ∧ σ.2.1 10 j ≤ 999 := fun j => hT.2 10 j
  have A12 : ∀ j, 0 ≤ σ.2.1 12 j ∧ σ.2.1 12 j ≤ 1 := fun j => hT.2 12 j
  have A13 : ∀ j, 0 ≤ σ.2.1 13 j ∧ σ.2.1 13 j ≤ 4 := fun j => hT.2 13 j
  have A14 : ∀ j, 0 ≤ σ.2.1 14 j ∧ σ.2.1 14 j ≤ 30000 := fun j => hT.2 14 j
  have A15 : ∀ j, 0 ≤ σ.2.1 15 j ∧ σ.2.1 15 j ≤ 300 := fun j => hT.2 15 j
  have A16 : ∀ j, 0 ≤ σ.2.1 16 j ∧ σ.2.1 16 j ≤ 999 := fun j => hT.2 16 j
  have A17 : ∀ j, (-1) ≤ σ.2.1 17 j ∧ σ.2.1 17 j ≤ 1499 := fun j => hT.2 17 j
  have A18 : ∀ j, 0 ≤ σ.2.1 18 j ∧ σ.2.1 18 j ≤ 90000 := fun j => hT.2 18 j
  have A19 : ∀ j, 0 ≤ σ.2.1 19 j ∧ σ.2.1 19 j ≤ 60 := fun j => hT.2 19 j
  have A20 : ∀ j, 0 ≤ σ.2.1 20 j ∧ σ.2.1 20 j ≤ 1499 := fun j => hT.2 20 j
  have A97 : ∀ j, (-1) ≤ σ.2.1 97 j ∧ σ.2.1 97 j ≤ 1499 := fun j => hT.2 97 j
  have A98 : ∀ j, 0 ≤ σ.2.1 98 j ∧ σ.2.1 98 j ≤ 1 := fun j => hT.2 98 j
  have v3 : 0 ≤ σ.1 3 ∧ σ.1 3 ≤ 1000 := hT.1 3
  have v4 : 0 ≤ σ.1 4 ∧ σ.1 4 ≤ 100 := hT.1 4
  have v5 : 0 ≤ σ.1 5 ∧ σ.1 5 ≤ 1500 := hT.1 5
  have v10 : (-1) ≤ σ.1 10 ∧ σ.1 10 ≤ 999 := hT.1 10
  have v11 : (-1) ≤ σ.1 11 ∧ σ.1 11 ≤ 999 := hT.1 11
  have v48 : 0 ≤ σ.1 48 ∧ σ.1 48 ≤ 1500 := hT.1 48
  have v49 : 0 ≤ σ.1 49 ∧ σ.1 49 ≤ 1 := hT.1 49
  have v51 : 0 ≤ σ.1 51 ∧ σ.1 51 ≤ 60000 := hT.1 51
  have v52 : 0 ≤ σ.1 52 ∧ σ.1 52 ≤ 120000 := hT.1 52
  have W3 : σ.1 3 = σ.1 3 := rfl
  have W4 : σ.1 4 = σ.1 4 := rfl
  have W5 : σ.1 5 = σ.1 5 := rfl
  have W10 : σ.1 10 = σ.1 10 := rfl
  have W11 : σ.1 11 = σ.1 11 := rfl
  have G8 : σ.2.1 8 = σ.2.1 8 := rfl
  have G10 : σ.2.1 10 = σ.2.1 10 := rfl
  have G12 : σ.2.1 12 = σ.2.1 12 := rfl
  have G13 : σ.2.1 13 = σ.2.1 13 := rfl
  have G14 : σ.2.1 14 = σ.2.1 14 := rfl
  have G15 : σ.2.1 15 = σ.2.1 15 := rfl
  have G16 : σ.2.1 16 = σ.2.1 16 := rfl
  have G17 : σ.2.1 17 = σ.2.1 17 := rfl
  have G18 : σ.2.1 18 = σ.2.1 18 := rfl
  have G19 : σ.2.1 19 = σ.2.1 19 := rfl
  have G20 : σ.2.1 20 = σ.2.1 20 := rfl
  intro P2 P32 P81 h2 h32 h81
  have l5 : σ.1 5 ≤ 1500 := (hT.1 5).2
  have Y20 : ca (σ.2.1 12) ((σ.1 3)) ≤ (σ.1 4) := p4
  have Y20_0 := Y20
  have l_81 : ∀ (m_81 : Nat) (u2_81 : Int) (τ_81 : S0), u2_81 + 2 < (m_81 : Int) → (m_T τ_81) → (τ_81.1 3 = σ.1 3) → (τ_81.1 4 = σ.1 4) → (τ_81.1 5 = σ.1 5) → (τ_81.1 10 = σ.1 10) → (τ_81.1 11 = σ.1 11) → (τ_81.2.1 8 = σ.2.1 8) → (τ_81.2.1 10 = σ.2.1 10) → (τ_81.2.1 12 = σ.2.1 12) → (τ_81.2.1 13 = σ.2.1 13) → (τ_81.2.1 14 = σ.2.1 14) → (τ_81.2.1 15 = σ.2.1 15) → (τ_81.2.1 16 = σ.2.1 16) → (τ_81.2.1 17 = σ.2.1 17) → (τ_81.2.1 18 = σ.2.1 18) → (τ_81.2.1 19 = σ.2.1 19) → (τ_81.2.1 20 = σ.2.1 20) → (y_BI σ τ_81) → (-1 ≤ u2_81 ∧ u2_81 ≤ n1 - 1) → (z_D1 τ_81 n1) → (z_N1 τ_81 n1) → (z_N2 τ_81 u2_81) → (¬ τ_81.2.1 94 n1 = -1) → P81 u2_81 τ_81 := by
    intro m_81
    induction m_81 with
    | zero =>
      intro u2_81 τ_81 hm hT W3 W4 W5 W10 W11 G8 G10 G12 G13 G14 G15 G16 G17 G18 G19 G20 i81_1 i81_2 i81_3 i81_4 i81_5 i81_6
      have A8 : ∀ j, 0 ≤ τ_81.2.1 8 j ∧ τ_81.2.1 8 j ≤ 1 := fun j => hT.2 8 j
      have A10 : ∀ j, (-1) ≤ τ_81.2.1 10 j ∧ τ_81.2.1 10 j ≤ 999 := fun j => hT.2 10 j
      have A12 : ∀ j, 0 ≤ τ_81.2.1 12 j ∧ τ_81.2.1 12 j ≤ 1 := fun j => hT.2 12 j
      have A13 : ∀ j, 0 ≤ τ_81.2.1 13 j ∧ τ_81.2.1 13 j ≤ 4 := fun j => hT.2 13 j
      have A14 : ∀ j, 0 ≤ τ_81.2.1 14 j ∧ τ_81.2.1 14 j ≤ 30000 := fun j => hT.2 14 j
      have A15 : ∀ j, 0 ≤ τ_81.2.1 15 j ∧ τ_81.2.1 15 j ≤ 300 := fun j => hT.2 15 j
      have A16 : ∀ j, 0 ≤ τ_81.2.1 16 j ∧ τ_81.2.1 16 j ≤ 999 := fun j => hT.2 16 j
      have A17 : ∀ j, (-1) ≤ τ_81.2.1 17 j ∧ τ_81.2.1 17 j ≤ 1499 := fun j => hT.2 17 j
      have A18 : ∀ j, 0 ≤ τ_81.2.1 18 j ∧ τ_81.2.1 18 j ≤ 90000 := fun j => hT.2 18 j
      have A19 : ∀ j, 0 ≤ τ_81.2.1 19 j ∧ τ_81.2.1 19 j ≤ 60 := fun j => hT.2 19 j
      have A20 : ∀ j, 0 ≤ τ_81.2.1 20 j ∧ τ_81.2.1 20 j ≤ 1499 := fun j => hT.2 20 j
      have A97 : ∀ j, (-1) ≤ τ_81.2.1 97 j ∧ τ_81.2.1 97 j ≤ 1499 := fun j => hT.2 97 j
      have A98 : ∀ j, 0 ≤ τ_81.2.1 98 j ∧ τ_81.2.1 98 j ≤ 1 := fun j => hT.2 98 j
      have v3 : 0 ≤ τ_81.1 3 ∧ τ_81.1 3 ≤ 1000 := hT.1 3
      have v4 : 0 ≤ τ_81.1 4 ∧ τ_81.1 4 ≤ 100 := hT.1 4
      have v5 : 0 ≤ τ_81.1 5 ∧ τ_81.1 5 ≤ 1500 := hT.1 5
      have v10 : (-1) ≤ τ_81.1 10 ∧ τ_81.1 10 ≤ 999 := hT.1 10
      have v11 : (-1) ≤ τ_81.1 11 ∧ τ_81.1 11 ≤ 999 := hT.1 11
      have v48 : 0 ≤ τ_81.1 48 ∧ τ_81.1 48 ≤ 1500 := hT.1 48
      have v49 : 0 ≤ τ_81.1 49 ∧ τ_81.1 49 ≤ 1 := hT.1 49
      have v51 : 0 ≤ τ_81.1 51 ∧ τ_81.1 51 ≤ 60000 := hT.1 51
      have v52 : 0 ≤ τ_81.1 52 ∧ τ_81.1 52 ≤ 120000 := hT.1 52
      exfalso; (first | omega | (simp only [st_s] <;> omega) | assumption | omega | fail)
    | succ m_81 ih_81 =>
      intro u2_81 τ_81 hm_81 hT W3 W4 W5 W10 W11 G8 G10 G12 G13 G14 G15 G16 G17 G18 G19 G20 i81_1 i81_2 i81_3 i81_4 i81_5 i81_6
      have A8 : ∀ j, 0 ≤ τ_81.2.1 8 j ∧ τ_81.2.1 8 j ≤ 1 := fun j => hT.2 8 j
      have A10 : ∀ j, (-1) ≤ τ_81.2.1 10 j ∧ τ_81.2.1 10 j ≤ 999 := fun j => hT.2 10 j
      have A12 : ∀ j, 0 ≤ τ_81.2.1 12 j ∧ τ_81.2.1 12 j ≤ 1 := fun j => hT.2 12 j
      have A13 : ∀ j, 0 ≤ τ_81.2.1 13 j ∧ τ_81.2.1 13 j ≤ 4 := fun j => hT.2 13 j
      have A14 : ∀ j, 0 ≤ τ_81.2.1 14 j ∧ τ_81.2.1 14 j ≤ 30000 := fun j => hT.2 14 j
      have A15 : ∀ j, 0 ≤ τ_81.2.1 15 j ∧ τ_81.2.1 15 j ≤ 300 := fun j => hT.2 15 j
      have A16 : ∀ j, 0 ≤ τ_81.2.1 16 j ∧ τ_81.2.1 16 j ≤ 999 := fun j => hT.2 16 j
      have A17 : ∀ j, (-1) ≤ τ_81.2.1 17 j ∧ τ_81.2.1 17 j ≤ 1499 := fun j => hT.2 17 j
      have A18 : ∀ j, 0 ≤ τ_81.2.1 18 j ∧ τ_81.2.1 18 j ≤ 90000 := fun j => hT.2 18 j
      have A19 : ∀ j, 0 ≤ τ_81.2.1 19 j ∧ τ_81.2.1 19 j ≤ 60 := fun j => hT.2 19 j
      have A20 : ∀ j, 0 ≤ τ_81.2.1 20 j ∧ τ_81.2.1 20 j ≤ 1499 := fun j => hT.2 20 j
      have A97 : ∀ j, (-1) ≤ τ_81.2.1 97 j ∧ τ_81.2.1 97 j ≤ 1499 := fun j => hT.2 97 j
      have A98 : ∀ j, 0 ≤ τ_81.2.1 98 j ∧ τ_81.2.1 98 j ≤ 1 := fun j => hT.2 98 j
      have v3 : 0 ≤ τ_81.1 3 ∧ τ_81.1 3 ≤ 1000 := hT.1 3
      have v4 : 0 ≤ τ_81.1 4 ∧ τ_81.1 4 ≤ 100 := hT.1 4
      have v5 : 0 ≤ τ_81.1 5 ∧ τ_81.1 5 ≤ 1500 := hT.1 5
      have v10 : (-1) ≤ τ_81.1 10 ∧ τ_81.1 10 ≤ 999 := hT.1 10
      have v11 : (-1) ≤ τ_81.1 11 ∧ τ_81.1 11 ≤ 999 := hT.1 11
      have v48 : 0 ≤ τ_81.1 48 ∧ τ_81.1 48 ≤ 1500 := hT.1 48
      have v49 : 0 ≤ τ_81.1 49 ∧ τ_81.1 49 ≤ 1 := hT.1 49
      have v51 : 0 ≤ τ_81.1 51 ∧ τ_81.1 51 ≤ 60000 := hT.1 51
      have v52 : 0 ≤ τ_81.1 52 ∧ τ_81.1 52 ≤ 120000 := hT.1 52
      have Y20 : ca (τ_81.2.1 12) ((τ_81.1 3)) ≤ (τ_81.1 4) := by rw [show (ca (τ_81.2.1 12) ((τ_81.1 3)) ≤ (τ_81.1 4)) = (ca (σ.2.1 12) ((σ.1 3)) ≤ (σ.1 4)) from by rw [W3, W4, G12]]; exact Y20_0
      refine h81 u2_81 τ_81 ?_
      refine ⟨fun c19 => ?_, fun c19 => ?_⟩
      ·
        exact ⟨hT, (show y_BI σ τ_81 from by exact i81_1), (show z_D1 τ_81 n1 from by exact i81_3), (show z_N1 τ_81 n1 from by exact i81_4), (show z_N2 τ_81 (-1) from by (rw [show (-1 : Int) = u2_81 from by omega]; exact i81_5)), (show ¬ τ_81.2.1 94 n1 = -1 from by exact i81_6)⟩
      ·
        refine ⟨_, K_X13_ruleOf hT (show 0 ≤ u2_81 from by (first | omega | (simp only [st_s] <;> omega) | assumption | omega | fail)) (show u2_81 < (τ_81.1 5) from by (first | omega | (simp only [st_s] <;> omega) | assumption | omega | fail)) (show ca (τ_81.2.1 12) ((τ_81.1 3)) ≤ (τ_81.1 4) from Y20) (show n_J τ_81 from by exact i81_1.2.2.1) (show m_J τ_81 from by exact i81_1.2.2.2.1) (show (τ_81.1 10) < (τ_81.1 3) from by (first | omega | (simp only [st_s] <;> omega) | assumption | omega | fail)) (show (τ_81.1 49) = 0 ∨ (y_TT τ_81 τ_81 (τ_81.1 5) (τ_81.1 5) ∧ y_Un τ_81 (τ_81.1 5) (τ_81.1 48) (τ_81.2.1 84)) from by (rw [W5]; exact i81_1.2.1)) (show (τ_81.1 51) ≤ 47000 from by (have w := i81_1.2.2.2.2; omega)) (show (τ_81.1 52) ≤ 88000 from by (have w := i81_1.2.2.2.2; omega)) (show y_CT τ_81 from by exact i81_1.1.1) (show y_EQ τ_81 from by exact i81_1.1.2.2.2.2) (show y_DT τ_81 from by exact i81_1.1.2.2.2.1), ?_⟩
        intro x21 τ22 r_x21 hn_τ22 hf_τ22 hq
        obtain ⟨hT, q20_1, q20_2, q20_3, q20_4, q20_5, q20_6, q20_7, q20_8, q20_9, q20_10⟩ := hq
        replace q20_1 : y_CT τ22 := q20_1
        replace q20_2 : ((τ22.1 49) = 0 ∨ (y_TT τ22 τ22 (τ_81.1 5) (τ_81.1 5) ∧ y_Un τ22 (τ_81.1 5) (τ22.1 48) (τ22.2.1 84))) := q20_2
        replace q20_3 : (τ22.1 51) = (τ_81.1 51) ∧ (τ22.1 52) = (τ_81.1 52) := q20_3
        replace q20_4 : y_KC τ_81 τ22 := q20_4
        replace q20_5 : y_DT τ22 := q20_5
        replace q20_6 : ∀ i : Int, ¬ i = u2_81 → τ22.2.1 95 i = τ_81.2.1 95 i := q20_6
        replace q20_7 : ¬ τ_81.2.1 95 u2_81 = -9 → τ22 = τ_81 := q20_7
        replace q20_8 : x21 = -1 ∨ (τ22.2.1 95 u2_81 = x21 ∧ ¬ x21 = -9) := q20_8
        replace q20_9 : τ_81.2.1 13 u2_81 = 2 → τ_81.2.1 15 u2_81 ≤ 60 → τ22.2.1 95 u2_81 = x21 ∧ ¬ x21 = -9 := q20_9
        replace q20_10 : ¬ x21 = -1 → τ_81.2.1 13 u2_81 = 2 ∧ τ_81.2.1 15 u2_81 ≤ 60 := q20_10
        have w3_τ22 : τ22.1 3 = τ_81.1 3 := hf_τ22.1 3 (by decide)
        have w4_τ22 : τ22.1 4 = τ_81.1 4 := hf_τ22.1 4 (by decide)
        have w5_τ22 : τ22.1 5 = τ_81.1 5 := hf_τ22.1 5 (by decide)
        have w10_τ22 : τ22.1 10 = τ_81.1 10 := hf_τ22.1 10 (by decide)
        have w11_τ22 : τ22.1 11 = τ_81.1 11 := hf_τ22.1 11 (by decide)
        have g8_τ22 : τ22.2.1 8 = τ_81.2.1 8 := hf_τ22.2.1 8 (by decide)
        have g10_τ22 : τ22.2.1 10 = τ_81.2.1 10 := hf_τ22.2.1 10 (by decide)
        have g12_τ22 : τ22.2.1 12 = τ_81.2.1 12 := hf_τ22.2.1 12 (by decide)
        have g13_τ22 : τ22.2.1 13 = τ_81.2.1 13 := hf_τ22.2.1 13 (by decide)
        have g14_τ22 : τ22.2.1 14 = τ_81.2.1 14 := hf_τ22.2.1 14 (by decide)
        have g15_τ22 : τ22.2.1 15 = τ_81.2.1 15 := hf_τ22.2.1 15 (by decide)
        have g16_τ22 : τ22.2.1 16 = τ_81.2.1 16 := hf_τ22.2.1 16 (by decide)
        have g17_τ22 : τ22.2.1 17 = τ_81.2.1 17 := hf_τ22.2.1 17 (by decide)
        have g18_τ22 : τ22.2.1 18 = τ_81.2.1 18 := hf_τ22.2.1 18 (by decide)
        have g19_τ22 : τ22.2.1 19 = τ_81.2.1 19 := hf_τ22.2.1 19 (by decide)
        have g20_τ22 : τ22.2.1 20 = τ_81.2.1 20 := hf_τ22.2.1 20 (by decide)
        have g97_τ22 : τ22.2.1 97 = τ_81.2.1 97 := hf_τ22.2.1 97 (by decide)
        have g98_τ22 : τ22.2.1 98 = τ_81.2.1 98 := hf_τ22.2.1 98 (by decide)
        have W3 : τ22.1 3 = σ.1 3 := by first | exact w3_τ22.trans W3 | omega
        have W4 : τ22.1 4 = σ.1 4 := by first | exact w4_τ22.trans W4 | omega
        have W5 : τ22.1 5 = σ.1 5 := by first | exact w5_τ22.trans W5 | omega
        have W10 : τ22.1 10 = σ.1 10 := by first | exact w10_τ22.trans W10 | omega
        have W11 : τ22.1 11 = σ.1 11 := by first | exact w11_τ22.trans W11 | omega
        have G8 : τ22.2.1 8 = σ.2.1 8 := (g8_τ22).trans G8
        have G10 : τ22.2.1 10 = σ.2.1 10 := (g10_τ22).trans G10
        have G12 : τ22.2.1 12 = σ.2.1 12 := (g12_τ22).trans G12
        have G13 : τ22.2.1 13 = σ.2.1 13 := (g13_τ22).trans G13
        have G14 : τ22.2.1 14 = σ.2.1 14 := (g14_τ22).trans G14
        have G15 : τ22.2.1 15 = σ.2.1 15 := (g15_τ22).trans G15
        have G16 : τ22.2.1 16 = σ.2.1 16 := (g16_τ22).trans G16
        have G17 : τ22.2.1 17 = σ.2.1 17 := (g17_τ22).trans G17
        have G18 : τ22.2.1 18 = σ.2.1 18 := (g18_τ22).trans G18
        have G19 : τ22.2.1 19 = σ.2.1 19 := (g19_τ22).trans G19
        have G20 : τ22.2.1 20 = σ.2.1 20 := (g20_τ22).trans G20
        have Y20 : ca (τ22.2.1 12) ((τ22.1 3)) ≤ (τ22.1 4) := by rw [show (ca (τ22.2.1 12) ((τ22.1 3)) ≤ (τ22.1 4)) = (ca (τ_81.2.1 12) ((τ_81.1 3)) ≤ (τ_81.1 4)) from by rw [w3_τ22, w4_τ22, g12_τ22]]; exact Y20
        have A8 : ∀ j, 0 ≤ τ22.2.1 8 j ∧ τ22.2.1 8 j ≤ 1 := fun j => hT.2 8 j
        have A10 : ∀ j, (-1) ≤ τ22.2.1 10 j ∧ τ22.2.1 10 j ≤ 999 := fun j => hT.2 10 j
        have A12 : ∀ j, 0 ≤ τ22.2.1 12 j ∧ τ22.2.1 12 j ≤ 1 := fun j => hT.2 12 j
        have A13 : ∀ j, 0 ≤ τ22.2.1 13 j ∧ τ22.2.1 13 j ≤ 4 := fun j => hT.2 13 j
        have A14 : ∀ j, 0 ≤ τ22.2.1 14 j ∧ τ22.2.1 14 j ≤ 30000 := fun j => hT.2 14 j
        have A15 : ∀ j, 0 ≤ τ22.2.1 15 j ∧ τ22.2.1 15 j ≤ 300 := fun j => hT.2 15 j
        have A16 : ∀ j, 0 ≤ τ22.2.1 16 j ∧ τ22.2.1 16 j ≤ 999 := fun j => hT.2 16 j
        have A17 : ∀ j, (-1) ≤ τ22.2.1 17 j ∧ τ22.2.1 17 j ≤ 1499 := fun j => hT.2 17 j
        have A18 : ∀ j, 0 ≤ τ22.2.1 18 j ∧ τ22.2.1 18 j ≤ 90000 := fun j => hT.2 18 j
        have A19 : ∀ j, 0 ≤ τ22.2.1 19 j ∧ τ22.2.1 19 j ≤ 60 := fun j => hT.2 19 j
        have A20 : ∀ j, 0 ≤ τ22.2.1 20 j ∧ τ22.2.1 20 j ≤ 1499 := fun j => hT.2 20 j
        have A97 : ∀ j, (-1) ≤ τ22.2.1 97 j ∧ τ22.2.1 97 j ≤ 1499 := fun j => hT.2 97 j
        have A98 : ∀ j, 0 ≤ τ22.2.1 98 j ∧ τ22.2.1 98 j ≤ 1 := fun j => hT.2 98 j
        have v3 : 0 ≤ τ22.1 3 ∧ τ22.1 3 ≤ 1000 := hT.1 3
        have v4 : 0 ≤ τ22.1 4 ∧ τ22.1 4 ≤ 100 := hT.1 4
        have v5 : 0 ≤ τ22.1 5 ∧ τ22.1 5 ≤ 1500 := hT.1 5
        have v10 : (-1) ≤ τ22.1 10 ∧ τ22.1 10 ≤ 999 := hT.1 10
        have v11 : (-1) ≤ τ22.1 11 ∧ τ22.1 11 ≤ 999 := hT.1 11
        have v48 : 0 ≤ τ22.1 48 ∧ τ22.1 48 ≤ 1500 := hT.1 48
        have v49 : 0 ≤ τ22.1 49 ∧ τ22.1 49 ≤ 1 := hT.1 49
        have v51 : 0 ≤ τ22.1 51 ∧ τ22.1 51 ≤ 60000 := hT.1 51
        have v52 : 0 ≤ τ22.1 52 ∧ τ22.1 52 ≤ 120000 := hT.1 52
        have BI22 := y_BI_r i81_1 hf_τ22 q20_1 q20_2 (by (rw [q20_3.1, q20_3.2]; exact i81_1.2.2.2.2)) q20_4 q20_5 rfl rfl
        have SF22 := y_SF_h hf_τ22 rfl rfl
        have e9722 : τ22.2.1 97 = τ_81.2.1 97 := hf_τ22.2.1 97 (by decide)
        have e9822 : τ22.2.1 98 = τ_81.2.1 98 := hf_τ22.2.1 98 (by decide)
        have Xx21 : x21 = -1 ∨ (0 ≤ x21 ∧ x21 < u2_81) := (by rcases q20_8 with z | z; (exact Or.inl z); (have w := q20_5 u2_81 (by omega) (by omega) (by (rw [z.1]; exact z.2)); rw [z.1] at w; exact w.imp id (fun v => v.2.1.1)))
        have c22 : ¬ τ22.2.1 94 n1 = -1 := (by rw [(q20_4 n1 p1 i81_6).1]; exact i81_6)
        have D122 := z_D1_k i81_3 SF22 e9722 (y_95 q20_6 q20_7)
        have N122 := z_N1_k i81_4 q20_4 p1 i81_6 (by omega) (by omega) e9822
        have N222 := z_N2_k i81_5 i81_3 i81_1.1.2.2.2.1 (by omega) q20_4 i81_2.1 (by omega) (by omega) e9722 e9822
        have DX : ∀ d : Int, 0 ≤ d → d < τ22.1 5 → τ22.2.1 97 d = u2_81 → d = x21 := (by intro d d0 d5 e; rcases D122 d d0 d5 with z | ⟨_, z1, z2, z3⟩; (omega); (rw [e] at z1 z2 z3; have w := q20_9 (by (rw [← SF22.1.2.2.2.1]; exact z2)) (by (rw [← SF22.1.2.2.2.2.2.1]; exact z3)); exact z1.symm.trans w.1))
        refine ⟨fun c23 => ?_, fun c23 => ?_⟩
        ·
          refine ⟨(⟨by (first | omega | (simp only [st_s] <;> omega) | assumption | omega | fail), by (first | omega | (simp only [st_s] <;> omega) | assumption | omega | fail)⟩ : rg (u2_81 + (-1))), ?_⟩
          exact ih_81 _ _ (show ((u2_81 + (-1)) + 2 : Int) < ((m_81 : Nat) : Int) from by ((first | omega | (simp only [st_s] <;> omega) | assumption | omega | fail))) hT (show τ22.1 3 = σ.1 3 from by first | exact W3 | omega) (show τ22.1 4 = σ.1 4 from by first | exact W4 | omega) (show τ22.1 5 = σ.1 5 from by first | exact W5 | omega) (show τ22.1 10 = σ.1 10 from by first | exact W10 | omega) (show τ22.1 11 = σ.1 11 from by first | exact W11 | omega) G8 G10 G12 G13 G14 G15 G16 G17 G18 G19 G20 (show y_BI σ τ22 from by (first | exact BI7 | exact BI22 | exact BI34 | fail)) (show -1 ≤ (u2_81 + (-1)) ∧ (u2_81 + (-1)) ≤ n1 - 1 from by (first | omega | (simp only [st_s] <;> omega) | assumption | omega | fail)) (show z_D1 τ22 n1 from by (first | exact D17 | exact D122 | exact D134 | fail)) (show z_N1 τ22 n1 from by (first | exact N17 | exact N122 | exact N134 | fail)) (show z_N2 τ22 (u2_81 + (-1)) from by (first | exact N27 | exact N234 | exact z_N2_n N222 (fun d d0 d5 e => by (have w := DX d d0 d5 e; exfalso; omega)) | exact z_N2_n N222 (fun d d0 d5 e => by (have w := DX d d0 d5 e; exfalso; rw [w, ← e_x26] at e; exact c27 e)) | exact z_N2_n N222 (fun d d0 d5 e => by (have w := DX d d0 d5 e; rw [w, ← e_x29]; exact c30)) | fail)) (show ¬ τ22.2.1 94 n1 = -1 from by (first | exact q5_5 | exact c22 | exact c34 | fail))
        ·
          refine ⟨(show 0 ≤ x21 ∧ x21 < 1501 from by (first | omega | (simp only [st_s] <;> omega) | assumption | omega | fail)), ?_⟩
          intro x26 r_x26 e_x26
          have b_x26 : (-1) ≤ x26 ∧ x26 ≤ 1499 := by rw [e_x26]; exact hT.2 97 _
          refine ⟨fun c27 => ?_, fun c27 => ?_⟩
          ·
            refine ⟨(⟨by (first | omega | (simp only [st_s] <;> omega) | assumption | omega | fail), by (first | omega | (simp only [st_s] <;> omega) | assumption | omega | fail)⟩ : rg (u2_81 + (-1))), ?_⟩
            exact ih_81 _ _ (show ((u2_81 + (-1)) + 2 : Int) < ((m_81 : Nat) : Int) from by ((first | omega | (simp only [st_s] <;> omega) | assumption | omega | fail))) hT (show τ22.1 3 = σ.1 3 from by first | exact W3 | omega) (show τ22.1 4 = σ.1 4 from by first | exact W4 | omega) (show τ22.1 5 = σ.1 5 from by first | exact W5 | omega) (show τ22.1 10 = σ.1 10 from by first | exact W10 | omega) (show τ22.1 11 = σ.1 11 from by first | exact W11 | omega) G8 G10 G12 G13 G14 G15 G16 G17 G18 G19 G20 (show y_BI σ τ22 from by (first | exact BI7 | exact BI22 | exact BI34 | fail)) (show -1 ≤ (u2_81 + (-1)) ∧ (u2_81 + (-1)) ≤ n1 - 1 from by (first | omega | (simp only [st_s] <;> omega) | assumption | omega | fail)) (show z_D1 τ22 n1 from by (first | exact D17 | exact D122 | exact D134 | fail)) (show z_N1 τ22 n1 from by (first | exact N17 | exact N122 | exact N134 | fail)) (show z_N2 τ22 (u2_81 + (-1)) from by (first | exact N27 | exact N234 | exact z_N2_n N222 (fun d d0 d5 e => by (have w := DX d d0 d5 e; exfalso; omega)) | exact z_N2_n N222 (fun d d0 d5 e => by (have w := DX d d0 d5 e; exfalso; rw [w, ← e_x26] at e; exact c27 e)) | exact z_N2_n N222 (fun d d0 d5 e => by (have w := DX d d0 d5 e; rw [w, ← e_x29]; exact c30)) | fail)) (show ¬ τ22.2.1 94 n1 = -1 from by (first | exact q5_5 | exact c22 | exact c34 | fail))
          ·
            intro x29 r_x29 e_x29
            have b_x29 : 0 ≤ x29 ∧ x29 ≤ 1 := by rw [e_x29]; exact hT.2 98 _
            refine ⟨fun c30 => ?_, fun c30 => ?_⟩
            ·
              refine ⟨(⟨by (first | omega | (simp only [st_s] <;> omega) | assumption | omega | fail), by (first | omega | (simp only [st_s] <;> omega) | assumption | omega | fail)⟩ : rg (u2_81 + (-1))), ?_⟩
              exact ih_81 _ _ (show ((u2_81 + (-1)) + 2 : Int) < ((m_81 : Nat) : Int) from by ((first | omega | (simp only [st_s] <;> omega) | assumption | omega | fail))) hT (show τ22.1 3 = σ.1 3 from by first | exact W3 | omega) (show τ22.1 4 = σ.1 4 from by first | exact W4 | omega) (show τ22.1 5 = σ.1 5 from by first | exact W5 | omega) (show τ22.1 10 = σ.1 10 from by first | exact W10 | omega) (show τ22.1 11 = σ.1 11 from by first | exact W11 | omega) G8 G10 G12 G13 G14 G15 G16 G17 G18 G19 G20 (show y_BI σ τ22 from by (first | exact BI7 | exact BI22 | exact BI34 | fail)) (show -1 ≤ (u2_81 + (-1)) ∧ (u2_81 + (-1)) ≤ n1 - 1 from by (first | omega | (simp only [st_s] <;> omega) | assumption | omega | fail)) (show z_D1 τ22 n1 from by (first | exact D17 | exact D122 | exact D134 | fail)) (show z_N1 τ22 n1 from by (first | exact N17 | exact N122 | exact N134 | fail)) (show z_N2 τ22 (u2_81 + (-1)) from by (first | exact N27 | exact N234 | exact z_N2_n N222 (fun d d0 d5 e => by (have w := DX d d0 d5 e; exfalso; omega)) | exact z_N2_n N222 (fun d d0 d5 e => by (have w := DX d d0 d5 e; exfalso; rw [w, ← e_x26] at e; exact c27 e)) | exact z_N2_n N222 (fun d d0 d5 e => by (have w := DX d d0 d5 e; rw [w, ← e_x29]; exact c30)) | fail)) (show ¬ τ22.2.1 94 n1 = -1 from by (first | exact q5_5 | exact c22 | exact c34 | fail))
            ·
              have hT22 := hT
              refine ⟨_, K_X13_needRules hT (show 0 ≤ u2_81 from by (first | omega | (simp only [st_s] <;> omega) | assumption | omega | fail)) (show u2_81 < (τ22.1 5) from by (first | omega | (simp only [st_s] <;> omega) | assumption | omega | fail)) (show τ22.2.1 15 u2_81 ≤ 60 from by (have w := (q20_10 (by omega)).2; rw [SF22.1.2.2.2.2.2.1]; exact w)) (show ca (τ22.2.1 12) ((τ22.1 3)) ≤ (τ22.1 4) from Y20) (show n_J τ22 from by exact BI22.2.2.1) (show m_J τ22 from by exact BI22.2.2.2.1) (show (τ22.1 10) < (τ22.1 3) from by (first | omega | (simp only [st_s] <;> omega) | assumption | omega | fail)) (show (τ22.1 49) = 0 ∨ (y_TT τ22 τ22 (τ22.1 5) (τ22.1 5) ∧ y_Un τ22 (τ22.1 5) (τ22.1 48) (τ22.2.1 84)) from by (rw [W5]; exact BI22.2.1)) (show (τ22.1 51) ≤ 47000 from by (have w := BI22.2.2.2.2; omega)) (show (τ22.1 52) ≤ 88000 from by (have w := BI22.2.2.2.2; omega)) (show y_CT τ22 from by exact BI22.1.1) (show -1 ≤ x21 from by (first | omega | (simp only [st_s] <;> omega) | assumption | omega | fail)), ?_⟩
              intro τ34 hn_τ34 hf_τ34 hq
              obtain ⟨hT, q32_1, q32_2, q32_3, q32_4, q32_5, q32_6⟩ := hq
              replace q32_1 : y_CT τ34 := q32_1
              replace q32_2 : ((τ34.1 49) = 0 ∨ (y_TT τ34 τ34 (τ22.1 5) (τ22.1 5) ∧ y_Un τ34 (τ22.1 5) (τ34.1 48) (τ34.2.1 84))) := q32_2
              replace q32_3 : (τ34.1 51) = (τ22.1 51) ∧ (τ34.1 52) = (τ22.1 52) := q32_3
              replace q32_4 : y_KC τ22 τ34 := q32_4
              replace q32_5 : ¬ τ34.2.1 94 u2_81 = -1 := q32_5
              replace q32_6 : ∀ r : Int, 0 ≤ r → r < (τ22.1 5) → (¬ τ34.2.1 98 r = 0 ↔ ¬ τ22.2.1 98 r = 0 ∨ (¬ r = x21 ∧ y_b7 (τ34.2.2 7) u2_81 r)) := q32_6
              have w3_τ34 : τ34.1 3 = τ22.1 3 := hf_τ34.1 3 (by decide)
              have w4_τ34 : τ34.1 4 = τ22.1 4 := hf_τ34.1 4 (by decide)
              have w5_τ34 : τ34.1 5 = τ22.1 5 := hf_τ34.1 5 (by decide)
              have w10_τ34 : τ34.1 10 = τ22.1 10 := hf_τ34.1 10 (by decide)
              have w11_τ34 : τ34.1 11 = τ22.1 11 := hf_τ34.1 11 (by decide)
              have g8_τ34 : τ34.2.1 8 = τ22.2.1 8 := hf_τ34.2.1 8 (by decide)
              have g10_τ34 : τ34.2.1 10 = τ22.2.1 10 := hf_τ34.2.1 10 (by decide)
              have g12_τ34 : τ34.2.1 12 = τ22.2.1 12 := hf_τ34.2.1 12 (by decide)
              have g13_τ34 : τ34.2.1 13 = τ22.2.1 13 := hf_τ34.2.1 13 (by decide)
              have g14_τ34 : τ34.2.1 14 = τ22.2.1 14 := hf_τ34.2.1 14 (by decide)
              have g15_τ34 : τ34.2.1 15 = τ22.2.1 15 := hf_τ34.2.1 15 (by decide)
              have g16_τ34 : τ34.2.1 16 = τ22.2.1 16 := hf_τ34.2.1 16 (by decide)
              have g17_τ34 : τ34.2.1 17 = τ22.2.1 17 := hf_τ34.2.1 17 (by decide)
              have g18_τ34 : τ34.2.1 18 = τ22.2.1 18 := hf_τ34.2.1 18 (by decide)
              have g19_τ34 : τ34.2.1 19 = τ22.2.1 19 := hf_τ34.2.1 19 (by decide)
              have g20_τ34 : τ34.2.1 20 = τ22.2.1 20 := hf_τ34.2.1 20 (by decide)
              have g97_τ34 : τ34.2.1 97 = τ22.2.1 97 := hf_τ34.2.1 97 (by decide)
              have W3 : τ34.1 3 = σ.1 3 := by first | exact w3_τ34.trans W3 | omega
              have W4 : τ34.1 4 = σ.1 4 := by first | exact w4_τ34.trans W4 | omega
              have W5 : τ34.1 5 = σ.1 5 := by first | exact w5_τ34.trans W5 | omega
              have W10 : τ34.1 10 = σ.1 10 := by first | exact w10_τ34.trans W10 | omega
              have W11 : τ34.1 11 = σ.1 11 := by first | exact w11_τ34.trans W11 | omega
              have G8 : τ34.2.1 8 = σ.2.1 8 := (g8_τ34).trans G8
              have G10 : τ34.2.1 10 = σ.2.1 10 := (g10_τ34).trans G10
              have G12 : τ34.2.1 12 = σ.2.1 12 := (g12_τ34).trans G12
              have G13 : τ34.2.1 13 = σ.2.1 13 := (g13_τ34).trans G13
              have G14 : τ34.2.1 14 = σ.2.1 14 := (g14_τ34).trans G14
              have G15 : τ34.2.1 15 = σ.2.1 15 := (g15_τ34).trans G15
              have G16 : τ34.2.1 16 = σ.2.1 16 := (g16_τ34).trans G16
              have G17 : τ34.2.1 17 = σ.2.1 17 := (g17_τ34).trans G17
              have G18 : τ34.2.1 18 = σ.2.1 18 := (g18_τ34).trans G18
              have G19 : τ34.2.1 19 = σ.2.1 19 := (g19_τ34).trans G19
              have G20 : τ34.2.1 20 = σ.2.1 20 := (g20_τ34).trans G20
              have Y20 : ca (τ34.2.1 12) ((τ34.1 3)) ≤ (τ34.1 4) := by rw [show (ca (τ34.2.1 12) ((τ34.1 3)) ≤ (τ34.1 4)) = (ca (τ22.2.1 12) ((τ22.1 3)) ≤ (τ22.1 4)) from by rw [w3_τ34, w4_τ34, g12_τ34]]; exact Y20
              have A8 : ∀ j, 0 ≤ τ34.2.1 8 j ∧ τ34.2.1 8 j ≤ 1 := fun j => hT.2 8 j
              have A10 : ∀ j, (-1) ≤ τ34.2.1 10 j ∧ τ34.2.1 10 j ≤ 999 := fun j => hT.2 10 j
              have A12 : ∀ j, 0 ≤ τ34.2.1 12 j ∧ τ34.2.1 12 j ≤ 1 := fun j => hT.2 12 j
              have A13 : ∀ j, 0 ≤ τ34.2.1 13 j ∧ τ34.2.1 13 j ≤ 4 := fun j => hT.2 13 j
              have A14 : ∀ j, 0 ≤ τ34.2.1 14 j ∧ τ34.2.1 14 j ≤ 30000 := fun j => hT.2 14 j
              have A15 : ∀ j, 0 ≤ τ34.2.1 15 j ∧ τ34.2.1 15 j ≤ 300 := fun j => hT.2 15 j
              have A16 : ∀ j, 0 ≤ τ34.2.1 16 j ∧ τ34.2.1 16 j ≤ 999 := fun j => hT.2 16 j
              have A17 : ∀ j, (-1) ≤ τ34.2.1 17 j ∧ τ34.2.1 17 j ≤ 1499 := fun j => hT.2 17 j
              have A18 : ∀ j, 0 ≤ τ34.2.1 18 j ∧ τ34.2.1 18 j ≤ 90000 := fun j => hT.2 18 j
              have A19 : ∀ j, 0 ≤ τ34.2.1 19 j ∧ τ34.2.1 19 j ≤ 60 := fun j => hT.2 19 j
              have A20 : ∀ j, 0 ≤ τ34.2.1 20 j ∧ τ34.2.1 20 j ≤ 1499 := fun j => hT.2 20 j
              have A97 : ∀ j, (-1) ≤ τ34.2.1 97 j ∧ τ34.2.1 97 j ≤ 1499 := fun j => hT.2 97 j
              have A98 : ∀ j, 0 ≤ τ34.2.1 98 j ∧ τ34.2.1 98 j ≤ 1 := fun j => hT.2 98 j
              have v3 : 0 ≤ τ34.1 3 ∧ τ34.1 3 ≤ 1000 := hT.1 3
              have v4 : 0 ≤ τ34.1 4 ∧ τ34.1 4 ≤ 100 := hT.1 4
              have v5 : 0 ≤ τ34.1 5 ∧ τ34.1 5 ≤ 1500 := hT.1 5
              have v10 : (-1) ≤ τ34.1 10 ∧ τ34.1 10 ≤ 999 := hT.1 10
              have v11 : (-1) ≤ τ34.1 11 ∧ τ34.1 11 ≤ 999 := hT.1 11
              have v48 : 0 ≤ τ34.1 48 ∧ τ34.1 48 ≤ 1500 := hT.1 48
              have v49 : 0 ≤ τ34.1 49 ∧ τ34.1 49 ≤ 1 := hT.1 49
              have v51 : 0 ≤ τ34.1 51 ∧ τ34.1 51 ≤ 60000 := hT.1 51
              have v52 : 0 ≤ τ34.1 52 ∧ τ34.1 52 ≤ 120000 := hT.1 52
              have SF34 := y_SF_h hf_τ34 rfl rfl
              have e9534 : τ34.2.1 95 = τ22.2.1 95 := hf_τ34.2.1 95 (by decide)
              have e9734 : τ34.2.1 97 = τ22.2.1 97 := hf_τ34.2.1 97 (by decide)
              have DT34 := y_DT_k BI22.1.2.2.2.1 hT22 SF34 q32_4 e9534
              have BI34 := y_BI_r BI22 hf_τ34 q32_1 q32_2 (by (rw [q32_3.1, q32_3.2]; exact BI22.2.2.2.2)) q32_4 DT34 rfl rfl
              have D134 := z_D1_k D122 SF34 e9734 (fun i _ => by rw [e9534])
              have N134 := z_N1_i N122 q32_4 p1 c22 (by omega) (by omega) q32_6
              have N234 := z_N2_s N222 D122 BI22.1.2.2.2.1 (by omega) SF34 q32_4 (by omega) (by omega) e9734 (by omega) (by omega) (by rw [← e_x26]; assumption) q32_6
              have c34 : ¬ τ34.2.1 94 n1 = -1 := (by rw [(q32_4 n1 p1 c22).1]; exact c22)
              refine ⟨(⟨by (first | omega | (simp only [st_s] <;> omega) | assumption | omega | fail), by (first | omega | (simp only [st_s] <;> omega) | assumption | omega | fail)⟩ : rg (u2_81 + (-1))), ?_⟩
              exact ih_81 _ _ (show ((u2_81 + (-1)) + 2 : Int) < ((m_81 : Nat) : Int) from by ((first | omega | (simp only [st_s] <;> omega) | assumption | omega | fail))) hT (show τ34.1 3 = σ.1 3 from by first | exact W3 | omega) (show τ34.1 4 = σ.1 4 from by first | exact W4 | omega) (show τ34.1 5 = σ.1 5 from by first | exact W5 | omega) (show τ34.1 10 = σ.1 10 from by first | exact W10 | omega) (show τ34.1 11 = σ.1 11 from by first | exact W11 | omega) G8 G10 G12 G13 G14 G15 G16 G17 G18 G19 G20 (show y_BI σ τ34 from by (first | exact BI7 | exact BI22 | exact BI34 | fail)) (show -1 ≤ (u2_81 + (-1)) ∧ (u2_81 + (-1)) ≤ n1 - 1 from by (first | omega | (simp only [st_s] <;> omega) | assumption | omega | fail)) (show z_D1 τ34 n1 from by (first | exact D17 | exact D122 | exact D134 | fail)) (show z_N1 τ34 n1 from by (first | exact N17 | exact N122 | exact N134 | fail)) (show z_N2 τ34 (u2_81 + (-1)) from by (first | exact N27 | exact N234 | exact z_N2_n N222 (fun d d0 d5 e => by (have w := DX d d0 d5 e; exfalso; omega)) | exact z_N2_n N222 (fun d d0 d5 e => by (have w := DX d d0 d5 e; exfalso; rw [w, ← e_x26] at e; exact c27 e)) | exact z_N2_n N222 (fun d d0 d5 e => by (have w := DX d d0 d5 e; rw [w, ← e_x29]; exact c30)) | fail)) (show ¬ τ34.2.1 94 n1 = -1 from by (first | exact q5_5 | exact c22 | exact c34 | fail))
  have l_32 : ∀ (m_32 : Nat) (u2_32 : Int) (τ_32 : S0), 1502 - u2_32 < (m_32 : Int) → (m_T τ_32) → (τ_32.1 3 = σ.1 3) → (τ_32.1 4 = σ.1 4) → (τ_32.1 5 = σ.1 5) → (τ_32.1 10 = σ.1 10) → (τ_32.1 11 = σ.1 11) → (τ_32.2.1 8 = σ.2.1 8) → (τ_32.2.1 10 = σ.2.1 10) → (τ_32.2.1 12 = σ.2.1 12) → (τ_32.2.1 13 = σ.2.1 13) → (τ_32.2.1 14 = σ.2.1 14) → (τ_32.2.1 15 = σ.2.1 15) → (τ_32.2.1 16 = σ.2.1 16) → (τ_32.2.1 17 = σ.2.1 17) → (τ_32.2.1 18 = σ.2.1 18) → (τ_32.2.1 19 = σ.2.1 19) → (τ_32.2.1 20 = σ.2.1 20) → (y_BI σ τ_32) → (0 ≤ u2_32 ∧ u2_32 ≤ n1) → (z_D1 τ_32 u2_32) → (∀ r : Int, 0 ≤ r → r < (σ.1 5) → τ_32.2.1 98 r = 0) → P32 n1 u2_32 τ_32 := by
    intro m_32
    induction m_32 with
    | zero =>
      intro u2_32 τ_32 hm hT W3 W4 W5 W10 W11 G8 G10 G12 G13 G14 G15 G16 G17 G18 G19 G20 i32_1 i32_2 i32_3 i32_4
      have A8 : ∀ j, 0 ≤ τ_32.2.1 8 j ∧ τ_32.2.1 8 j ≤ 1 := fun j => hT.2 8 j
      have A10 : ∀ j, (-1) ≤ τ_32.2.1 10 j ∧ τ_32.2.1 10 j ≤ 999 := fun j => hT.2 10 j
      have A12 : ∀ j, 0 ≤ τ_32.2.1 12 j ∧ τ_32.2.1 12 j ≤ 1 := fun j => hT.2 12 j
      have A13 : ∀ j, 0 ≤ τ_32.2.1 13 j ∧ τ_32.2.1 13 j ≤ 4 := fun j => hT.2 13 j
      have A14 : ∀ j, 0 ≤ τ_32.2.1 14 j ∧ τ_32.2.1 14 j ≤ 30000 := fun j => hT.2 14 j
      have A15 : ∀ j, 0 ≤ τ_32.2.1 15 j ∧ τ_32.2.1 15 j ≤ 300 := fun j => hT.2 15 j
      have A16 : ∀ j, 0 ≤ τ_32.2.1 16 j ∧ τ_32.2.1 16 j ≤ 999 := fun j => hT.2 16 j
      have A17 : ∀ j, (-1) ≤ τ_32.2.1 17 j ∧ τ_32.2.1 17 j ≤ 1499 := fun j => hT.2 17 j
      have A18 : ∀ j, 0 ≤ τ_32.2.1 18 j ∧ τ_32.2.1 18 j ≤ 90000 := fun j => hT.2 18 j
      have A19 : ∀ j, 0 ≤ τ_32.2.1 19 j ∧ τ_32.2.1 19 j ≤ 60 := fun j => hT.2 19 j
      have A20 : ∀ j, 0 ≤ τ_32.2.1 20 j ∧ τ_32.2.1 20 j ≤ 1499 := fun j => hT.2 20 j
      have A97 : ∀ j, (-1) ≤ τ_32.2.1 97 j ∧ τ_32.2.1 97 j ≤ 1499 := fun j => hT.2 97 j
      have A98 : ∀ j, 0 ≤ τ_32.2.1 98 j ∧ τ_32.2.1 98 j ≤ 1 := fun j => hT.2 98 j
      have v3 : 0 ≤ τ_32.1 3 ∧ τ_32.1 3 ≤ 1000 := hT.1 3
      have v4 : 0 ≤ τ_32.1 4 ∧ τ_32.1 4 ≤ 100 := hT.1 4
      have v5 : 0 ≤ τ_32.1 5 ∧ τ_32.1 5 ≤ 1500 := hT.1 5
      have v10 : (-1) ≤ τ_32.1 10 ∧ τ_32.1 10 ≤ 999 := hT.1 10
      have v11 : (-1) ≤ τ_32.1 11 ∧ τ_32.1 11 ≤ 999 := hT.1 11
      have v48 : 0 ≤ τ_32.1 48 ∧ τ_32.1 48 ≤ 1500 := hT.1 48
      have v49 : 0 ≤ τ_32.1 49 ∧ τ_32.1 49 ≤ 1 := hT.1 49
      have v51 : 0 ≤ τ_32.1 51 ∧ τ_32.1 51 ≤ 60000 := hT.1 51
      have v52 : 0 ≤ τ_32.1 52 ∧ τ_32.1 52 ≤ 120000 := hT.1 52
      exfalso; (first | omega | (simp only [st_s] <;> omega) | assumption | omega | fail)
    | succ m_32 ih_32 =>
      intro u2_32 τ_32 hm_32 hT W3 W4 W5 W10 W11 G8 G10 G12 G13 G14 G15 G16 G17 G18 G19 G20 i32_1 i32_2 i32_3 i32_4
      have A8 : ∀ j, 0 ≤ τ_32.2.1 8 j ∧ τ_32.2.1 8 j ≤ 1 := fun j => hT.2 8 j
      have A10 : ∀ j, (-1) ≤ τ_32.2.1 10 j ∧ τ_32.2.1 10 j ≤ 999 := fun j => hT.2 10 j
      have A12 : ∀ j, 0 ≤ τ_32.2.1 12 j ∧ τ_32.2.1 12 j ≤ 1 := fun j => hT.2 12 j
      have A13 : ∀ j, 0 ≤ τ_32.2.1 13 j ∧ τ_32.2.1 13 j ≤ 4 := fun j => hT.2 13 j
      have A14 : ∀ j, 0 ≤ τ_32.2.1 14 j ∧ τ_32.2.1 14 j ≤ 30000 := fun j => hT.2 14 j
      have A15 : ∀ j, 0 ≤ τ_32.2.1 15 j ∧ τ_32.2.1 15 j ≤ 300 := fun j => hT.2 15 j
      have A16 : ∀ j, 0 ≤ τ_32.2.1 16 j ∧ τ_32.2.1 16 j ≤ 999 := fun j => hT.2 16 j
      have A17 : ∀ j, (-1) ≤ τ_32.2.1 17 j ∧ τ_32.2.1 17 j ≤ 1499 := fun j => hT.2 17 j
      have A18 : ∀ j, 0 ≤ τ_32.2.1 18 j ∧ τ_32.2.1 18 j ≤ 90000 := fun j => hT.2 18 j
      have A19 : ∀ j, 0 ≤ τ_32.2.1 19 j ∧ τ_32.2.1 19 j ≤ 60 := fun j => hT.2 19 j
      have A20 : ∀ j, 0 ≤ τ_32.2.1 20 j ∧ τ_32.2.1 20 j ≤ 1499 := fun j => hT.2 20 j
      have A97 : ∀ j, (-1) ≤ τ_32.2.1 97 j ∧ τ_32.2.1 97 j ≤ 1499 := fun j => hT.2 97 j
      have A98 : ∀ j, 0 ≤ τ_32.2.1 98 j ∧ τ_32.2.1 98 j ≤ 1 := fun j => hT.2 98 j
      have v3 : 0 ≤ τ_32.1 3 ∧ τ_32.1 3 ≤ 1000 := hT.1 3
      have v4 : 0 ≤ τ_32.1 4 ∧ τ_32.1 4 ≤ 100 := hT.1 4
      have v5 : 0 ≤ τ_32.1 5 ∧ τ_32.1 5 ≤ 1500 := hT.1 5
      have v10 : (-1) ≤ τ_32.1 10 ∧ τ_32.1 10 ≤ 999 := hT.1 10
      have v11 : (-1) ≤ τ_32.1 11 ∧ τ_32.1 11 ≤ 999 := hT.1 11
      have v48 : 0 ≤ τ_32.1 48 ∧ τ_32.1 48 ≤ 1500 := hT.1 48
      have v49 : 0 ≤ τ_32.1 49 ∧ τ_32.1 49 ≤ 1 := hT.1 49
      have v51 : 0 ≤ τ_32.1 51 ∧ τ_32.1 51 ≤ 60000 := hT.1 51
      have v52 : 0 ≤ τ_32.1 52 ∧ τ_32.1 52 ≤ 120000 := hT.1 52
      have Y20 : ca (τ_32.2.1 12) ((τ_32.1 3)) ≤ (τ_32.1 4) := by rw [show (ca (τ_32.2.1 12) ((τ_32.1 3)) ≤ (τ_32.1 4)) = (ca (σ.2.1 12) ((σ.1 3)) ≤ (σ.1 4)) from by rw [W3, W4, G12]]; exact Y20_0
      refine h32 n1 u2_32 τ_32 ?_
      refine ⟨fun c4 => ?_, fun c4 => ?_⟩
      ·
        have hT32 := hT
        refine ⟨_, K_X13_needRules hT (show 0 ≤ n1 from by (first | omega | (simp only [st_s] <;> omega) | assumption | omega | fail)) (show n1 < (τ_32.1 5) from by (first | omega | (simp only [st_s] <;> omega) | assumption | omega | fail)) (show τ_32.2.1 15 n1 ≤ 60 from by (rw [G15]; exact p3)) (show ca (τ_32.2.1 12) ((τ_32.1 3)) ≤ (τ_32.1 4) from Y20) (show n_J τ_32 from by exact i32_1.2.2.1) (show m_J τ_32 from by exact i32_1.2.2.2.1) (show (τ_32.1 10) < (τ_32.1 3) from by (first | omega | (simp only [st_s] <;> omega) | assumption | omega | fail)) (show (τ_32.1 49) = 0 ∨ (y_TT τ_32 τ_32 (τ_32.1 5) (τ_32.1 5) ∧ y_Un τ_32 (τ_32.1 5) (τ_32.1 48) (τ_32.2.1 84)) from by (rw [W5]; exact i32_1.2.1)) (show (τ_32.1 51) ≤ 47000 from by (have w := i32_1.2.2.2.2; omega)) (show (τ_32.1 52) ≤ 88000 from by (have w := i32_1.2.2.2.2; omega)) (show y_CT τ_32 from by exact i32_1.1.1) (show -1 ≤ (-1 : Int) from by (first | omega | (simp only [st_s] <;> omega) | assumption | omega | fail)), ?_⟩
        intro τ7 hn_τ7 hf_τ7 hq
        obtain ⟨hT, q5_1, q5_2, q5_3, q5_4, q5_5, q5_6⟩ := hq
        replace q5_1 : y_CT τ7 := q5_1
        replace q5_2 : ((τ7.1 49) = 0 ∨ (y_TT τ7 τ7 (τ_32.1 5) (τ_32.1 5) ∧ y_Un τ7 (τ_32.1 5) (τ7.1 48) (τ7.2.1 84))) := q5_2
        replace q5_3 : (τ7.1 51) = (τ_32.1 51) ∧ (τ7.1 52) = (τ_32.1 52) := q5_3
        replace q5_4 : y_KC τ_32 τ7 := q5_4
        replace q5_5 : ¬ τ7.2.1 94 n1 = -1 := q5_5
        replace q5_6 : ∀ r : Int, 0 ≤ r → r < (τ_32.1 5) → (¬ τ7.2.1 98 r = 0 ↔ ¬ τ_32.2.1 98 r = 0 ∨ (¬ r = (-1 : Int) ∧ y_b7 (τ7.2.2 7) n1 r)) := q5_6
        have w3_τ7 : τ7.1 3 = τ_32.1 3 := hf_τ7.1 3 (by decide)
        have w4_τ7 : τ7.1 4 = τ_32.1 4 := hf_τ7.1 4 (by decide)
        have w5_τ7 : τ7.1 5 = τ_32.1 5 := hf_τ7.1 5 (by decide)
        have w10_τ7 : τ7.1 10 = τ_32.1 10 := hf_τ7.1 10 (by decide)
        have w11_τ7 : τ7.1 11 = τ_32.1 11 := hf_τ7.1 11 (by decide)
        have g8_τ7 : τ7.2.1 8 = τ_32.2.1 8 := hf_τ7.2.1 8 (by decide)
        have g10_τ7 : τ7.2.1 10 = τ_32.2.1 10 := hf_τ7.2.1 10 (by decide)
        have g12_τ7 : τ7.2.1 12 = τ_32.2.1 12 := hf_τ7.2.1 12 (by decide)
        have g13_τ7 : τ7.2.1 13 = τ_32.2.1 13 := hf_τ7.2.1 13 (by decide)
        have g14_τ7 : τ7.2.1 14 = τ_32.2.1 14 := hf_τ7.2.1 14 (by decide)
        have g15_τ7 : τ7.2.1 15 = τ_32.2.1 15 := hf_τ7.2.1 15 (by decide)
        have g16_τ7 : τ7.2.1 16 = τ_32.2.1 16 := hf_τ7.2.1 16 (by decide)
        have g17_τ7 : τ7.2.1 17 = τ_32.2.1 17 := hf_τ7.2.1 17 (by decide)
        have g18_τ7 : τ7.2.1 18 = τ_32.2.1 18 := hf_τ7.2.1 18 (by decide)
        have g19_τ7 : τ7.2.1 19 = τ_32.2.1 19 := hf_τ7.2.1 19 (by decide)
        have g20_τ7 : τ7.2.1 20 = τ_32.2.1 20 := hf_τ7.2.1 20 (by decide)
        have g97_τ7 : τ7.2.1 97 = τ_32.2.1 97 := hf_τ7.2.1 97 (by decide)
        have W3 : τ7.1 3 = σ.1 3 := by first | exact w3_τ7.trans W3 | omega
        have W4 : τ7.1 4 = σ.1 4 := by first | exact w4_τ7.trans W4 | omega
        have W5 : τ7.1 5 = σ.1 5 := by first | exact w5_τ7.trans W5 | omega
        have W10 : τ7.1 10 = σ.1 10 := by first | exact w10_τ7.trans W10 | omega
        have W11 : τ7.1 11 = σ.1 11 := by first | exact w11_τ7.trans W11 | omega
        have G8 : τ7.2.1 8 = σ.2.1 8 := (g8_τ7).trans G8
        have G10 : τ7.2.1 10 = σ.2.1 10 := (g10_τ7).trans G10
        have G12 : τ7.2.1 12 = σ.2.1 12 := (g12_τ7).trans G12
        have G13 : τ7.2.1 13 = σ.2.1 13 := (g13_τ7).trans G13
        have G14 : τ7.2.1 14 = σ.2.1 14 := (g14_τ7).trans G14
        have G15 : τ7.2.1 15 = σ.2.1 15 := (g15_τ7).trans G15
        have G16 : τ7.2.1 16 = σ.2.1 16 := (g16_τ7).trans G16
        have G17 : τ7.2.1 17 = σ.2.1 17 := (g17_τ7).trans G17
        have G18 : τ7.2.1 18 = σ.2.1 18 := (g18_τ7).trans G18
        have G19 : τ7.2.1 19 = σ.2.1 19 := (g19_τ7).trans G19
        have G20 : τ7.2.1 20 = σ.2.1 20 := (g20_τ7).trans G20
        have Y20 : ca (τ7.2.1 12) ((τ7.1 3)) ≤ (τ7.1 4) := by rw [show (ca (τ7.2.1 12) ((τ7.1 3)) ≤ (τ7.1 4)) = (ca (τ_32.2.1 12) ((τ_32.1 3)) ≤ (τ_32.1 4)) from by rw [w3_τ7, w4_τ7, g12_τ7]]; exact Y20
        have A8 : ∀ j, 0 ≤ τ7.2.1 8 j ∧ τ7.2.1 8 j ≤ 1 := fun j => hT.2 8 j
        have A10 : ∀ j, (-1) ≤ τ7.2.1 10 j ∧ τ7.2.1 10 j ≤ 999 := fun j => hT.2 10 j
        have A12 : ∀ j, 0 ≤ τ7.2.1 12 j ∧ τ7.2.1 12 j ≤ 1 := fun j => hT.2 12 j
        have A13 : ∀ j, 0 ≤ τ7.2.1 13 j ∧ τ7.2.1 13 j ≤ 4 := fun j => hT.2 13 j
        have A14 : ∀ j, 0 ≤ τ7.2.1 14 j ∧ τ7.2.1 14 j ≤ 30000 := fun j => hT.2 14 j
        have A15 : ∀ j, 0 ≤ τ7.2.1 15 j ∧ τ7.2.1 15 j ≤ 300 := fun j => hT.2 15 j
        have A16 : ∀ j, 0 ≤ τ7.2.1 16 j ∧ τ7.2.1 16 j ≤ 999 := fun j => hT.2 16 j
        have A17 : ∀ j, (-1) ≤ τ7.2.1 17 j ∧ τ7.2.1 17 j ≤ 1499 := fun j => hT.2 17 j
        have A18 : ∀ j, 0 ≤ τ7.2.1 18 j ∧ τ7.2.1 18 j ≤ 90000 := fun j => hT.2 18 j
        have A19 : ∀ j, 0 ≤ τ7.2.1 19 j ∧ τ7.2.1 19 j ≤ 60 := fun j => hT.2 19 j
        have A20 : ∀ j, 0 ≤ τ7.2.1 20 j ∧ τ7.2.1 20 j ≤ 1499 := fun j => hT.2 20 j
        have A97 : ∀ j, (-1) ≤ τ7.2.1 97 j ∧ τ7.2.1 97 j ≤ 1499 := fun j => hT.2 97 j
        have A98 : ∀ j, 0 ≤ τ7.2.1 98 j ∧ τ7.2.1 98 j ≤ 1 := fun j => hT.2 98 j
        have v3 : 0 ≤ τ7.1 3 ∧ τ7.1 3 ≤ 1000 := hT.1 3
        have v4 : 0 ≤ τ7.1 4 ∧ τ7.1 4 ≤ 100 := hT.1 4
        have v5 : 0 ≤ τ7.1 5 ∧ τ7.1 5 ≤ 1500 := hT.1 5
        have v10 : (-1) ≤ τ7.1 10 ∧ τ7.1 10 ≤ 999 := hT.1 10
        have v11 : (-1) ≤ τ7.1 11 ∧ τ7.1 11 ≤ 999 := hT.1 11
        have v48 : 0 ≤ τ7.1 48 ∧ τ7.1 48 ≤ 1500 := hT.1 48
        have v49 : 0 ≤ τ7.1 49 ∧ τ7.1 49 ≤ 1 := hT.1 49
        have v51 : 0 ≤ τ7.1 51 ∧ τ7.1 51 ≤ 60000 := hT.1 51
        have v52 : 0 ≤ τ7.1 52 ∧ τ7.1 52 ≤ 120000 := hT.1 52
        have SF7 := y_SF_h hf_τ7 rfl rfl
        have e957 : τ7.2.1 95 = τ_32.2.1 95 := hf_τ7.2.1 95 (by decide)
        have e977 : τ7.2.1 97 = τ_32.2.1 97 := hf_τ7.2.1 97 (by decide)
        have DT7 := y_DT_k i32_1.1.2.2.2.1 hT32 SF7 q5_4 e957
        have BI7 := y_BI_r i32_1 hf_τ7 q5_1 q5_2 (by (rw [q5_3.1, q5_3.2]; exact i32_1.2.2.2.2)) q5_4 DT7 rfl rfl
        have D17 : z_D1 τ7 n1 := z_D1_m (z_D1_k i32_3 SF7 e977 (fun i _ => by rw [e957])) i32_2.2
        have N17 : z_N1 τ7 n1 := (fun r r0 r5 b => (q5_6 r r0 (by omega)).mpr (Or.inr ⟨by omega, b⟩))
        have N27 : z_N2 τ7 (n1 - 1) := (fun d d0 d5 ud => by (exfalso; rcases D17 d d0 d5 with z | z; (omega); (have w := z.1; omega)))
        refine ⟨(⟨by (first | omega | (simp only [st_s] <;> omega) | assumption | omega | fail), by (first | omega | (simp only [st_s] <;> omega) | assumption | omega | fail)⟩ : rg (n1 - 1)), ?_⟩
        exact l_81 (((n1 - 1) + 2 : Int).toNat + 1) _ _ (show ((n1 - 1) + 2 : Int) < ((((n1 - 1) + 2 : Int).toNat + 1 : Nat) : Int) from by ((first | omega | (simp only [st_s] <;> omega) | assumption | omega | fail))) hT (show τ7.1 3 = σ.1 3 from by first | exact W3 | omega) (show τ7.1 4 = σ.1 4 from by first | exact W4 | omega) (show τ7.1 5 = σ.1 5 from by first | exact W5 | omega) (show τ7.1 10 = σ.1 10 from by first | exact W10 | omega) (show τ7.1 11 = σ.1 11 from by first | exact W11 | omega) G8 G10 G12 G13 G14 G15 G16 G17 G18 G19 G20 (show y_BI σ τ7 from by (first | exact BI7 | exact BI22 | exact BI34 | fail)) (show -1 ≤ (n1 - 1) ∧ (n1 - 1) ≤ n1 - 1 from by (first | omega | (simp only [st_s] <;> omega) | assumption | omega | fail)) (show z_D1 τ7 n1 from by (first | exact D17 | exact D122 | exact D134 | fail)) (show z_N1 τ7 n1 from by (first | exact N17 | exact N122 | exact N134 | fail)) (show z_N2 τ7 (n1 - 1) from by (first | exact N27 | exact N234 | exact z_N2_n N222 (fun d d0 d5 e => by (have w := DX d d0 d5 e; exfalso; omega)) | exact z_N2_n N222 (fun d d0 d5 e => by (have w := DX d d0 d5 e; exfalso; rw [w, ← e_x26] at e; exact c27 e)) | exact z_N2_n N222 (fun d d0 d5 e => by (have w := DX d d0 d5 e; rw [w, ← e_x29]; exact c30)) | fail)) (show ¬ τ7.2.1 94 n1 = -1 from by (first | exact q5_5 | exact c22 | exact c34 | fail))
      ·
        refine ⟨_, K_X13_ruleOf hT (show 0 ≤ u2_32 from by (first | omega | (simp only [st_s] <;> omega) | assumption | omega | fail)) (show u2_32 < (τ_32.1 5) from by (first | omega | (simp only [st_s] <;> omega) | assumption | omega | fail)) (show ca (τ_32.2.1 12) ((τ_32.1 3)) ≤ (τ_32.1 4) from Y20) (show n_J τ_32 from by exact i32_1.2.2.1) (show m_J τ_32 from by exact i32_1.2.2.2.1) (show (τ_32.1 10) < (τ_32.1 3) from by (first | omega | (simp only [st_s] <;> omega) | assumption | omega | fail)) (show (τ_32.1 49) = 0 ∨ (y_TT τ_32 τ_32 (τ_32.1 5) (τ_32.1 5) ∧ y_Un τ_32 (τ_32.1 5) (τ_32.1 48) (τ_32.2.1 84)) from by (rw [W5]; exact i32_1.2.1)) (show (τ_32.1 51) ≤ 47000 from by (have w := i32_1.2.2.2.2; omega)) (show (τ_32.1 52) ≤ 88000 from by (have w := i32_1.2.2.2.2; omega)) (show y_CT τ_32 from by exact i32_1.1.1) (show y_EQ τ_32 from by exact i32_1.1.2.2.2.2) (show y_DT τ_32 from by exact i32_1.1.2.2.2.1), ?_⟩
        intro x10 τ11 r_x10 hn_τ11 hf_τ11 hq
        obtain ⟨hT, q9_1, q9_2, q9_3, q9_4, q9_5, q9_6, q9_7, q9_8, q9_9, q9_10⟩ := hq
        replace q9_1 : y_CT τ11 := q9_1
        replace q9_2 : ((τ11.1 49) = 0 ∨ (y_TT τ11 τ11 (τ_32.1 5) (τ_32.1 5) ∧ y_Un τ11 (τ_32.1 5) (τ11.1 48) (τ11.2.1 84))) := q9_2
        replace q9_3 : (τ11.1 51) = (τ_32.1 51) ∧ (τ11.1 52) = (τ_32.1 52) := q9_3
        replace q9_4 : y_KC τ_32 τ11 := q9_4
        replace q9_5 : y_DT τ11 := q9_5
        replace q9_6 : ∀ i : Int, ¬ i = u2_32 → τ11.2.1 95 i = τ_32.2.1 95 i := q9_6
        replace q9_7 : ¬ τ_32.2.1 95 u2_32 = -9 → τ11 = τ_32 := q9_7
        replace q9_8 : x10 = -1 ∨ (τ11.2.1 95 u2_32 = x10 ∧ ¬ x10 = -9) := q9_8
        replace q9_9 : τ_32.2.1 13 u2_32 = 2 → τ_32.2.1 15 u2_32 ≤ 60 → τ11.2.1 95 u2_32 = x10 ∧ ¬ x10 = -9 := q9_9
        replace q9_10 : ¬ x10 = -1 → τ_32.2.1 13 u2_32 = 2 ∧ τ_32.2.1 15 u2_32 ≤ 60 := q9_10
        have w3_τ11 : τ11.1 3 = τ_32.1 3 := hf_τ11.1 3 (by decide)
        have w4_τ11 : τ11.1 4 = τ_32.1 4 := hf_τ11.1 4 (by decide)
        have w5_τ11 : τ11.1 5 = τ_32.1 5 := hf_τ11.1 5 (by decide)
        have w10_τ11 : τ11.1 10 = τ_32.1 10 := hf_τ11.1 10 (by decide)
        have w11_τ11 : τ11.1 11 = τ_32.1 11 := hf_τ11.1 11 (by decide)
        have g8_τ11 : τ11.2.1 8 = τ_32.2.1 8 := hf_τ11.2.1 8 (by decide)
        have g10_τ11 : τ11.2.1 10 = τ_32.2.1 10 := hf_τ11.2.1 10 (by decide)
        have g12_τ11 : τ11.2.1 12 = τ_32.2.1 12 := hf_τ11.2.1 12 (by decide)
        have g13_τ11 : τ11.2.1 13 = τ_32.2.1 13 := hf_τ11.2.1 13 (by decide)
        have g14_τ11 : τ11.2.1 14 = τ_32.2.1 14 := hf_τ11.2.1 14 (by decide)
        have g15_τ11 : τ11.2.1 15 = τ_32.2.1 15 := hf_τ11.2.1 15 (by decide)
        have g16_τ11 : τ11.2.1 16 = τ_32.2.1 16 := hf_τ11.2.1 16 (by decide)
        have g17_τ11 : τ11.2.1 17 = τ_32.2.1 17 := hf_τ11.2.1 17 (by decide)
        have g18_τ11 : τ11.2.1 18 = τ_32.2.1 18 := hf_τ11.2.1 18 (by decide)
        have g19_τ11 : τ11.2.1 19 = τ_32.2.1 19 := hf_τ11.2.1 19 (by decide)
        have g20_τ11 : τ11.2.1 20 = τ_32.2.1 20 := hf_τ11.2.1 20 (by decide)
        have g97_τ11 : τ11.2.1 97 = τ_32.2.1 97 := hf_τ11.2.1 97 (by decide)
        have g98_τ11 : τ11.2.1 98 = τ_32.2.1 98 := hf_τ11.2.1 98 (by decide)
        have W3 : τ11.1 3 = σ.1 3 := by first | exact w3_τ11.trans W3 | omega
        have W4 : τ11.1 4 = σ.1 4 := by first | exact w4_τ11.trans W4 | omega
        have W5 : τ11.1 5 = σ.1 5 := by first | exact w5_τ11.trans W5 | omega
        have W10 : τ11.1 10 = σ.1 10 := by first | exact w10_τ11.trans W10 | omega
        have W11 : τ11.1 11 = σ.1 11 := by first | exact w11_τ11.trans W11 | omega
        have G8 : τ11.2.1 8 = σ.2.1 8 := (g8_τ11).trans G8
        have G10 : τ11.2.1 10 = σ.2.1 10 := (g10_τ11).trans G10
        have G12 : τ11.2.1 12 = σ.2.1 12 := (g12_τ11).trans G12
        have G13 : τ11.2.1 13 = σ.2.1 13 := (g13_τ11).trans G13
        have G14 : τ11.2.1 14 = σ.2.1 14 := (g14_τ11).trans G14
        have G15 : τ11.2.1 15 = σ.2.1 15 := (g15_τ11).trans G15
        have G16 : τ11.2.1 16 = σ.2.1 16 := (g16_τ11).trans G16
        have G17 : τ11.2.1 17 = σ.2.1 17 := (g17_τ11).trans G17
        have G18 : τ11.2.1 18 = σ.2.1 18 := (g18_τ11).trans G18
        have G19 : τ11.2.1 19 = σ.2.1 19 := (g19_τ11).trans G19
        have G20 : τ11.2.1 20 = σ.2.1 20 := (g20_τ11).trans G20
        have Y20 : ca (τ11.2.1 12) ((τ11.1 3)) ≤ (τ11.1 4) := by rw [show (ca (τ11.2.1 12) ((τ11.1 3)) ≤ (τ11.1 4)) = (ca (τ_32.2.1 12) ((τ_32.1 3)) ≤ (τ_32.1 4)) from by rw [w3_τ11, w4_τ11, g12_τ11]]; exact Y20
        have A8 : ∀ j, 0 ≤ τ11.2.1 8 j ∧ τ11.2.1 8 j ≤ 1 := fun j => hT.2 8 j
        have A10 : ∀ j, (-1) ≤ τ11.2.1 10 j ∧ τ11.2.1 10 j ≤ 999 := fun j => hT.2 10 j
        have A12 : ∀ j, 0 ≤ τ11.2.1 12 j ∧ τ11.2.1 12 j ≤ 1 := fun j => hT.2 12 j
        have A13 : ∀ j, 0 ≤ τ11.2.1 13 j ∧ τ11.2.1 13 j ≤ 4 := fun j => hT.2 13 j
        have A14 : ∀ j, 0 ≤ τ11.2.1 14 j ∧ τ11.2.1 14 j ≤ 30000 := fun j => hT.2 14 j
        have A15 : ∀ j, 0 ≤ τ11.2.1 15 j ∧ τ11.2.1 15 j ≤ 300 := fun j => hT.2 15 j
        have A16 : ∀ j, 0 ≤ τ11.2.1 16 j ∧ τ11.2.1 16 j ≤ 999 := fun j => hT.2 16 j
        have A17 : ∀ j, (-1) ≤ τ11.2.1 17 j ∧ τ11.2.1 17 j ≤ 1499 := fun j => hT.2 17 j
        have A18 : ∀ j, 0 ≤ τ11.2.1 18 j ∧ τ11.2.1 18 j ≤ 90000 := fun j => hT.2 18 j
        have A19 : ∀ j, 0 ≤ τ11.2.1 19 j ∧ τ11.2.1 19 j ≤ 60 := fun j => hT.2 19 j
        have A20 : ∀ j, 0 ≤ τ11.2.1 20 j ∧ τ11.2.1 20 j ≤ 1499 := fun j => hT.2 20 j
        have A97 : ∀ j, (-1) ≤ τ11.2.1 97 j ∧ τ11.2.1 97 j ≤ 1499 := fun j => hT.2 97 j
        have A98 : ∀ j, 0 ≤ τ11.2.1 98 j ∧ τ11.2.1 98 j ≤ 1 := fun j => hT.2 98 j
        have v3 : 0 ≤ τ11.1 3 ∧ τ11.1 3 ≤ 1000 := hT.1 3
        have v4 : 0 ≤ τ11.1 4 ∧ τ11.1 4 ≤ 100 := hT.1 4
        have v5 : 0 ≤ τ11.1 5 ∧ τ11.1 5 ≤ 1500 := hT.1 5
        have v10 : (-1) ≤ τ11.1 10 ∧ τ11.1 10 ≤ 999 := hT.1 10
        have v11 : (-1) ≤ τ11.1 11 ∧ τ11.1 11 ≤ 999 := hT.1 11
        have v48 : 0 ≤ τ11.1 48 ∧ τ11.1 48 ≤ 1500 := hT.1 48
        have v49 : 0 ≤ τ11.1 49 ∧ τ11.1 49 ≤ 1 := hT.1 49
        have v51 : 0 ≤ τ11.1 51 ∧ τ11.1 51 ≤ 60000 := hT.1 51
        have v52 : 0 ≤ τ11.1 52 ∧ τ11.1 52 ≤ 120000 := hT.1 52
        have BI11 := y_BI_r i32_1 hf_τ11 q9_1 q9_2 (by (rw [q9_3.1, q9_3.2]; exact i32_1.2.2.2.2)) q9_4 q9_5 rfl rfl
        have SF11 := y_SF_h hf_τ11 rfl rfl
        have e9711 : τ11.2.1 97 = τ_32.2.1 97 := hf_τ11.2.1 97 (by decide)
        have e9811 : τ11.2.1 98 = τ_32.2.1 98 := hf_τ11.2.1 98 (by decide)
        have Xx10 : x10 = -1 ∨ (0 ≤ x10 ∧ x10 < u2_32) := (by rcases q9_8 with z | z; (exact Or.inl z); (have w := q9_5 u2_32 (by omega) (by omega) (by (rw [z.1]; exact z.2)); rw [z.1] at w; exact w.imp id (fun v => v.2.1.1)))
        have D111 := z_D1_k i32_3 SF11 e9711 (y_95 q9_6 q9_7)
        refine ⟨fun c12 => ?_, fun c12 => ?_⟩
        ·
          refine ⟨(⟨by (first | omega | (simp only [st_s] <;> omega) | assumption | omega | fail), by (first | omega | (simp only [st_s] <;> omega) | assumption | omega | fail)⟩ : rg (u2_32 + 1)), ?_⟩
          exact ih_32 _ _ (show (1502 - (u2_32 + 1) : Int) < ((m_32 : Nat) : Int) from by ((first | omega | (simp only [st_s] <;> omega) | assumption | omega | fail))) hT (show τ11.1 3 = σ.1 3 from by first | exact W3 | omega) (show τ11.1 4 = σ.1 4 from by first | exact W4 | omega) (show τ11.1 5 = σ.1 5 from by first | exact W5 | omega) (show τ11.1 10 = σ.1 10 from by first | exact W10 | omega) (show τ11.1 11 = σ.1 11 from by first | exact W11 | omega) G8 G10 G12 G13 G14 G15 G16 G17 G18 G19 G20 (show y_BI σ τ11 from by (first | exact i2_1 | exact BI11 | exact y_BI_g BI11 hT11 (f_a f_0 (by simp) : f_r [] [97] [] _ _) rfl rfl rfl | fail)) (show 0 ≤ (u2_32 + 1) ∧ (u2_32 + 1) ≤ n1 from by (first | omega | (simp only [st_s] <;> omega) | assumption | omega | fail)) (show z_D1 τ11 (u2_32 + 1) from by (first | (intro r a b; exact Or.inl (i2_3 r a (by omega)).1) | exact z_D1_m D111 (by omega) | exact z_D1_s D111 (by omega) (q9_8.resolve_left (by assumption)).1 (by (rw [g13_τ11]; exact (q9_10 (by assumption)).1) ) (by (rw [g15_τ11]; exact (q9_10 (by assumption)).2)) | fail)) (show ∀ r : Int, 0 ≤ r → r < (σ.1 5) → τ11.2.1 98 r = 0 from by (first | (intro r a b; exact (i2_3 r a (by omega)).2) | (intro r a b; rw [e9811]; exact i32_4 r a b) | fail))
        ·
          have hT11 := hT
          refine ⟨(show 0 ≤ x10 ∧ x10 < 1501 from by (first | omega | (simp only [st_s] <;> omega) | assumption | omega | fail)), ?_⟩
          intro x15 r_x15 e_x15
          have b_x15 : (-1) ≤ x15 ∧ x15 ≤ 1499 := by rw [e_x15]; exact hT.2 97 _
          refine ⟨fun c16 => ?_, fun c16 => ?_⟩
          ·
            refine ⟨(⟨by (first | omega | (simp only [st_s] <;> omega) | assumption | omega | fail), by (first | omega | (simp only [st_s] <;> omega) | assumption | omega | fail)⟩ : rg (u2_32 + 1)), ?_⟩
            exact ih_32 _ _ (show (1502 - (u2_32 + 1) : Int) < ((m_32 : Nat) : Int) from by ((first | omega | (simp only [st_s] <;> omega) | assumption | omega | fail))) hT (show τ11.1 3 = σ.1 3 from by first | exact W3 | omega) (show τ11.1 4 = σ.1 4 from by first | exact W4 | omega) (show τ11.1 5 = σ.1 5 from by first | exact W5 | omega) (show τ11.1 10 = σ.1 10 from by first | exact W10 | omega) (show τ11.1 11 = σ.1 11 from by first | exact W11 | omega) G8 G10 G12 G13 G14 G15 G16 G17 G18 G19 G20 (show y_BI σ τ11 from by (first | exact i2_1 | exact BI11 | exact y_BI_g BI11 hT11 (f_a f_0 (by simp) : f_r [] [97] [] _ _) rfl rfl rfl | fail)) (show 0 ≤ (u2_32 + 1) ∧ (u2_32 + 1) ≤ n1 from by (first | omega | (simp only [st_s] <;> omega) | assumption | omega | fail)) (show z_D1 τ11 (u2_32 + 1) from by (first | (intro r a b; exact Or.inl (i2_3 r a (by omega)).1) | exact z_D1_m D111 (by omega) | exact z_D1_s D111 (by omega) (q9_8.resolve_left (by assumption)).1 (by (rw [g13_τ11]; exact (q9_10 (by assumption)).1) ) (by (rw [g15_τ11]; exact (q9_10 (by assumption)).2)) | fail)) (show ∀ r : Int, 0 ≤ r → r < (σ.1 5) → τ11.2.1 98 r = 0 from by (first | (intro r a b; exact (i2_3 r a (by omega)).2) | (intro r a b; rw [e9811]; exact i32_4 r a b) | fail))
          ·
            replace hT := mT_a (k := 97) (j := x10) hT (show (-1 : Int) ≤ u2_32 ∧ u2_32 ≤ 1499 from by (first | omega | (simp only [st_s] <;> omega) | assumption | omega | fail))
            refine ⟨(⟨by (first | omega | (simp only [st_s] <;> omega) | assumption | omega | fail), by (first | omega | (simp only [st_s] <;> omega) | assumption | omega | fail)⟩ : rg (u2_32 + 1)), ?_⟩
            exact ih_32 _ _ (show (1502 - (u2_32 + 1) : Int) < ((m_32 : Nat) : Int) from by ((first | omega | (simp only [st_s] <;> omega) | assumption | omega | fail))) hT (show τ11.1 3 = σ.1 3 from by first | exact W3 | omega) (show τ11.1 4 = σ.1 4 from by first | exact W4 | omega) (show τ11.1 5 = σ.1 5 from by first | exact W5 | omega) (show τ11.1 10 = σ.1 10 from by first | exact W10 | omega) (show τ11.1 11 = σ.1 11 from by first | exact W11 | omega) G8 G10 G12 G13 G14 G15 G16 G17 G18 G19 G20 (show y_BI σ (s_a τ11 97 x10 u2_32) from by (first | exact i2_1 | exact BI11 | exact y_BI_g BI11 hT11 (f_a f_0 (by simp) : f_r [] [97] [] _ _) rfl rfl rfl | fail)) (show 0 ≤ (u2_32 + 1) ∧ (u2_32 + 1) ≤ n1 from by (first | omega | (simp only [st_s] <;> omega) | assumption | omega | fail)) (show z_D1 (s_a τ11 97 x10 u2_32) (u2_32 + 1) from by (first | (intro r a b; exact Or.inl (i2_3 r a (by omega)).1) | exact z_D1_m D111 (by omega) | exact z_D1_s D111 (by omega) (q9_8.resolve_left (by assumption)).1 (by (rw [g13_τ11]; exact (q9_10 (by assumption)).1) ) (by (rw [g15_τ11]; exact (q9_10 (by assumption)).2)) | fail)) (show ∀ r : Int, 0 ≤ r → r < (σ.1 5) → τ11.2.1 98 r = 0 from by (first | (intro r a b; exact (i2_3 r a (by omega)).2) | (intro r a b; rw [e9811]; exact i32_4 r a b) | fail))
  have l_2 : ∀ (m_2 : Nat) (u2_2 : Int) (τ_2 : S0), 1502 - u2_2 < (m_2 : Int) → (m_T τ_2) → (τ_2.1 3 = σ.1 3) → (τ_2.1 4 = σ.1 4) → (τ_2.1 5 = σ.1 5) → (τ_2.1 10 = σ.1 10) → (τ_2.1 11 = σ.1 11) → (τ_2.2.1 8 = σ.2.1 8) → (τ_2.2.1 10 = σ.2.1 10) → (τ_2.2.1 12 = σ.2.1 12) → (τ_2.2.1 13 = σ.2.1 13) → (τ_2.2.1 14 = σ.2.1 14) → (τ_2.2.1 15 = σ.2.1 15) → (τ_2.2.1 16 = σ.2.1 16) → (τ_2.2.1 17 = σ.2.1 17) → (τ_2.2.1 18 = σ.2.1 18) → (τ_2.2.1 19 = σ.2.1 19) → (τ_2.2.1 20 = σ.2.1 20) → (y_BI σ τ_2) → (0 ≤ u2_2 ∧ u2_2 ≤ (σ.1 5)) → (∀ r : Int, 0 ≤ r → r < u2_2 → τ_2.2.1 97 r = -1 ∧ τ_2.2.1 98 r = 0) → P2 n1 u2_2 τ_2 := by
    intro m_2
    induction m_2 with
    | zero =>
      intro u2_2 τ_2 hm hT W3 W4 W5 W10 W11 G8 G10 G12 G13 G14 G15 G16 G17 G18 G19 G20 i2_1 i2_2 i2_3
      have A8 : ∀ j, 0 ≤ τ_2.2.1 8 j ∧ τ_2.2.1 8 j ≤ 1 := fun j => hT.2 8 j
      have A10 : ∀ j, (-1) ≤ τ_2.2.1 10 j ∧ τ_2.2.1 10 j ≤ 999 := fun j => hT.2 10 j
      have A12 : ∀ j, 0 ≤ τ_2.2.1 12 j ∧ τ_2.2.1 12 j ≤ 1 := fun j => hT.2 12 j
      have A13 : ∀ j, 0 ≤ τ_2.2.1 13 j ∧ τ_2.2.1 13 j ≤ 4 := fun j => hT.2 13 j
      have A14 : ∀ j, 0 ≤ τ_2.2.1 14 j ∧ τ_2.2.1 14 j ≤ 30000 := fun j => hT.2 14 j
      have A15 : ∀ j, 0 ≤ τ_2.2.1 15 j ∧ τ_2.2.1 15 j ≤ 300 := fun j => hT.2 15 j
      have A16 : ∀ j, 0 ≤ τ_2.2.1 16 j ∧ τ_2.2.1 16 j ≤ 999 := fun j => hT.2 16 j
      have A17 : ∀ j, (-1) ≤ τ_2.2.1 17 j ∧ τ_2.2.1 17 j ≤ 1499 := fun j => hT.2 17 j
      have A18 : ∀ j, 0 ≤ τ_2.2.1 18 j ∧ τ_2.2.1 18 j ≤ 90000 := fun j => hT.2 18 j
      have A19 : ∀ j, 0 ≤ τ_2.2.1 19 j ∧ τ_2.2.1 19 j ≤ 60 := fun j => hT.2 19 j
      have A20 : ∀ j, 0 ≤ τ_2.2.1 20 j ∧ τ_2.2.1 20 j ≤ 1499 := fun j => hT.2 20 j
      have A97 : ∀ j, (-1) ≤ τ_2.2.1 97 j ∧ τ_2.2.1 97 j ≤ 1499 := fun j => hT.2 97 j
      have A98 : ∀ j, 0 ≤ τ_2.2.1 98 j ∧ τ_2.2.1 98 j ≤ 1 := fun j => hT.2 98 j
      have v3 : 0 ≤ τ_2.1 3 ∧ τ_2.1 3 ≤ 1000 := hT.1 3
      have v4 : 0 ≤ τ_2.1 4 ∧ τ_2.1 4 ≤ 100 := hT.1 4
      have v5 : 0 ≤ τ_2.1 5 ∧ τ_2.1 5 ≤ 1500 := hT.1 5
      have v10 : (-1) ≤ τ_2.1 10 ∧ τ_2.1 10 ≤ 999 := hT.1 10
      have v11 : (-1) ≤ τ_2.1 11 ∧ τ_2.1 11 ≤ 999 := hT.1 11
      have v48 : 0 ≤ τ_2.1 48 ∧ τ_2.1 48 ≤ 1500 := hT.1 48
      have v49 : 0 ≤ τ_2.1 49 ∧ τ_2.1 49 ≤ 1 := hT.1 49
      have v51 : 0 ≤ τ_2.1 51 ∧ τ_2.1 51 ≤ 60000 := hT.1 51
      have v52 : 0 ≤ τ_2.1 52 ∧ τ_2.1 52 ≤ 120000 := hT.1 52
      exfalso; (first | omega | (simp only [st_s] <;> omega) | assumption | omega | fail)
    | succ m_2 ih_2 =>
      intro u2_2 τ_2 hm_2 hT W3 W4 W5 W10 W11 G8 G10 G12 G13 G14 G15 G16 G17 G18 G19 G20 i2_1 i2_2 i2_3
      have A8 : ∀ j, 0 ≤ τ_2.2.1 8 j ∧ τ_2.2.1 8 j ≤ 1 := fun j => hT.2 8 j
      have A10 : ∀ j, (-1) ≤ τ_2.2.1 10 j ∧ τ_2.2.1 10 j ≤ 999 := fun j => hT.2 10 j
      have A12 : ∀ j, 0 ≤ τ_2.2.1 12 j ∧ τ_2.2.1 12 j ≤ 1 := fun j => hT.2 12 j
      have A13 : ∀ j, 0 ≤ τ_2.2.1 13 j ∧ τ_2.2.1 13 j ≤ 4 := fun j => hT.2 13 j
      have A14 : ∀ j, 0 ≤ τ_2.2.1 14 j ∧ τ_2.2.1 14 j ≤ 30000 := fun j => hT.2 14 j
      have A15 : ∀ j, 0 ≤ τ_2.2.1 15 j ∧ τ_2.2.1 15 j ≤ 300 := fun j => hT.2 15 j
      have A16 : ∀ j, 0 ≤ τ_2.2.1 16 j ∧ τ_2.2.1 16 j ≤ 999 := fun j => hT.2 16 j
      have A17 : ∀ j, (-1) ≤ τ_2.2.1 17 j ∧ τ_2.2.1 17 j ≤ 1499 := fun j => hT.2 17 j
      have A18 : ∀ j, 0 ≤ τ_2.2.1 18 j ∧ τ_2.2.1 18 j ≤ 90000 := fun j => hT.2 18 j
      have A19 : ∀ j, 0 ≤ τ_2.2.1 19 j ∧ τ_2.2.1 19 j ≤ 60 := fun j => hT.2 19 j
      have A20 : ∀ j, 0 ≤ τ_2.2.1 20 j ∧ τ_2.2.1 20 j ≤ 1499 := fun j => hT.2 20 j
      have A97 : ∀ j, (-1) ≤ τ_2.2.1 97 j ∧ τ_2.2.1 97 j ≤ 1499 := fun j => hT.2 97 j
      have A98 : ∀ j, 0 ≤ τ_2.2.1 98 j ∧ τ_2.2.1 98 j ≤ 1 := fun j => hT.2 98 j
      have v3 : 0 ≤ τ_2.1 3 ∧ τ_2.1 3 ≤ 1000 := hT.1 3
      have v4 : 0 ≤ τ_2.1 4 ∧ τ_2.1 4 ≤ 100 := hT.1 4
      have v5 : 0 ≤ τ_2.1 5 ∧ τ_2.1 5 ≤ 1500 := hT.1 5
      have v10 : (-1) ≤ τ_2.1 10 ∧ τ_2.1 10 ≤ 999 := hT.1 10
      have v11 : (-1) ≤ τ_2.1 11 ∧ τ_2.1 11 ≤ 999 := hT.1 11
      have v48 : 0 ≤ τ_2.1 48 ∧ τ_2.1 48 ≤ 1500 := hT.1 48
      have v49 : 0 ≤ τ_2.1 49 ∧ τ_2.1 49 ≤ 1 := hT.1 49
      have v51 : 0 ≤ τ_2.1 51 ∧ τ_2.1 51 ≤ 60000 := hT.1 51
      have v52 : 0 ≤ τ_2.1 52 ∧ τ_2.1 52 ≤ 120000 := hT.1 52
      have Y20 : ca (τ_2.2.1 12) ((τ_2.1 3)) ≤ (τ_2.1 4) := by rw [show (ca (τ_2.2.1 12) ((τ_2.1 3)) ≤ (τ_2.1 4)) = (ca (σ.2.1 12) ((σ.1 3)) ≤ (σ.1 4)) from by rw [W3, W4, G12]]; exact Y20_0
      refine h2 n1 u2_2 τ_2 ?_
      refine ⟨fun c1 => ?_, fun c1 => ?_⟩
      ·
        exact l_32 ((1502 - 0 : Int).toNat + 1) _ _ (show (1502 - 0 : Int) < (((1502 - 0 : Int).toNat + 1 : Nat) : Int) from by ((first | omega | (simp only [st_s] <;> omega) | assumption | omega | fail))) hT (show τ_2.1 3 = σ.1 3 from by first | exact W3 | omega) (show τ_2.1 4 = σ.1 4 from by first | exact W4 | omega) (show τ_2.1 5 = σ.1 5 from by first | exact W5 | omega) (show τ_2.1 10 = σ.1 10 from by first | exact W10 | omega) (show τ_2.1 11 = σ.1 11 from by first | exact W11 | omega) G8 G10 G12 G13 G14 G15 G16 G17 G18 G19 G20 (show y_BI σ τ_2 from by (first | exact i2_1 | exact BI11 | exact y_BI_g BI11 hT11 (f_a f_0 (by simp) : f_r [] [97] [] _ _) rfl rfl rfl | fail)) (show 0 ≤ 0 ∧ 0 ≤ n1 from by (first | omega | (simp only [st_s] <;> omega) | assumption | omega | fail)) (show z_D1 τ_2 0 from by (first | (intro r a b; exact Or.inl (i2_3 r a (by omega)).1) | exact z_D1_m D111 (by omega) | exact z_D1_s D111 (by omega) (q9_8.resolve_left (by assumption)).1 (by (rw [g13_τ11]; exact (q9_10 (by assumption)).1) ) (by (rw [g15_τ11]; exact (q9_10 (by assumption)).2)) | fail)) (show ∀ r : Int, 0 ≤ r → r < (σ.1 5) → τ_2.2.1 98 r = 0 from by (first | (intro r a b; exact (i2_3 r a (by omega)).2) | (intro r a b; rw [e9811]; exact i32_4 r a b) | fail))
      ·
        have hT2 := hT
        refine ⟨(show 0 ≤ u2_2 ∧ u2_2 < 1501 from by (first | omega | (simp only [st_s] <;> omega) | assumption | omega | fail)), ?_⟩
        replace hT := mT_a (k := 97) (j := u2_2) hT (show (-1 : Int) ≤ (-1) ∧ (-1) ≤ 1499 from by (first | omega | (simp only [st_s] <;> omega) | assumption | omega | fail))
        replace hT := mT_a (k := 98) (j := u2_2) hT (show (0 : Int) ≤ 0 ∧ 0 ≤ 1 from by (first | omega | (simp only [st_s] <;> omega) | assumption | omega | fail))
        refine ⟨(⟨by (first | omega | (simp only [st_s] <;> omega) | assumption | omega | fail), by (first | omega | (simp only [st_s] <;> omega) | assumption | omega | fail)⟩ : rg (u2_2 + 1)), ?_⟩
        exact ih_2 _ _ (show (1502 - (u2_2 + 1) : Int) < ((m_2 : Nat) : Int) from by ((first | omega | (simp only [st_s] <;> omega) | assumption | omega | fail))) hT (show τ_2.1 3 = σ.1 3 from by first | exact W3 | omega) (show τ_2.1 4 = σ.1 4 from by first | exact W4 | omega) (show τ_2.1 5 = σ.1 5 from by first | exact W5 | omega) (show τ_2.1 10 = σ.1 10 from by first | exact W10 | omega) (show τ_2.1 11 = σ.1 11 from by first | exact W11 | omega) G8 G10 G12 G13 G14 G15 G16 G17 G18 G19 G20 (show y_BI σ (s_a (s_a τ_2 97 u2_2 (-1)) 98 u2_2 0) from by (first | exact p6 | exact y_BI_g i2_1 hT2 (f_a (f_a f_0 (by simp)) (by simp) : f_r [] [97, 98] [] _ _) rfl rfl rfl | fail)) (show 0 ≤ (u2_2 + 1) ∧ (u2_2 + 1) ≤ (σ.1 5) from by (first | omega | (simp only [st_s] <;> omega) | assumption | omega | fail)) (show ∀ r : Int, 0 ≤ r → r < (u2_2 + 1) → (st (τ_2.2.1 97) u2_2 (-1)) r = -1 ∧ (st (τ_2.2.1 98) u2_2 0) r = 0 from by (first | (intro r a b; exfalso; omega) | (intro r a b; rcases (by omega : r < u2_2 ∨ r = u2_2) with y | y; (rw [st_n _ _ (by omega), st_n _ _ (by omega)]; exact i2_3 r a y); (rw [y, st_s, st_s]; exact ⟨rfl, rfl⟩)) | fail))
  exact l_2 ((1502 - 0 : Int).toNat + 1) _ _ (show (1502 - 0 : Int) < (((1502 - 0 : Int).toNat + 1 : Nat) : Int) from by ((first | omega | (simp only [st_s] <;> omega) | assumption | omega | fail))) hT (show σ.1 3 = σ.1 3 from by first | exact W3 | omega) (show σ.1 4 = σ.1 4 from by first | exact W4 | omega) (show σ.1 5 = σ.1 5 from by first | exact W5 | omega) (show σ.1 10 = σ.1 10 from by first | exact W10 | omega) (show σ.1 11 = σ.1 11 from by first | exact W11 | omega) G8 G10 G12 G13 G14 G15 G16 G17 G18 G19 G20 (show y_BI σ σ from by (first | exact p6 | exact y_BI_g i2_1 hT2 (f_a (f_a f_0 (by simp)) (by simp) : f_r [] [97, 98] [] _ _) rfl rfl rfl | fail)) (show 0 ≤ 0 ∧ 0 ≤ (σ.1 5) from by (first | omega | (simp only [st_s] <;> omega) | assumption | omega | fail)) (show ∀ r : Int, 0 ≤ r → r < 0 → σ.2.1 97 r = -1 ∧ σ.2.1 98 r = 0 from by (first | (intro r a b; exfalso; omega) | (intro r a b; rcases (by omega : r < u2_2 ∨ r = u2_2) with y | y; (rw [st_n _ _ (by omega), st_n _ _ (by omega)]; exact i2_3 r a y); (rw [y, st_s, st_s]; exact ⟨rfl, rfl⟩)) | fail))
