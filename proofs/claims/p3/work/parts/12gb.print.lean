theorem y_BI_z {σ τ : S0} (h : y_BI σ τ) : y_BI τ τ := by
  obtain ⟨⟨a, _, c, d, e⟩, f, g, m, n⟩ := h
  rw [← c.2.2.1] at f
  exact y_BI_0 a d e f g m n
theorem y_BI_t {σ τ υ : S0} (h : y_BI σ τ) (g : y_BI τ υ) : y_BI σ υ := by
  obtain ⟨⟨_, b, c, _, _⟩, _, _, _, _⟩ := h
  obtain ⟨⟨a', b', c', d', e'⟩, f', g', m', n'⟩ := g
  rw [c.2.2.1] at f'
  exact ⟨⟨a', y_KC_t b b', y_SF_t c c', d', e'⟩, f', g', m', n'⟩
set_option maxHeartbeats 4000000 in
theorem K_X13_printTree {n1 : Int} {n2 : Int} {σ : S0} (hT : m_T σ) (p1 : -2147483648 ≤ n1 ∧ n1 ≤ 2147483647) (p2 : 0 ≤ n2) (p3 : n2 < (σ.1 5)) (p4 : ca (σ.2.1 12) ((σ.1 3)) ≤ (σ.1 4)) (p5 : (σ.1 10) < (σ.1 3)) (p6 : y_BI σ σ) : W_X13_printTree n1 n2 σ (fun (x : Int) (τ : S0) => (m_T τ) ∧ (y_BI σ τ)) := by
  have A8 : ∀ j, 0 ≤ σ.2.1 8 j ∧ σ.2.1 8 j ≤ 1 := fun j => hT.2 8 j
  have A10 : ∀ j, (-1) ≤ σ.2.1 10 j ∧ σ.2.1 10 j ≤ 999 := fun j => hT.2 10 j
  have A12 : ∀ j, 0 ≤ σ.2.1 12 j ∧ σ.2.1 12 j ≤ 1 := fun j => hT.2 12 j
  have A13 : ∀ j, 0 ≤ σ.2.1 13 j ∧ σ.2.1 13 j ≤ 4 := fun j => hT.2 13 j
  have A14 : ∀ j, 0 ≤ σ.2.1 14 j ∧ σ.2.1 14 j ≤ 30000 := fun j => hT.2 14 j
  have A15 : ∀ j, 0 ≤ σ.2.1 15 j ∧ σ.2.1 15 j ≤ 300 := fun j => hT.2 15 j
  have A16 : ∀ j, 0 ≤ σ.2.1 16 j ∧ σ.2.1 16 j ≤ 999 := fun j => hT.2 16 j
  have A17 : ∀ j, (-1) ≤ σ.2.1 17 j ∧ σ.2.1 17 j ≤ 1499 := fun j => hT.2 17 j
  have A18 : ∀ j, 0 ≤ σ.2.1 18 j ∧ σ.2.1 18 j ≤ 90000 := fun j => hT.2 18 j
  have A19 : ∀ j, 0 ≤ σ.2.1 19 j ∧ σ.2.1 19 j ≤ 60 := fun j => hT.2 19 j
  have A20 : ∀ j, 0 ≤ σ.2.1 20 j ∧ σ.2.1 20 j ≤ 1499 := fun j => hT.2 20 j
  have A94 : ∀ j, (-1) ≤ σ.2.1 94 j ∧ σ.2.1 94 j ≤ 2 := fun j => hT.2 94 j
  have A95 : ∀ j, (-9) ≤ σ.2.1 95 j ∧ σ.2.1 95 j ≤ 1499 := fun j => hT.2 95 j
  have v3 : 0 ≤ σ.1 3 ∧ σ.1 3 ≤ 1000 := hT.1 3
  have v4 : 0 ≤ σ.1 4 ∧ σ.1 4 ≤ 100 := hT.1 4
  have v5 : 0 ≤ σ.1 5 ∧ σ.1 5 ≤ 1500 := hT.1 5
  have v10 : (-1) ≤ σ.1 10 ∧ σ.1 10 ≤ 999 := hT.1 10
  have v11 : (-1) ≤ σ.1 11 ∧ σ.1 11 ≤ 999 := hT.1 11
  have v45 : 0 ≤ σ.1 45 ∧ σ.1 45 ≤ 59 := hT.1 45
  have v48 : 0 ≤ σ.1 48 ∧ σ.1 48 ≤ 1500 := hT.1 48
  have v49 : 0 ≤ σ.1 49 ∧ σ.1 49 ≤ 1 := hT.1 49
  have v50 : 0 ≤ σ.1 50 ∧ σ.1 50 ≤ 1500 := hT.1 50
  have v51 : 0 ≤ σ.1 51 ∧ σ.1 51 ≤ 60000 := hT.1 51
  have v52 : 0 ≤ σ.1 52 ∧ σ.1 52 ≤ 120000 := hT.1 52
  have W3 : σ.1 3 = σ.1 3 := rfl
  have W4 : σ.1 4 = σ.1 4 := rfl
  have W5 : σ.1 5 = σ.1 5 := rfl
  have W10 : σ.1 10 = σ.1 10 := rfl
  have W11 : σ.1 11 = σ.1 11 := rfl
  have G8 : σ.2.1 8 = σ.2.1 8 := rfl
  have G10 : σ.2.1 10 = σ.2.1 10 := rfl
  have G12 : σ.2.1 12 = σ.2.1 12 := rfl
  have G13 : σ.2.1 13 = σ.2.1 13 := rfl
  have G14 : σ.2.1 14 = σ.2.1 14 := rfl
  have G15 : σ.2.1 15 = σ.2.1 15 := rfl
  have G16 : σ.2.1 16 = σ.2.1 16 := rfl
  have G17 : σ.2.1 17 = σ.2.1 17 := rfl
  have G18 : σ.2.1 18 = σ.2.1 18 := rfl
  have G19 : σ.2.1 19 = σ.2.1 19 := rfl
  have G20 : σ.2.1 20 = σ.2.1 20 := rfl
  have hT0 := hT
  have Y20 : ca (σ.2.1 12) ((σ.1 3)) ≤ (σ.1 4) := p4
  have Y20_0 := Y20
  unfold W_X13_printTree
  refine ⟨(show 0 ≤ n2 ∧ n2 < 1501 from by (first | omega | (simp only [st_s] <;> omega) | assumption | omega | fail)), ?_⟩
  intro x2 r_x2 e_x2
  have b_x2 : 0 ≤ x2 ∧ x2 ≤ 300 := by rw [e_x2]; exact hT.2 15 _
  refine ⟨fun c3 => ?_, fun c3 => ?_⟩
  ·
    refine ⟨_, K_X13_beginTrees hT, ?_⟩
    intro τ6 hn_τ6 hf_τ6 hq
    obtain ⟨hT, q4_1, q4_2⟩ := hq
    replace q4_1 : (τ6.1 51) = 0 := q4_1
    replace q4_2 : (τ6.1 52) = 0 := q4_2
    have w3_τ6 : τ6.1 3 = σ.1 3 := hf_τ6.1 3 (by decide)
    have w4_τ6 : τ6.1 4 = σ.1 4 := hf_τ6.1 4 (by decide)
    have w5_τ6 : τ6.1 5 = σ.1 5 := hf_τ6.1 5 (by decide)
    have w10_τ6 : τ6.1 10 = σ.1 10 := hf_τ6.1 10 (by decide)
    have w11_τ6 : τ6.1 11 = σ.1 11 := hf_τ6.1 11 (by decide)
    have w45_τ6 : τ6.1 45 = σ.1 45 := hf_τ6.1 45 (by decide)
    have w48_τ6 : τ6.1 48 = σ.1 48 := hf_τ6.1 48 (by decide)
    have w49_τ6 : τ6.1 49 = σ.1 49 := hf_τ6.1 49 (by decide)
    have w50_τ6 : τ6.1 50 = σ.1 50 := hf_τ6.1 50 (by decide)
    have g8_τ6 : τ6.2.1 8 = σ.2.1 8 := hf_τ6.2.1 8 (by decide)
    have g10_τ6 : τ6.2.1 10 = σ.2.1 10 := hf_τ6.2.1 10 (by decide)
    have g12_τ6 : τ6.2.1 12 = σ.2.1 12 := hf_τ6.2.1 12 (by decide)
    have g13_τ6 : τ6.2.1 13 = σ.2.1 13 := hf_τ6.2.1 13 (by decide)
    have g14_τ6 : τ6.2.1 14 = σ.2.1 14 := hf_τ6.2.1 14 (by decide)
    have g15_τ6 : τ6.2.1 15 = σ.2.1 15 := hf_τ6.2.1 15 (by decide)
    have g16_τ6 : τ6.2.1 16 = σ.2.1 16 := hf_τ6.2.1 16 (by decide)
    have g17_τ6 : τ6.2.1 17 = σ.2.1 17 := hf_τ6.2.1 17 (by decide)
    have g18_τ6 : τ6.2.1 18 = σ.2.1 18 := hf_τ6.2.1 18 (by decide)
    have g19_τ6 : τ6.2.1 19 = σ.2.1 19 := hf_τ6.2.1 19 (by decide)
    have g20_τ6 : τ6.2.1 20 = σ.2.1 20 := hf_τ6.2.1 20 (by decide)
    have g94_τ6 : τ6.2.1 94 = σ.2.1 94 := hf_τ6.2.1 94 (by decide)
    have g95_τ6 : τ6.2.1 95 = σ.2.1 95 := hf_τ6.2.1 95 (by decide)
    have W3 : τ6.1 3 = σ.1 3 := by first | exact w3_τ6.trans W3 | omega
    have W4 : τ6.1 4 = σ.1 4 := by first | exact w4_τ6.trans W4 | omega
    have W5 : τ6.1 5 = σ.1 5 := by first | exact w5_τ6.trans W5 | omega
    have W10 : τ6.1 10 = σ.1 10 := by first | exact w10_τ6.trans W10 | omega
    have W11 : τ6.1 11 = σ.1 11 := by first | exact w11_τ6.trans W11 | omega
    have G8 : τ6.2.1 8 = σ.2.1 8 := (g8_τ6).trans G8
    have G10 : τ6.2.1 10 = σ.2.1 10 := (g10_τ6).trans G10
    have G12 : τ6.2.1 12 = σ.2.1 12 := (g12_τ6).trans G12
    have G13 : τ6.2.1 13 = σ.2.1 13 := (g13_τ6).trans G13
    have G14 : τ6.2.1 14 = σ.2.1 14 := (g14_τ6).trans G14
    have G15 : τ6.2.1 15 = σ.2.1 15 := (g15_τ6).trans G15
    have G16 : τ6.2.1 16 = σ.2.1 16 := (g16_τ6).trans G16
    have G17 : τ6.2.1 17 = σ.2.1 17 := (g17_τ6).trans G17
    have G18 : τ6.2.1 18 = σ.2.1 18 := (g18_τ6).trans G18
    have G19 : τ6.2.1 19 = σ.2.1 19 := (g19_τ6).trans G19
    have G20 : τ6.2.1 20 = σ.2.1 20 := (g20_τ6).trans G20
    have Y20 : ca (τ6.2.1 12) ((τ6.1 3)) ≤ (τ6.1 4) := by rw [show (ca (τ6.2.1 12) ((τ6.1 3)) ≤ (τ6.1 4)) = (ca (σ.2.1 12) ((σ.1 3)) ≤ (σ.1 4)) from by rw [w3_τ6, w4_τ6, g12_τ6]]; exact Y20
    have A8 : ∀ j, 0 ≤ τ6.2.1 8 j ∧ τ6.2.1 8 j ≤ 1 := fun j => hT.2 8 j
    have A10 : ∀ j, (-1) ≤ τ6.2.1 10 j ∧ τ6.2.1 10 j ≤ 999 := fun j => hT.2 10 j
    have A12 : ∀ j, 0 ≤ τ6.2.1 12 j ∧ τ6.2.1 12 j ≤ 1 := fun j => hT.2 12 j
    have A13 : ∀ j, 0 ≤ τ6.2.1 13 j ∧ τ6.2.1 13 j ≤ 4 := fun j => hT.2 13 j
    have A14 : ∀ j, 0 ≤ τ6.2.1 14 j ∧ τ6.2.1 14 j ≤ 30000 := fun j => hT.2 14 j
    have A15 : ∀ j, 0 ≤ τ6.2.1 15 j ∧ τ6.2.1 15 j ≤ 300 := fun j => hT.2 15 j
    have A16 : ∀ j, 0 ≤ τ6.2.1 16 j ∧ τ6.2.1 16 j ≤ 999 := fun j => hT.2 16 j
    have A17 : ∀ j, (-1) ≤ τ6.2.1 17 j ∧ τ6.2.1 17 j ≤ 1499 := fun j => hT.2 17 j
    have A18 : ∀ j, 0 ≤ τ6.2.1 18 j ∧ τ6.2.1 18 j ≤ 90000 := fun j => hT.2 18 j
    have A19 : ∀ j, 0 ≤ τ6.2.1 19 j ∧ τ6.2.1 19 j ≤ 60 := fun j => hT.2 19 j
    have A20 : ∀ j, 0 ≤ τ6.2.1 20 j ∧ τ6.2.1 20 j ≤ 1499 := fun j => hT.2 20 j
    have A94 : ∀ j, (-1) ≤ τ6.2.1 94 j ∧ τ6.2.1 94 j ≤ 2 := fun j => hT.2 94 j
    have A95 : ∀ j, (-9) ≤ τ6.2.1 95 j ∧ τ6.2.1 95 j ≤ 1499 := fun j => hT.2 95 j
    have v3 : 0 ≤ τ6.1 3 ∧ τ6.1 3 ≤ 1000 := hT.1 3
    have v4 : 0 ≤ τ6.1 4 ∧ τ6.1 4 ≤ 100 := hT.1 4
    have v5 : 0 ≤ τ6.1 5 ∧ τ6.1 5 ≤ 1500 := hT.1 5
    have v10 : (-1) ≤ τ6.1 10 ∧ τ6.1 10 ≤ 999 := hT.1 10
    have v11 : (-1) ≤ τ6.1 11 ∧ τ6.1 11 ≤ 999 := hT.1 11
    have v45 : 0 ≤ τ6.1 45 ∧ τ6.1 45 ≤ 59 := hT.1 45
    have v48 : 0 ≤ τ6.1 48 ∧ τ6.1 48 ≤ 1500 := hT.1 48
    have v49 : 0 ≤ τ6.1 49 ∧ τ6.1 49 ≤ 1 := hT.1 49
    have v50 : 0 ≤ τ6.1 50 ∧ τ6.1 50 ≤ 1500 := hT.1 50
    have v51 : 0 ≤ τ6.1 51 ∧ τ6.1 51 ≤ 60000 := hT.1 51
    have v52 : 0 ≤ τ6.1 52 ∧ τ6.1 52 ≤ 120000 := hT.1 52
    have BI6 := y_BI_b p6 hT0 hf_τ6 ⟨by omega, by omega⟩ rfl rfl rfl
    have hT6 := hT
    refine ⟨_, K_X13_countTrees hT (show 0 ≤ n2 from by (first | omega | (simp only [st_s] <;> omega) | assumption | omega | fail)) (show n2 < (τ6.1 5) from by (first | omega | (simp only [st_s] <;> omega) | assumption | omega | fail)) (show τ6.2.1 15 n2 ≤ 60 from by (rw [G15, ← e_x2]; assumption)) (show ca (τ6.2.1 12) ((τ6.1 3)) ≤ (τ6.1 4) from Y20) (show n_J τ6 from by exact BI6.2.2.1) (show m_J τ6 from by exact BI6.2.2.2.1) (show (τ6.1 10) < (τ6.1 3) from by (first | omega | (simp only [st_s] <;> omega) | assumption | omega | fail)) (show (τ6.1 49) = 0 ∨ (y_TT τ6 τ6 (τ6.1 5) (τ6.1 5) ∧ y_Un τ6 (τ6.1 5) (τ6.1 48) (τ6.2.1 84)) from by (rw [W5]; exact BI6.2.1)) (show (τ6.1 51) ≤ 47000 from by (have w := BI6.2.2.2.2; omega)) (show (τ6.1 52) ≤ 88000 from by (have w := BI6.2.2.2.2; omega)) (show y_CT τ6 from by exact BI6.1.1), ?_⟩
    intro x8 τ9 r_x8 hn_τ9 hf_τ9 hq
    obtain ⟨hT, q7_1, q7_2, q7_3, q7_4, q7_5, q7_6, q7_7, q7_8, q7_9⟩ := hq
    replace q7_1 : y_CT τ9 := q7_1
    replace q7_2 : τ9.2.1 94 n2 = x8 ∧ 0 ≤ x8 ∧ x8 ≤ 2 := q7_2
    replace q7_3 : ((τ9.1 49) = 0 ∨ (y_TT τ9 τ9 (τ6.1 5) (τ6.1 5) ∧ y_Un τ9 (τ6.1 5) (τ9.1 48) (τ9.2.1 84))) := q7_3
    replace q7_4 : (τ9.1 51) = (τ6.1 51) ∧ (τ9.1 52) = (τ6.1 52) := q7_4
    replace q7_5 : ∀ y : Int, y < (τ6.1 51) → (τ9.2.1 86 y = τ6.2.1 86 y ∧ τ9.2.1 87 y = τ6.2.1 87 y) ∧ τ9.2.1 88 y = τ6.2.1 88 y ∧ τ9.2.1 89 y = τ6.2.1 89 y ∧ τ9.2.1 90 y = τ6.2.1 90 y := q7_5
    replace q7_6 : ∀ e : Int, e < (τ6.1 52) → τ9.2.1 91 e = τ6.2.1 91 e := q7_6
    replace q7_7 : ∀ k : Int, ¬ (24 * n2 ≤ k ∧ k < 24 * n2 + 24) → τ9.2.2 7 k = τ6.2.2 7 k := q7_7
    replace q7_8 : ∀ i : Int, ¬ i = n2 → τ9.2.1 94 i = τ6.2.1 94 i := q7_8
    replace q7_9 : ¬ τ6.2.1 94 n2 = -1 → τ9 = τ6 := q7_9
    have w3_τ9 : τ9.1 3 = τ6.1 3 := hf_τ9.1 3 (by decide)
    have w4_τ9 : τ9.1 4 = τ6.1 4 := hf_τ9.1 4 (by decide)
    have w5_τ9 : τ9.1 5 = τ6.1 5 := hf_τ9.1 5 (by decide)
    have w10_τ9 : τ9.1 10 = τ6.1 10 := hf_τ9.1 10 (by decide)
    have w11_τ9 : τ9.1 11 = τ6.1 11 := hf_τ9.1 11 (by decide)
    have g8_τ9 : τ9.2.1 8 = τ6.2.1 8 := hf_τ9.2.1 8 (by decide)
    have g10_τ9 : τ9.2.1 10 = τ6.2.1 10 := hf_τ9.2.1 10 (by decide)
    have g12_τ9 : τ9.2.1 12 = τ6.2.1 12 := hf_τ9.2.1 12 (by decide)
    have g13_τ9 : τ9.2.1 13 = τ6.2.1 13 := hf_τ9.2.1 13 (by decide)
    have g14_τ9 : τ9.2.1 14 = τ6.2.1 14 := hf_τ9.2.1 14 (by decide)
    have g15_τ9 : τ9.2.1 15 = τ6.2.1 15 := hf_τ9.2.1 15 (by decide)
    have g16_τ9 : τ9.2.1 16 = τ6.2.1 16 := hf_τ9.2.1 16 (by decide)
    have g17_τ9 : τ9.2.1 17 = τ6.2.1 17 := hf_τ9.2.1 17 (by decide)
    have g18_τ9 : τ9.2.1 18 = τ6.2.1 18 := hf_τ9.2.1 18 (by decide)
    have g19_τ9 : τ9.2.1 19 = τ6.2.1 19 := hf_τ9.2.1 19 (by decide)
    have g20_τ9 : τ9.2.1 20 = τ6.2.1 20 := hf_τ9.2.1 20 (by decide)
    have g95_τ9 : τ9.2.1 95 = τ6.2.1 95 := hf_τ9.2.1 95 (by decide)
    have W3 : τ9.1 3 = σ.1 3 := by first | exact w3_τ9.trans W3 | omega
    have W4 : τ9.1 4 = σ.1 4 := by first | exact w4_τ9.trans W4 | omega
    have W5 : τ9.1 5 = σ.1 5 := by first | exact w5_τ9.trans W5 | omega
    have W10 : τ9.1 10 = σ.1 10 := by first | exact w10_τ9.trans W10 | omega
    have W11 : τ9.1 11 = σ.1 11 := by first | exact w11_τ9.trans W11 | omega
    have G8 : τ9.2.1 8 = σ.2.1 8 := (g8_τ9).trans G8
    have G10 : τ9.2.1 10 = σ.2.1 10 := (g10_τ9).trans G10
    have G12 : τ9.2.1 12 = σ.2.1 12 := (g12_τ9).trans G12
    have G13 : τ9.2.1 13 = σ.2.1 13 := (g13_τ9).trans G13
    have G14 : τ9.2.1 14 = σ.2.1 14 := (g14_τ9).trans G14
    have G15 : τ9.2.1 15 = σ.2.1 15 := (g15_τ9).trans G15
    have G16 : τ9.2.1 16 = σ.2.1 16 := (g16_τ9).trans G16
    have G17 : τ9.2.1 17 = σ.2.1 17 := (g17_τ9).trans G17
    have G18 : τ9.2.1 18 = σ.2.1 18 := (g18_τ9).trans G18
    have G19 : τ9.2.1 19 = σ.2.1 19 := (g19_τ9).trans G19
    have G20 : τ9.2.1 20 = σ.2.1 20 := (g20_τ9).trans G20
    have Y20 : ca (τ9.2.1 12) ((τ9.1 3)) ≤ (τ9.1 4) := by rw [show (ca (τ9.2.1 12) ((τ9.1 3)) ≤ (τ9.1 4)) = (ca (τ6.2.1 12) ((τ6.1 3)) ≤ (τ6.1 4)) from by rw [w3_τ9, w4_τ9, g12_τ9]]; exact Y20
    have A8 : ∀ j, 0 ≤ τ9.2.1 8 j ∧ τ9.2.1 8 j ≤ 1 := fun j => hT.2 8 j
    have A10 : ∀ j, (-1) ≤ τ9.2.1 10 j ∧ τ9.2.1 10 j ≤ 999 := fun j => hT.2 10 j
    have A12 : ∀ j, 0 ≤ τ9.2.1 12 j ∧ τ9.2.1 12 j ≤ 1 := fun j => hT.2 12 j
    have A13 : ∀ j, 0 ≤ τ9.2.1 13 j ∧ τ9.2.1 13 j ≤ 4 := fun j => hT.2 13 j
    have A14 : ∀ j, 0 ≤ τ9.2.1 14 j ∧ τ9.2.1 14 j ≤ 30000 := fun j => hT.2 14 j
    have A15 : ∀ j, 0 ≤ τ9.2.1 15 j ∧ τ9.2.1 15 j ≤ 300 := fun j => hT.2 15 j
    have A16 : ∀ j, 0 ≤ τ9.2.1 16 j ∧ τ9.2.1 16 j ≤ 999 := fun j => hT.2 16 j
    have A17 : ∀ j, (-1) ≤ τ9.2.1 17 j ∧ τ9.2.1 17 j ≤ 1499 := fun j => hT.2 17 j
    have A18 : ∀ j, 0 ≤ τ9.2.1 18 j ∧ τ9.2.1 18 j ≤ 90000 := fun j => hT.2 18 j
    have A19 : ∀ j, 0 ≤ τ9.2.1 19 j ∧ τ9.2.1 19 j ≤ 60 := fun j => hT.2 19 j
    have A20 : ∀ j, 0 ≤ τ9.2.1 20 j ∧ τ9.2.1 20 j ≤ 1499 := fun j => hT.2 20 j
    have A94 : ∀ j, (-1) ≤ τ9.2.1 94 j ∧ τ9.2.1 94 j ≤ 2 := fun j => hT.2 94 j
    have A95 : ∀ j, (-9) ≤ τ9.2.1 95 j ∧ τ9.2.1 95 j ≤ 1499 := fun j => hT.2 95 j
    have v3 : 0 ≤ τ9.1 3 ∧ τ9.1 3 ≤ 1000 := hT.1 3
    have v4 : 0 ≤ τ9.1 4 ∧ τ9.1 4 ≤ 100 := hT.1 4
    have v5 : 0 ≤ τ9.1 5 ∧ τ9.1 5 ≤ 1500 := hT.1 5
    have v10 : (-1) ≤ τ9.1 10 ∧ τ9.1 10 ≤ 999 := hT.1 10
    have v11 : (-1) ≤ τ9.1 11 ∧ τ9.1 11 ≤ 999 := hT.1 11
    have v45 : 0 ≤ τ9.1 45 ∧ τ9.1 45 ≤ 59 := hT.1 45
    have v48 : 0 ≤ τ9.1 48 ∧ τ9.1 48 ≤ 1500 := hT.1 48
    have v49 : 0 ≤ τ9.1 49 ∧ τ9.1 49 ≤ 1 := hT.1 49
    have v50 : 0 ≤ τ9.1 50 ∧ τ9.1 50 ≤ 1500 := hT.1 50
    have v51 : 0 ≤ τ9.1 51 ∧ τ9.1 51 ≤ 60000 := hT.1 51
    have v52 : 0 ≤ τ9.1 52 ∧ τ9.1 52 ≤ 120000 := hT.1 52
    have SF9 := y_SF_h hf_τ9 rfl rfl
    have KC9 := y_KC_c q7_7 q7_8 q7_9
    have DT9 := y_DT_k BI6.1.2.2.2.1 hT6 SF9 KC9 (hf_τ9.2.1 95 (by decide))
    have BI9 := y_BI_r BI6 hf_τ9 q7_1 q7_3 ⟨by omega, by omega⟩ KC9 DT9 rfl rfl
    refine ⟨fun c10 => ?_, fun c10 => ?_⟩
    ·
      refine ⟨fun c11 => ?_, fun c11 => ?_⟩
      ·
        have hT9 := hT
        refine ⟨_, K_X13_treeOf hT (show 0 ≤ n2 from by (first | omega | (simp only [st_s] <;> omega) | assumption | omega | fail)) (show n2 < (τ9.1 5) from by (first | omega | (simp only [st_s] <;> omega) | assumption | omega | fail)) (show τ9.2.1 15 n2 ≤ 60 from by (rw [G15, ← e_x2]; assumption)) (show ca (τ9.2.1 12) ((τ9.1 3)) ≤ (τ9.1 4) from Y20) (show n_J τ9 from by exact BI9.2.2.1) (show m_J τ9 from by exact BI9.2.2.2.1) (show (τ9.1 10) < (τ9.1 3) from by (first | omega | (simp only [st_s] <;> omega) | assumption | omega | fail)) (show (τ9.1 49) = 0 ∨ (y_TT τ9 τ9 (τ9.1 5) (τ9.1 5) ∧ y_Un τ9 (τ9.1 5) (τ9.1 48) (τ9.2.1 84)) from by (rw [W5]; exact BI9.2.1)) (show (τ9.1 51) ≤ 47000 from by (have w := BI9.2.2.2.2; omega)) (show (τ9.1 52) ≤ 88000 from by (have w := BI9.2.2.2.2; omega)), ?_⟩
        intro x13 τ14 r_x13 hn_τ14 hf_τ14 hq
        obtain ⟨hT, q12_1, q12_2, q12_3, q12_4, q12_5, q12_6, q12_7, q12_8, q12_9, q12_10, q12_11, q12_12, q12_13, q12_14, q12_15⟩ := hq
        replace q12_1 : ∃ c : Int, τ14.2.1 94 = st (τ9.2.1 94) n2 c ∧ y_Ti τ9 n2 c ∧ (x13 = -1 ↔ ¬ c = 1) := q12_1
        replace q12_2 : ¬ (τ14.1 49) = 0 ∧ y_TT τ14 τ14 (τ9.1 5) (τ9.1 5) ∧ y_Un τ14 (τ9.1 5) (τ14.1 48) (τ14.2.1 84) := q12_2
        replace q12_3 : (τ9.1 51) ≤ (τ14.1 51) ∧ (τ14.1 51) ≤ (τ9.1 51) + 11700 := q12_3
        replace q12_4 : (τ9.1 52) ≤ (τ14.1 52) ∧ (τ14.1 52) ≤ (τ9.1 52) + 11700 := q12_4
        replace q12_5 : ∀ y : Int, y < (τ9.1 51) → (τ14.2.1 86 y = τ9.2.1 86 y ∧ τ14.2.1 87 y = τ9.2.1 87 y) ∧ τ14.2.1 88 y = τ9.2.1 88 y ∧ τ14.2.1 89 y = τ9.2.1 89 y ∧ τ14.2.1 90 y = τ9.2.1 90 y := q12_5
        replace q12_6 : ∀ e : Int, e < (τ9.1 52) → τ14.2.1 91 e = τ9.2.1 91 e := q12_6
        replace q12_7 : x13 = -1 → (τ14.1 51) = (τ9.1 51) ∧ (τ14.1 52) = (τ9.1 52) := q12_7
        replace q12_8 : ¬ x13 = -1 → x13 = (τ9.1 51) ∧ (τ9.1 51) < (τ14.1 51) := q12_8
        replace q12_9 : ¬ x13 = -1 → ∃ ρ : Int → Int → Int → Int, y_TC ρ τ14 := q12_9
        replace q12_10 : ¬ x13 = -1 → ∀ y : Int, (τ9.1 51) ≤ y → y < (τ14.1 51) → y_c0 τ14 (τ14.2.1 90 y) (τ14.2.1 88 y) (τ14.2.1 89 y) := q12_10
        replace q12_11 : ¬ x13 = -1 → ∀ y : Int, (τ9.1 51) ≤ y → y < (τ14.1 51) → y_nd τ14 (τ14.2.1 86) (τ14.2.1 87) (τ14.2.1 91) (τ14.2.1 88) (τ14.2.1 89) (τ14.2.1 90) y (y + 1) (τ14.1 51) (τ14.1 52) := q12_11
        replace q12_12 : ¬ x13 = -1 → τ14.2.1 90 (τ9.1 51) = τ14.2.1 71 (y_rt τ9 n2) ∧ τ14.2.1 88 (τ9.1 51) = 0 ∧ τ14.2.1 89 (τ9.1 51) = τ9.2.1 15 n2 - 1 := q12_12
        replace q12_13 : ¬ x13 = -1 → 0 ≤ y_rt τ9 n2 ∧ y_rt τ9 n2 < (τ9.1 3) := q12_13
        replace q12_14 : ¬ x13 = -1 → (τ14.1 50) = n2 ∧ (τ14.1 45) = τ9.2.1 15 n2 - 1 ∧ 1 < τ9.2.1 15 n2 := q12_14
        replace q12_15 : ¬ x13 = -1 → ∀ k : Int, 0 ≤ k → k < (τ9.2.1 15 n2 - 1) → τ14.2.1 72 k = τ9.2.1 16 (τ9.2.1 14 n2 + 1 + k) ∧ τ14.2.1 74 k = τ9.2.1 17 (τ9.2.1 14 n2 + 1 + k) ∧ ((τ9.2.1 17 (τ9.2.1 14 n2 + 1 + k) = -1 ∧ τ14.2.1 73 k = -1) ∨ (¬ τ9.2.1 17 (τ9.2.1 14 n2 + 1 + k) = -1 ∧ τ14.2.1 73 k = τ14.2.1 71 (τ9.2.1 16 (τ9.2.1 14 (τ9.2.1 17 (τ9.2.1 14 n2 + 1 + k)))))) := q12_15
        have w3_τ14 : τ14.1 3 = τ9.1 3 := hf_τ14.1 3 (by decide)
        have w4_τ14 : τ14.1 4 = τ9.1 4 := hf_τ14.1 4 (by decide)
        have w5_τ14 : τ14.1 5 = τ9.1 5 := hf_τ14.1 5 (by decide)
        have w10_τ14 : τ14.1 10 = τ9.1 10 := hf_τ14.1 10 (by decide)
        have w11_τ14 : τ14.1 11 = τ9.1 11 := hf_τ14.1 11 (by decide)
        have g8_τ14 : τ14.2.1 8 = τ9.2.1 8 := hf_τ14.2.1 8 (by decide)
        have g10_τ14 : τ14.2.1 10 = τ9.2.1 10 := hf_τ14.2.1 10 (by decide)
        have g12_τ14 : τ14.2.1 12 = τ9.2.1 12 := hf_τ14.2.1 12 (by decide)
        have g13_τ14 : τ14.2.1 13 = τ9.2.1 13 := hf_τ14.2.1 13 (by decide)
        have g14_τ14 : τ14.2.1 14 = τ9.2.1 14 := hf_τ14.2.1 14 (by decide)
        have g15_τ14 : τ14.2.1 15 = τ9.2.1 15 := hf_τ14.2.1 15 (by decide)
        have g16_τ14 : τ14.2.1 16 = τ9.2.1 16 := hf_τ14.2.1 16 (by decide)
        have g17_τ14 : τ14.2.1 17 = τ9.2.1 17 := hf_τ14.2.1 17 (by decide)
        have g18_τ14 : τ14.2.1 18 = τ9.2.1 18 := hf_τ14.2.1 18 (by decide)
        have g19_τ14 : τ14.2.1 19 = τ9.2.1 19 := hf_τ14.2.1 19 (by decide)
        have g20_τ14 : τ14.2.1 20 = τ9.2.1 20 := hf_τ14.2.1 20 (by decide)
        have g95_τ14 : τ14.2.1 95 = τ9.2.1 95 := hf_τ14.2.1 95 (by decide)
        have W3 : τ14.1 3 = σ.1 3 := by first | exact w3_τ14.trans W3 | omega
        have W4 : τ14.1 4 = σ.1 4 := by first | exact w4_τ14.trans W4 | omega
        have W5 : τ14.1 5 = σ.1 5 := by first | exact w5_τ14.trans W5 | omega
        have W10 : τ14.1 10 = σ.1 10 := by first | exact w10_τ14.trans W10 | omega
        have W11 : τ14.1 11 = σ.1 11 := by first | exact w11_τ14.trans W11 | omega
        have G8 : τ14.2.1 8 = σ.2.1 8 := (g8_τ14).trans G8
        have G10 : τ14.2.1 10 = σ.2.1 10 := (g10_τ14).trans G10
        have G12 : τ14.2.1 12 = σ.2.1 12 := (g12_τ14).trans G12
        have G13 : τ14.2.1 13 = σ.2.1 13 := (g13_τ14).trans G13
        have G14 : τ14.2.1 14 = σ.2.1 14 := (g14_τ14).trans G14
        have G15 : τ14.2.1 15 = σ.2.1 15 := (g15_τ14).trans G15
        have G16 : τ14.2.1 16 = σ.2.1 16 := (g16_τ14).trans G16
        have G17 : τ14.2.1 17 = σ.2.1 17 := (g17_τ14).trans G17
        have G18 : τ14.2.1 18 = σ.2.1 18 := (g18_τ14).trans G18
        have G19 : τ14.2.1 19 = σ.2.1 19 := (g19_τ14).trans G19
        have G20 : τ14.2.1 20 = σ.2.1 20 := (g20_τ14).trans G20
        have Y20 : ca (τ14.2.1 12) ((τ14.1 3)) ≤ (τ14.1 4) := by rw [show (ca (τ14.2.1 12) ((τ14.1 3)) ≤ (τ14.1 4)) = (ca (τ9.2.1 12) ((τ9.1 3)) ≤ (τ9.1 4)) from by rw [w3_τ14, w4_τ14, g12_τ14]]; exact Y20
        have A8 : ∀ j, 0 ≤ τ14.2.1 8 j ∧ τ14.2.1 8 j ≤ 1 := fun j => hT.2 8 j
        have A10 : ∀ j, (-1) ≤ τ14.2.1 10 j ∧ τ14.2.1 10 j ≤ 999 := fun j => hT.2 10 j
        have A12 : ∀ j, 0 ≤ τ14.2.1 12 j ∧ τ14.2.1 12 j ≤ 1 := fun j => hT.2 12 j
        have A13 : ∀ j, 0 ≤ τ14.2.1 13 j ∧ τ14.2.1 13 j ≤ 4 := fun j => hT.2 13 j
        have A14 : ∀ j, 0 ≤ τ14.2.1 14 j ∧ τ14.2.1 14 j ≤ 30000 := fun j => hT.2 14 j
        have A15 : ∀ j, 0 ≤ τ14.2.1 15 j ∧ τ14.2.1 15 j ≤ 300 := fun j => hT.2 15 j
        have A16 : ∀ j, 0 ≤ τ14.2.1 16 j ∧ τ14.2.1 16 j ≤ 999 := fun j => hT.2 16 j
        have A17 : ∀ j, (-1) ≤ τ14.2.1 17 j ∧ τ14.2.1 17 j ≤ 1499 := fun j => hT.2 17 j
        have A18 : ∀ j, 0 ≤ τ14.2.1 18 j ∧ τ14.2.1 18 j ≤ 90000 := fun j => hT.2 18 j
        have A19 : ∀ j, 0 ≤ τ14.2.1 19 j ∧ τ14.2.1 19 j ≤ 60 := fun j => hT.2 19 j
        have A20 : ∀ j, 0 ≤ τ14.2.1 20 j ∧ τ14.2.1 20 j ≤ 1499 := fun j => hT.2 20 j
        have A94 : ∀ j, (-1) ≤ τ14.2.1 94 j ∧ τ14.2.1 94 j ≤ 2 := fun j => hT.2 94 j
        have A95 : ∀ j, (-9) ≤ τ14.2.1 95 j ∧ τ14.2.1 95 j ≤ 1499 := fun j => hT.2 95 j
        have v3 : 0 ≤ τ14.1 3 ∧ τ14.1 3 ≤ 1000 := hT.1 3
        have v4 : 0 ≤ τ14.1 4 ∧ τ14.1 4 ≤ 100 := hT.1 4
        have v5 : 0 ≤ τ14.1 5 ∧ τ14.1 5 ≤ 1500 := hT.1 5
        have v10 : (-1) ≤ τ14.1 10 ∧ τ14.1 10 ≤ 999 := hT.1 10
        have v11 : (-1) ≤ τ14.1 11 ∧ τ14.1 11 ≤ 999 := hT.1 11
        have v45 : 0 ≤ τ14.1 45 ∧ τ14.1 45 ≤ 59 := hT.1 45
        have v48 : 0 ≤ τ14.1 48 ∧ τ14.1 48 ≤ 1500 := hT.1 48
        have v49 : 0 ≤ τ14.1 49 ∧ τ14.1 49 ≤ 1 := hT.1 49
        have v50 : 0 ≤ τ14.1 50 ∧ τ14.1 50 ≤ 1500 := hT.1 50
        have v51 : 0 ≤ τ14.1 51 ∧ τ14.1 51 ≤ 60000 := hT.1 51
        have v52 : 0 ≤ τ14.1 52 ∧ τ14.1 52 ≤ 120000 := hT.1 52
        have TO14 : y_TO τ9 τ14 n2 x13 := ⟨q12_1, q12_2, q12_3, q12_4, q12_5, q12_6, fun z => ⟨q12_8 z, q12_9 z, q12_10 z, q12_11 z, q12_12 z, q12_13 z, q12_14 z, q12_15 z⟩⟩
        obtain ⟨⟨BI14, KC14, SF14⟩, nx, ex13, TR14⟩ := y_BI_o BI9 hT9 hf_τ14 TO14 (by omega) (by omega) (by omega) (by omega) (by omega) rfl rfl rfl
        clear q12_1 q12_2 q12_7 q12_8 q12_9 q12_10 q12_11 q12_12 q12_13 q12_14 q12_15
        obtain ⟨wt, TW⟩ := y_TW_o TO14 hT nx
        have l13 : x13 < τ14.1 51 := TR14.2.2.2.2.1.1
        have l51 : τ14.1 51 ≤ 60000 := (hT.1 51).2
        obtain ⟨lo, elo⟩ : ∃ z : Int, z = x13 := ⟨_, rfl⟩
        obtain ⟨hi, ehi⟩ : ∃ z : Int, z = τ14.1 51 := ⟨_, rfl⟩
        rw [← elo, ← ehi] at TW
        have hT14 := hT
        refine ⟨_, K_X13_putTree hT (show y_TW τ14 wt lo hi from by exact TW) (show lo ≤ x13 ∧ x13 < hi from by (first | omega | (simp only [st_s] <;> omega) | assumption | omega | fail)) (show 0 ≤ lo ∧ hi ≤ 60000 from by (first | omega | (simp only [st_s] <;> omega) | assumption | omega | fail)), ?_⟩
        intro τ17 hn_τ17 hf_τ17 hq
        replace hT := hq
        have w3_τ17 : τ17.1 3 = τ14.1 3 := hf_τ17.1 3 (by decide)
        have w4_τ17 : τ17.1 4 = τ14.1 4 := hf_τ17.1 4 (by decide)
        have w5_τ17 : τ17.1 5 = τ14.1 5 := hf_τ17.1 5 (by decide)
        have w10_τ17 : τ17.1 10 = τ14.1 10 := hf_τ17.1 10 (by decide)
        have w11_τ17 : τ17.1 11 = τ14.1 11 := hf_τ17.1 11 (by decide)
        have w45_τ17 : τ17.1 45 = τ14.1 45 := hf_τ17.1 45 (by decide)
        have w48_τ17 : τ17.1 48 = τ14.1 48 := hf_τ17.1 48 (by decide)
        have w49_τ17 : τ17.1 49 = τ14.1 49 := hf_τ17.1 49 (by decide)
        have w50_τ17 : τ17.1 50 = τ14.1 50 := hf_τ17.1 50 (by decide)
        have w51_τ17 : τ17.1 51 = τ14.1 51 := hf_τ17.1 51 (by decide)
        have w52_τ17 : τ17.1 52 = τ14.1 52 := hf_τ17.1 52 (by decide)
        have g8_τ17 : τ17.2.1 8 = τ14.2.1 8 := hf_τ17.2.1 8 (by decide)
        have g10_τ17 : τ17.2.1 10 = τ14.2.1 10 := hf_τ17.2.1 10 (by decide)
        have g12_τ17 : τ17.2.1 12 = τ14.2.1 12 := hf_τ17.2.1 12 (by decide)
        have g13_τ17 : τ17.2.1 13 = τ14.2.1 13 := hf_τ17.2.1 13 (by decide)
        have g14_τ17 : τ17.2.1 14 = τ14.2.1 14 := hf_τ17.2.1 14 (by decide)
        have g15_τ17 : τ17.2.1 15 = τ14.2.1 15 := hf_τ17.2.1 15 (by decide)
        have g16_τ17 : τ17.2.1 16 = τ14.2.1 16 := hf_τ17.2.1 16 (by decide)
        have g17_τ17 : τ17.2.1 17 = τ14.2.1 17 := hf_τ17.2.1 17 (by decide)
        have g18_τ17 : τ17.2.1 18 = τ14.2.1 18 := hf_τ17.2.1 18 (by decide)
        have g19_τ17 : τ17.2.1 19 = τ14.2.1 19 := hf_τ17.2.1 19 (by decide)
        have g20_τ17 : τ17.2.1 20 = τ14.2.1 20 := hf_τ17.2.1 20 (by decide)
        have g94_τ17 : τ17.2.1 94 = τ14.2.1 94 := hf_τ17.2.1 94 (by decide)
        have g95_τ17 : τ17.2.1 95 = τ14.2.1 95 := hf_τ17.2.1 95 (by decide)
        have W3 : τ17.1 3 = σ.1 3 := by first | exact w3_τ17.trans W3 | omega
        have W4 : τ17.1 4 = σ.1 4 := by first | exact w4_τ17.trans W4 | omega
        have W5 : τ17.1 5 = σ.1 5 := by first | exact w5_τ17.trans W5 | omega
        have W10 : τ17.1 10 = σ.1 10 := by first | exact w10_τ17.trans W10 | omega
        have W11 : τ17.1 11 = σ.1 11 := by first | exact w11_τ17.trans W11 | omega
        have G8 : τ17.2.1 8 = σ.2.1 8 := (g8_τ17).trans G8
        have G10 : τ17.2.1 10 = σ.2.1 10 := (g10_τ17).trans G10
        have G12 : τ17.2.1 12 = σ.2.1 12 := (g12_τ17).trans G12
        have G13 : τ17.2.1 13 = σ.2.1 13 := (g13_τ17).trans G13
        have G14 : τ17.2.1 14 = σ.2.1 14 := (g14_τ17).trans G14
        have G15 : τ17.2.1 15 = σ.2.1 15 := (g15_τ17).trans G15
        have G16 : τ17.2.1 16 = σ.2.1 16 := (g16_τ17).trans G16
        have G17 : τ17.2.1 17 = σ.2.1 17 := (g17_τ17).trans G17
        have G18 : τ17.2.1 18 = σ.2.1 18 := (g18_τ17).trans G18
        have G19 : τ17.2.1 19 = σ.2.1 19 := (g19_τ17).trans G19
        have G20 : τ17.2.1 20 = σ.2.1 20 := (g20_τ17).trans G20
        have Y20 : ca (τ17.2.1 12) ((τ17.1 3)) ≤ (τ17.1 4) := by rw [show (ca (τ17.2.1 12) ((τ17.1 3)) ≤ (τ17.1 4)) = (ca (τ14.2.1 12) ((τ14.1 3)) ≤ (τ14.1 4)) from by rw [w3_τ17, w4_τ17, g12_τ17]]; exact Y20
        have A8 : ∀ j, 0 ≤ τ17.2.1 8 j ∧ τ17.2.1 8 j ≤ 1 := fun j => hT.2 8 j
        have A10 : ∀ j, (-1) ≤ τ17.2.1 10 j ∧ τ17.2.1 10 j ≤ 999 := fun j => hT.2 10 j
        have A12 : ∀ j, 0 ≤ τ17.2.1 12 j ∧ τ17.2.1 12 j ≤ 1 := fun j => hT.2 12 j
        have A13 : ∀ j, 0 ≤ τ17.2.1 13 j ∧ τ17.2.1 13 j ≤ 4 := fun j => hT.2 13 j
        have A14 : ∀ j, 0 ≤ τ17.2.1 14 j ∧ τ17.2.1 14 j ≤ 30000 := fun j => hT.2 14 j
        have A15 : ∀ j, 0 ≤ τ17.2.1 15 j ∧ τ17.2.1 15 j ≤ 300 := fun j => hT.2 15 j
        have A16 : ∀ j, 0 ≤ τ17.2.1 16 j ∧ τ17.2.1 16 j ≤ 999 := fun j => hT.2 16 j
        have A17 : ∀ j, (-1) ≤ τ17.2.1 17 j ∧ τ17.2.1 17 j ≤ 1499 := fun j => hT.2 17 j
        have A18 : ∀ j, 0 ≤ τ17.2.1 18 j ∧ τ17.2.1 18 j ≤ 90000 := fun j => hT.2 18 j
        have A19 : ∀ j, 0 ≤ τ17.2.1 19 j ∧ τ17.2.1 19 j ≤ 60 := fun j => hT.2 19 j
        have A20 : ∀ j, 0 ≤ τ17.2.1 20 j ∧ τ17.2.1 20 j ≤ 1499 := fun j => hT.2 20 j
        have A94 : ∀ j, (-1) ≤ τ17.2.1 94 j ∧ τ17.2.1 94 j ≤ 2 := fun j => hT.2 94 j
        have A95 : ∀ j, (-9) ≤ τ17.2.1 95 j ∧ τ17.2.1 95 j ≤ 1499 := fun j => hT.2 95 j
        have v3 : 0 ≤ τ17.1 3 ∧ τ17.1 3 ≤ 1000 := hT.1 3
        have v4 : 0 ≤ τ17.1 4 ∧ τ17.1 4 ≤ 100 := hT.1 4
        have v5 : 0 ≤ τ17.1 5 ∧ τ17.1 5 ≤ 1500 := hT.1 5
        have v10 : (-1) ≤ τ17.1 10 ∧ τ17.1 10 ≤ 999 := hT.1 10
        have v11 : (-1) ≤ τ17.1 11 ∧ τ17.1 11 ≤ 999 := hT.1 11
        have v45 : 0 ≤ τ17.1 45 ∧ τ17.1 45 ≤ 59 := hT.1 45
        have v48 : 0 ≤ τ17.1 48 ∧ τ17.1 48 ≤ 1500 := hT.1 48
        have v49 : 0 ≤ τ17.1 49 ∧ τ17.1 49 ≤ 1 := hT.1 49
        have v50 : 0 ≤ τ17.1 50 ∧ τ17.1 50 ≤ 1500 := hT.1 50
        have v51 : 0 ≤ τ17.1 51 ∧ τ17.1 51 ≤ 60000 := hT.1 51
        have v52 : 0 ≤ τ17.1 52 ∧ τ17.1 52 ≤ 120000 := hT.1 52
        have BI17 := y_BI_g BI14 hT14 hf_τ17 rfl rfl rfl
        have hT17 := hT
        refine ⟨_, K_X13_keepDraft hT, ?_⟩
        intro x19 τ20 r_x19 hn_τ20 hf_τ20 hq
        replace hT := hq
        have w3_τ20 : τ20.1 3 = τ17.1 3 := hf_τ20.1 3 (by decide)
        have w4_τ20 : τ20.1 4 = τ17.1 4 := hf_τ20.1 4 (by decide)
        have w5_τ20 : τ20.1 5 = τ17.1 5 := hf_τ20.1 5 (by decide)
        have w10_τ20 : τ20.1 10 = τ17.1 10 := hf_τ20.1 10 (by decide)
        have w11_τ20 : τ20.1 11 = τ17.1 11 := hf_τ20.1 11 (by decide)
        have w45_τ20 : τ20.1 45 = τ17.1 45 := hf_τ20.1 45 (by decide)
        have w48_τ20 : τ20.1 48 = τ17.1 48 := hf_τ20.1 48 (by decide)
        have w49_τ20 : τ20.1 49 = τ17.1 49 := hf_τ20.1 49 (by decide)
        have w50_τ20 : τ20.1 50 = τ17.1 50 := hf_τ20.1 50 (by decide)
        have w51_τ20 : τ20.1 51 = τ17.1 51 := hf_τ20.1 51 (by decide)
        have w52_τ20 : τ20.1 52 = τ17.1 52 := hf_τ20.1 52 (by decide)
        have g8_τ20 : τ20.2.1 8 = τ17.2.1 8 := hf_τ20.2.1 8 (by decide)
        have g10_τ20 : τ20.2.1 10 = τ17.2.1 10 := hf_τ20.2.1 10 (by decide)
        have g12_τ20 : τ20.2.1 12 = τ17.2.1 12 := hf_τ20.2.1 12 (by decide)
        have g13_τ20 : τ20.2.1 13 = τ17.2.1 13 := hf_τ20.2.1 13 (by decide)
        have g14_τ20 : τ20.2.1 14 = τ17.2.1 14 := hf_τ20.2.1 14 (by decide)
        have g15_τ20 : τ20.2.1 15 = τ17.2.1 15 := hf_τ20.2.1 15 (by decide)
        have g16_τ20 : τ20.2.1 16 = τ17.2.1 16 := hf_τ20.2.1 16 (by decide)
        have g17_τ20 : τ20.2.1 17 = τ17.2.1 17 := hf_τ20.2.1 17 (by decide)
        have g18_τ20 : τ20.2.1 18 = τ17.2.1 18 := hf_τ20.2.1 18 (by decide)
        have g19_τ20 : τ20.2.1 19 = τ17.2.1 19 := hf_τ20.2.1 19 (by decide)
        have g20_τ20 : τ20.2.1 20 = τ17.2.1 20 := hf_τ20.2.1 20 (by decide)
        have g94_τ20 : τ20.2.1 94 = τ17.2.1 94 := hf_τ20.2.1 94 (by decide)
        have g95_τ20 : τ20.2.1 95 = τ17.2.1 95 := hf_τ20.2.1 95 (by decide)
        have W3 : τ20.1 3 = σ.1 3 := by first | exact w3_τ20.trans W3 | omega
        have W4 : τ20.1 4 = σ.1 4 := by first | exact w4_τ20.trans W4 | omega
        have W5 : τ20.1 5 = σ.1 5 := by first | exact w5_τ20.trans W5 | omega
        have W10 : τ20.1 10 = σ.1 10 := by first | exact w10_τ20.trans W10 | omega
        have W11 : τ20.1 11 = σ.1 11 := by first | exact w11_τ20.trans W11 | omega
        have G8 : τ20.2.1 8 = σ.2.1 8 := (g8_τ20).trans G8
        have G10 : τ20.2.1 10 = σ.2.1 10 := (g10_τ20).trans G10
        have G12 : τ20.2.1 12 = σ.2.1 12 := (g12_τ20).trans G12
        have G13 : τ20.2.1 13 = σ.2.1 13 := (g13_τ20).trans G13
        have G14 : τ20.2.1 14 = σ.2.1 14 := (g14_τ20).trans G14
        have G15 : τ20.2.1 15 = σ.2.1 15 := (g15_τ20).trans G15
        have G16 : τ20.2.1 16 = σ.2.1 16 := (g16_τ20).trans G16
        have G17 : τ20.2.1 17 = σ.2.1 17 := (g17_τ20).trans G17
        have G18 : τ20.2.1 18 = σ.2.1 18 := (g18_τ20).trans G18
        have G19 : τ20.2.1 19 = σ.2.1 19 := (g19_τ20).trans G19
        have G20 : τ20.2.1 20 = σ.2.1 20 := (g20_τ20).trans G20
        have Y20 : ca (τ20.2.1 12) ((τ20.1 3)) ≤ (τ20.1 4) := by rw [show (ca (τ20.2.1 12) ((τ20.1 3)) ≤ (τ20.1 4)) = (ca (τ17.2.1 12) ((τ17.1 3)) ≤ (τ17.1 4)) from by rw [w3_τ20, w4_τ20, g12_τ20]]; exact Y20
        have A8 : ∀ j, 0 ≤ τ20.2.1 8 j ∧ τ20.2.1 8 j ≤ 1 := fun j => hT.2 8 j
        have A10 : ∀ j, (-1) ≤ τ20.2.1 10 j ∧ τ20.2.1 10 j ≤ 999 := fun j => hT.2 10 j
        have A12 : ∀ j, 0 ≤ τ20.2.1 12 j ∧ τ20.2.1 12 j ≤ 1 := fun j => hT.2 12 j
        have A13 : ∀ j, 0 ≤ τ20.2.1 13 j ∧ τ20.2.1 13 j ≤ 4 := fun j => hT.2 13 j
        have A14 : ∀ j, 0 ≤ τ20.2.1 14 j ∧ τ20.2.1 14 j ≤ 30000 := fun j => hT.2 14 j
        have A15 : ∀ j, 0 ≤ τ20.2.1 15 j ∧ τ20.2.1 15 j ≤ 300 := fun j => hT.2 15 j
        have A16 : ∀ j, 0 ≤ τ20.2.1 16 j ∧ τ20.2.1 16 j ≤ 999 := fun j => hT.2 16 j
        have A17 : ∀ j, (-1) ≤ τ20.2.1 17 j ∧ τ20.2.1 17 j ≤ 1499 := fun j => hT.2 17 j
        have A18 : ∀ j, 0 ≤ τ20.2.1 18 j ∧ τ20.2.1 18 j ≤ 90000 := fun j => hT.2 18 j
        have A19 : ∀ j, 0 ≤ τ20.2.1 19 j ∧ τ20.2.1 19 j ≤ 60 := fun j => hT.2 19 j
        have A20 : ∀ j, 0 ≤ τ20.2.1 20 j ∧ τ20.2.1 20 j ≤ 1499 := fun j => hT.2 20 j
        have A94 : ∀ j, (-1) ≤ τ20.2.1 94 j ∧ τ20.2.1 94 j ≤ 2 := fun j => hT.2 94 j
        have A95 : ∀ j, (-9) ≤ τ20.2.1 95 j ∧ τ20.2.1 95 j ≤ 1499 := fun j => hT.2 95 j
        have v3 : 0 ≤ τ20.1 3 ∧ τ20.1 3 ≤ 1000 := hT.1 3
        have v4 : 0 ≤ τ20.1 4 ∧ τ20.1 4 ≤ 100 := hT.1 4
        have v5 : 0 ≤ τ20.1 5 ∧ τ20.1 5 ≤ 1500 := hT.1 5
        have v10 : (-1) ≤ τ20.1 10 ∧ τ20.1 10 ≤ 999 := hT.1 10
        have v11 : (-1) ≤ τ20.1 11 ∧ τ20.1 11 ≤ 999 := hT.1 11
        have v45 : 0 ≤ τ20.1 45 ∧ τ20.1 45 ≤ 59 := hT.1 45
        have v48 : 0 ≤ τ20.1 48 ∧ τ20.1 48 ≤ 1500 := hT.1 48
        have v49 : 0 ≤ τ20.1 49 ∧ τ20.1 49 ≤ 1 := hT.1 49
        have v50 : 0 ≤ τ20.1 50 ∧ τ20.1 50 ≤ 1500 := hT.1 50
        have v51 : 0 ≤ τ20.1 51 ∧ τ20.1 51 ≤ 60000 := hT.1 51
        have v52 : 0 ≤ τ20.1 52 ∧ τ20.1 52 ≤ 120000 := hT.1 52
        have BI20 := y_BI_g BI17 hT17 hf_τ20 rfl rfl rfl
        exact ⟨hT, (show y_BI σ τ20 from by (first | exact p6 | exact BI9 | exact BI20 | exact BI23 | fail))⟩
      ·
        refine ⟨_, K_X13_printBare hT (show 0 ≤ n2 from by (first | omega | (simp only [st_s] <;> omega) | assumption | omega | fail)) (show n2 < (τ9.1 5) from by (first | omega | (simp only [st_s] <;> omega) | assumption | omega | fail)) (show τ9.2.1 15 n2 ≤ 60 from by (rw [G15, ← e_x2]; assumption)) (show ca (τ9.2.1 12) ((τ9.1 3)) ≤ (τ9.1 4) from Y20) (show (τ9.1 10) < (τ9.1 3) from by (first | omega | (simp only [st_s] <;> omega) | assumption | omega | fail)) (show y_BI τ9 τ9 from by exact y_BI_z BI9) (show τ9.2.1 94 n2 = 1 from by (first | omega | (simp only [st_s] <;> omega) | assumption | omega | fail)), ?_⟩
        intro x22 τ23 r_x22 hn_τ23 hf_τ23 hq
        obtain ⟨hT, q21_1⟩ := hq
        replace q21_1 : y_BI τ9 τ23 := q21_1
        have w3_τ23 : τ23.1 3 = τ9.1 3 := hf_τ23.1 3 (by decide)
        have w4_τ23 : τ23.1 4 = τ9.1 4 := hf_τ23.1 4 (by decide)
        have w5_τ23 : τ23.1 5 = τ9.1 5 := hf_τ23.1 5 (by decide)
        have w10_τ23 : τ23.1 10 = τ9.1 10 := hf_τ23.1 10 (by decide)
        have w11_τ23 : τ23.1 11 = τ9.1 11 := hf_τ23.1 11 (by decide)
        have g8_τ23 : τ23.2.1 8 = τ9.2.1 8 := hf_τ23.2.1 8 (by decide)
        have g10_τ23 : τ23.2.1 10 = τ9.2.1 10 := hf_τ23.2.1 10 (by decide)
        have g12_τ23 : τ23.2.1 12 = τ9.2.1 12 := hf_τ23.2.1 12 (by decide)
        have g13_τ23 : τ23.2.1 13 = τ9.2.1 13 := hf_τ23.2.1 13 (by decide)
        have g14_τ23 : τ23.2.1 14 = τ9.2.1 14 := hf_τ23.2.1 14 (by decide)
        have g15_τ23 : τ23.2.1 15 = τ9.2.1 15 := hf_τ23.2.1 15 (by decide)
        have g16_τ23 : τ23.2.1 16 = τ9.2.1 16 := hf_τ23.2.1 16 (by decide)
        have g17_τ23 : τ23.2.1 17 = τ9.2.1 17 := hf_τ23.2.1 17 (by decide)
        have g18_τ23 : τ23.2.1 18 = τ9.2.1 18 := hf_τ23.2.1 18 (by decide)
        have g19_τ23 : τ23.2.1 19 = τ9.2.1 19 := hf_τ23.2.1 19 (by decide)
        have g20_τ23 : τ23.2.1 20 = τ9.2.1 20 := hf_τ23.2.1 20 (by decide)
        have W3 : τ23.1 3 = σ.1 3 := by first | exact w3_τ23.trans W3 | omega
        have W4 : τ23.1 4 = σ.1 4 := by first | exact w4_τ23.trans W4 | omega
        have W5 : τ23.1 5 = σ.1 5 := by first | exact w5_τ23.trans W5 | omega
        have W10 : τ23.1 10 = σ.1 10 := by first | exact w10_τ23.trans W10 | omega
        have W11 : τ23.1 11 = σ.1 11 := by first | exact w11_τ23.trans W11 | omega
        have G8 : τ23.2.1 8 = σ.2.1 8 := (g8_τ23).trans G8
        have G10 : τ23.2.1 10 = σ.2.1 10 := (g10_τ23).trans G10
        have G12 : τ23.2.1 12 = σ.2.1 12 := (g12_τ23).trans G12
        have G13 : τ23.2.1 13 = σ.2.1 13 := (g13_τ23).trans G13
        have G14 : τ23.2.1 14 = σ.2.1 14 := (g14_τ23).trans G14
        have G15 : τ23.2.1 15 = σ.2.1 15 := (g15_τ23).trans G15
        have G16 : τ23.2.1 16 = σ.2.1 16 := (g16_τ23).trans G16
        have G17 : τ23.2.1 17 = σ.2.1 17 := (g17_τ23).trans G17
        have G18 : τ23.2.1 18 = σ.2.1 18 := (g18_τ23).trans G18
        have G19 : τ23.2.1 19 = σ.2.1 19 := (g19_τ23).trans G19
        have G20 : τ23.2.1 20 = σ.2.1 20 := (g20_τ23).trans G20
        have Y20 : ca (τ23.2.1 12) ((τ23.1 3)) ≤ (τ23.1 4) := by rw [show (ca (τ23.2.1 12) ((τ23.1 3)) ≤ (τ23.1 4)) = (ca (τ9.2.1 12) ((τ9.1 3)) ≤ (τ9.1 4)) from by rw [w3_τ23, w4_τ23, g12_τ23]]; exact Y20
        have A8 : ∀ j, 0 ≤ τ23.2.1 8 j ∧ τ23.2.1 8 j ≤ 1 := fun j => hT.2 8 j
        have A10 : ∀ j, (-1) ≤ τ23.2.1 10 j ∧ τ23.2.1 10 j ≤ 999 := fun j => hT.2 10 j
        have A12 : ∀ j, 0 ≤ τ23.2.1 12 j ∧ τ23.2.1 12 j ≤ 1 := fun j => hT.2 12 j
        have A13 : ∀ j, 0 ≤ τ23.2.1 13 j ∧ τ23.2.1 13 j ≤ 4 := fun j => hT.2 13 j
        have A14 : ∀ j, 0 ≤ τ23.2.1 14 j ∧ τ23.2.1 14 j ≤ 30000 := fun j => hT.2 14 j
        have A15 : ∀ j, 0 ≤ τ23.2.1 15 j ∧ τ23.2.1 15 j ≤ 300 := fun j => hT.2 15 j
        have A16 : ∀ j, 0 ≤ τ23.2.1 16 j ∧ τ23.2.1 16 j ≤ 999 := fun j => hT.2 16 j
        have A17 : ∀ j, (-1) ≤ τ23.2.1 17 j ∧ τ23.2.1 17 j ≤ 1499 := fun j => hT.2 17 j
        have A18 : ∀ j, 0 ≤ τ23.2.1 18 j ∧ τ23.2.1 18 j ≤ 90000 := fun j => hT.2 18 j
        have A19 : ∀ j, 0 ≤ τ23.2.1 19 j ∧ τ23.2.1 19 j ≤ 60 := fun j => hT.2 19 j
        have A20 : ∀ j, 0 ≤ τ23.2.1 20 j ∧ τ23.2.1 20 j ≤ 1499 := fun j => hT.2 20 j
        have A94 : ∀ j, (-1) ≤ τ23.2.1 94 j ∧ τ23.2.1 94 j ≤ 2 := fun j => hT.2 94 j
        have A95 : ∀ j, (-9) ≤ τ23.2.1 95 j ∧ τ23.2.1 95 j ≤ 1499 := fun j => hT.2 95 j
        have v3 : 0 ≤ τ23.1 3 ∧ τ23.1 3 ≤ 1000 := hT.1 3
        have v4 : 0 ≤ τ23.1 4 ∧ τ23.1 4 ≤ 100 := hT.1 4
        have v5 : 0 ≤ τ23.1 5 ∧ τ23.1 5 ≤ 1500 := hT.1 5
        have v10 : (-1) ≤ τ23.1 10 ∧ τ23.1 10 ≤ 999 := hT.1 10
        have v11 : (-1) ≤ τ23.1 11 ∧ τ23.1 11 ≤ 999 := hT.1 11
        have v45 : 0 ≤ τ23.1 45 ∧ τ23.1 45 ≤ 59 := hT.1 45
        have v48 : 0 ≤ τ23.1 48 ∧ τ23.1 48 ≤ 1500 := hT.1 48
        have v49 : 0 ≤ τ23.1 49 ∧ τ23.1 49 ≤ 1 := hT.1 49
        have v50 : 0 ≤ τ23.1 50 ∧ τ23.1 50 ≤ 1500 := hT.1 50
        have v51 : 0 ≤ τ23.1 51 ∧ τ23.1 51 ≤ 60000 := hT.1 51
        have v52 : 0 ≤ τ23.1 52 ∧ τ23.1 52 ≤ 120000 := hT.1 52
        have BI23 := y_BI_t BI9 q21_1
        exact ⟨hT, (show y_BI σ τ23 from by (first | exact p6 | exact BI9 | exact BI20 | exact BI23 | fail))⟩
    ·
      exact ⟨hT, (show y_BI σ τ9 from by (first | exact p6 | exact BI9 | exact BI20 | exact BI23 | fail))⟩
  ·
    exact ⟨hT, (show y_BI σ σ from by (first | exact p6 | exact BI9 | exact BI20 | exact BI23 | fail))⟩
set_option maxHeartbeats 4000000 in
theorem K_X13_print {n1 : Int} {n2 : Int} {n3 : Int} {σ : S0} (hT : m_T σ) (p1 : -2147483648 ≤ n1 ∧ n1 ≤ 2147483647) (p2 : -2147483648 ≤ n2 ∧ n2 ≤ 2147483647) (p3 : -2147483648 ≤ n3 ∧ n3 ≤ 2147483647) (p4 : ca (σ.2.1 12) ((σ.1 3)) ≤ (σ.1 4)) (p5 : (σ.1 10) < (σ.1 3)) (p6 : y_BI σ σ) (p7 : J_pa (σ.2.1 21) (σ.2.1 22)) (p8 : n_Y σ) (p9 : n_nu (σ.2.1 63)) : W_X13_print n1 n2 n3 σ (fun (x : Int) (τ : S0) => (m_T τ) ∧ (y_BI σ τ) ∧ (n_Y τ) ∧ (n_nu (τ.2.1 63))) := by
  have A8 : ∀ j, 0 ≤ σ.2.1 8 j ∧ σ.2.1 8 j ≤ 1 := fun j => hT.2 8 j
  have A10 : ∀ j, (-1) ≤ σ.2.1 10 j ∧ σ.2.1 10 j ≤ 999 := fun j => hT.2 10 j
  have A12 : ∀ j, 0 ≤ σ.2.1 12 j ∧ σ.2.1 12 j ≤ 1 := fun j => hT.2 12 j
  have A13 : ∀ j, 0 ≤ σ.2.1 13 j ∧ σ.2.1 13 j ≤ 4 := fun j => hT.2 13 j
  have A14 : ∀ j, 0 ≤ σ.2.1 14 j ∧ σ.2.1 14 j ≤ 30000 := fun j => hT.2 14 j
  have A15 : ∀ j, 0 ≤ σ.2.1 15 j ∧ σ.2.1 15 j ≤ 300 := fun j => hT.2 15 j
  have A16 : ∀ j, 0 ≤ σ.2.1 16 j ∧ σ.2.1 16 j ≤ 999 := fun j => hT.2 16 j
  have A17 : ∀ j, (-1) ≤ σ.2.1 17 j ∧ σ.2.1 17 j ≤ 1499 := fun j => hT.2 17 j
  have A18 : ∀ j, 0 ≤ σ.2.1 18 j ∧ σ.2.1 18 j ≤ 90000 := fun j => hT.2 18 j
  have A19 : ∀ j, 0 ≤ σ.2.1 19 j ∧ σ.2.1 19 j ≤ 60 := fun j => hT.2 19 j
  have A20 : ∀ j, 0 ≤ σ.2.1 20 j ∧ σ.2.1 20 j ≤ 1499 := fun j => hT.2 20 j
  have A21 : ∀ j, 0 ≤ σ.2.1 21 j ∧ σ.2.1 21 j ≤ 20000 := fun j => hT.2 21 j
  have A22 : ∀ j, 0 ≤ σ.2.1 22 j ∧ σ.2.1 22 j ≤ 20000 := fun j => hT.2 22 j
  have A63 : ∀ j, (-2147483648) ≤ σ.2.1 63 j ∧ σ.2.1 63 j ≤ 2147483647 := fun j => hT.2 63 j
  have v3 : 0 ≤ σ.1 3 ∧ σ.1 3 ≤ 1000 := hT.1 3
  have v4 : 0 ≤ σ.1 4 ∧ σ.1 4 ≤ 100 := hT.1 4
  have v5 : 0 ≤ σ.1 5 ∧ σ.1 5 ≤ 1500 := hT.1 5
  have v10 : (-1) ≤ σ.1 10 ∧ σ.1 10 ≤ 999 := hT.1 10
  have v11 : (-1) ≤ σ.1 11 ∧ σ.1 11 ≤ 999 := hT.1 11
  have v36 : 0 ≤ σ.1 36 ∧ σ.1 36 ≤ 20000 := hT.1 36
  have v38 : 0 ≤ σ.1 38 ∧ σ.1 38 ≤ 1500 := hT.1 38
  have v49 : 0 ≤ σ.1 49 ∧ σ.1 49 ≤ 1 := hT.1 49
  have v51 : 0 ≤ σ.1 51 ∧ σ.1 51 ≤ 60000 := hT.1 51
  have v52 : 0 ≤ σ.1 52 ∧ σ.1 52 ≤ 120000 := hT.1 52
  have W3 : σ.1 3 = σ.1 3 := rfl
  have W4 : σ.1 4 = σ.1 4 := rfl
  have W5 : σ.1 5 = σ.1 5 := rfl
  have W10 : σ.1 10 = σ.1 10 := rfl
  have W11 : σ.1 11 = σ.1 11 := rfl
  have G8 : σ.2.1 8 = σ.2.1 8 := rfl
  have G10 : σ.2.1 10 = σ.2.1 10 := rfl
  have G12 : σ.2.1 12 = σ.2.1 12 := rfl
  have G13 : σ.2.1 13 = σ.2.1 13 := rfl
  have G14 : σ.2.1 14 = σ.2.1 14 := rfl
  have G15 : σ.2.1 15 = σ.2.1 15 := rfl
  have G16 : σ.2.1 16 = σ.2.1 16 := rfl
  have G17 : σ.2.1 17 = σ.2.1 17 := rfl
  have G18 : σ.2.1 18 = σ.2.1 18 := rfl
  have G19 : σ.2.1 19 = σ.2.1 19 := rfl
  have G20 : σ.2.1 20 = σ.2.1 20 := rfl
  have G21 : σ.2.1 21 = σ.2.1 21 := rfl
  have G22 : σ.2.1 22 = σ.2.1 22 := rfl
  intro P178 h178
  have hT0 := hT
  have l3 : σ.1 3 ≤ 1000 := (hT.1 3).2
  have Y20 : ca (σ.2.1 12) ((σ.1 3)) ≤ (σ.1 4) := p4
  have PA : J_pa (σ.2.1 21) (σ.2.1 22) := p7
  have NU : n_nu (σ.2.1 63) := p9
  have NU_0 := NU
  have PA_0 := PA
  have Y20_0 := Y20
  have l_178 : ∀ (τ_178 : S0), (m_T τ_178) → (τ_178.1 3 = σ.1 3) → (τ_178.1 4 = σ.1 4) → (τ_178.1 5 = σ.1 5) → (τ_178.1 10 = σ.1 10) → (τ_178.1 11 = σ.1 11) → (τ_178.2.1 8 = σ.2.1 8) → (τ_178.2.1 10 = σ.2.1 10) → (τ_178.2.1 12 = σ.2.1 12) → (τ_178.2.1 13 = σ.2.1 13) → (τ_178.2.1 14 = σ.2.1 14) → (τ_178.2.1 15 = σ.2.1 15) → (τ_178.2.1 16 = σ.2.1 16) → (τ_178.2.1 17 = σ.2.1 17) → (τ_178.2.1 18 = σ.2.1 18) → (τ_178.2.1 19 = σ.2.1 19) → (τ_178.2.1 20 = σ.2.1 20) → (τ_178.2.1 21 = σ.2.1 21) → (τ_178.2.1 22 = σ.2.1 22) → (y_BI σ τ_178) → (n_Y τ_178) → (n_nu (τ_178.2.1 63)) → P178 n1 n2 τ_178 := by
    intro τ_178 hT W3 W4 W5 W10 W11 G8 G10 G12 G13 G14 G15 G16 G17 G18 G19 G20 G21 G22 i178_1 i178_2 i178_3
    have A8 : ∀ j, 0 ≤ τ_178.2.1 8 j ∧ τ_178.2.1 8 j ≤ 1 := fun j => hT.2 8 j
    have A10 : ∀ j, (-1) ≤ τ_178.2.1 10 j ∧ τ_178.2.1 10 j ≤ 999 := fun j => hT.2 10 j
    have A12 : ∀ j, 0 ≤ τ_178.2.1 12 j ∧ τ_178.2.1 12 j ≤ 1 := fun j => hT.2 12 j
    have A13 : ∀ j, 0 ≤ τ_178.2.1 13 j ∧ τ_178.2.1 13 j ≤ 4 := fun j => hT.2 13 j
    have A14 : ∀ j, 0 ≤ τ_178.2.1 14 j ∧ τ_178.2.1 14 j ≤ 30000 := fun j => hT.2 14 j
    have A15 : ∀ j, 0 ≤ τ_178.2.1 15 j ∧ τ_178.2.1 15 j ≤ 300 := fun j => hT.2 15 j
    have A16 : ∀ j, 0 ≤ τ_178.2.1 16 j ∧ τ_178.2.1 16 j ≤ 999 := fun j => hT.2 16 j
    have A17 : ∀ j, (-1) ≤ τ_178.2.1 17 j ∧ τ_178.2.1 17 j ≤ 1499 := fun j => hT.2 17 j
    have A18 : ∀ j, 0 ≤ τ_178.2.1 18 j ∧ τ_178.2.1 18 j ≤ 90000 := fun j => hT.2 18 j
    have A19 : ∀ j, 0 ≤ τ_178.2.1 19 j ∧ τ_178.2.1 19 j ≤ 60 := fun j => hT.2 19 j
    have A20 : ∀ j, 0 ≤ τ_178.2.1 20 j ∧ τ_178.2.1 20 j ≤ 1499 := fun j => hT.2 20 j
    have A21 : ∀ j, 0 ≤ τ_178.2.1 21 j ∧ τ_178.2.1 21 j ≤ 20000 := fun j => hT.2 21 j
    have A22 : ∀ j, 0 ≤ τ_178.2.1 22 j ∧ τ_178.2.1 22 j ≤ 20000 := fun j => hT.2 22 j
    have A63 : ∀ j, (-2147483648) ≤ τ_178.2.1 63 j ∧ τ_178.2.1 63 j ≤ 2147483647 := fun j => hT.2 63 j
    have v3 : 0 ≤ τ_178.1 3 ∧ τ_178.1 3 ≤ 1000 := hT.1 3
    have v4 : 0 ≤ τ_178.1 4 ∧ τ_178.1 4 ≤ 100 := hT.1 4
    have v5 : 0 ≤ τ_178.1 5 ∧ τ_178.1 5 ≤ 1500 := hT.1 5
    have v10 : (-1) ≤ τ_178.1 10 ∧ τ_178.1 10 ≤ 999 := hT.1 10
    have v11 : (-1) ≤ τ_178.1 11 ∧ τ_178.1 11 ≤ 999 := hT.1 11
    have v36 : 0 ≤ τ_178.1 36 ∧ τ_178.1 36 ≤ 20000 := hT.1 36
    have v38 : 0 ≤ τ_178.1 38 ∧ τ_178.1 38 ≤ 1500 := hT.1 38
    have v49 : 0 ≤ τ_178.1 49 ∧ τ_178.1 49 ≤ 1 := hT.1 49
    have v51 : 0 ≤ τ_178.1 51 ∧ τ_178.1 51 ≤ 60000 := hT.1 51
    have v52 : 0 ≤ τ_178.1 52 ∧ τ_178.1 52 ≤ 120000 := hT.1 52
    have Y20 : ca (τ_178.2.1 12) ((τ_178.1 3)) ≤ (τ_178.1 4) := by rw [show (ca (τ_178.2.1 12) ((τ_178.1 3)) ≤ (τ_178.1 4)) = (ca (σ.2.1 12) ((σ.1 3)) ≤ (σ.1 4)) from by rw [W3, W4, G12]]; exact Y20_0
    have PA : J_pa (τ_178.2.1 21) (τ_178.2.1 22) := by rw [show (J_pa (τ_178.2.1 21) (τ_178.2.1 22)) = (J_pa (σ.2.1 21) (σ.2.1 22)) from by rw [G21, G22]]; exact PA_0
    have NU : n_nu (τ_178.2.1 63) := i178_3
    refine h178 n1 n2 τ_178 ?_
    refine ⟨_, K_X13_isStatement hT (show -2147483648 ≤ n2 ∧ n2 ≤ 2147483647 from by (first | omega | (simp only [st_s] <;> omega) | assumption | omega | fail)), ?_⟩
    intro x55 r_x55 hq
    obtain ⟨q54_1, q54_2⟩ := hq
    replace q54_1 : 0 ≤ x55 ∧ x55 ≤ 1 := q54_1
    replace q54_2 : ¬ x55 = 0 → 0 ≤ n2 ∧ n2 < (τ_178.1 5) := q54_2
    refine ⟨fun c57 => ?_, fun c57 => ?_⟩
    ·
      exact ⟨hT, (show y_BI σ τ_178 from by (first | exact BI3 | exact BI14 | exact BI25 | exact BI32 | exact BI35 | exact BI39 | exact BI46 | exact BI53 | exact BI60 | exact i178_1 | fail)), (show n_Y τ_178 from by (first | exact Y3 | exact Y14 | exact Y25 | exact Y32 | exact q33_3 | exact Y39 | exact q44_1 | exact q51_1 | exact Y60 | exact i178_2 | fail)), (show n_nu (τ_178.2.1 63) from NU)⟩
    ·
      have hTj := hT
      refine ⟨_, K_X13_printTree hT (show -2147483648 ≤ n1 ∧ n1 ≤ 2147483647 from by (first | omega | (simp only [st_s] <;> omega) | assumption | omega | fail)) (show 0 ≤ n2 from by (first | omega | (simp only [st_s] <;> omega) | assumption | omega | fail)) (show n2 < (τ_178.1 5) from by (first | omega | (simp only [st_s] <;> omega) | assumption | omega | fail)) (show ca (τ_178.2.1 12) ((τ_178.1 3)) ≤ (τ_178.1 4) from Y20) (show (τ_178.1 10) < (τ_178.1 3) from by (first | omega | (simp only [st_s] <;> omega) | assumption | omega | fail)) (show y_BI τ_178 τ_178 from by exact y_BI_z i178_1), ?_⟩
      intro x59 τ60 r_x59 hn_τ60 hf_τ60 hq
      obtain ⟨hT, q58_1⟩ := hq
      replace q58_1 : y_BI τ_178 τ60 := q58_1
      have w3_τ60 : τ60.1 3 = τ_178.1 3 := hf_τ60.1 3 (by decide)
      have w4_τ60 : τ60.1 4 = τ_178.1 4 := hf_τ60.1 4 (by decide)
      have w5_τ60 : τ60.1 5 = τ_178.1 5 := hf_τ60.1 5 (by decide)
      have w10_τ60 : τ60.1 10 = τ_178.1 10 := hf_τ60.1 10 (by decide)
      have w11_τ60 : τ60.1 11 = τ_178.1 11 := hf_τ60.1 11 (by decide)
      have w36_τ60 : τ60.1 36 = τ_178.1 36 := hf_τ60.1 36 (by decide)
      have w38_τ60 : τ60.1 38 = τ_178.1 38 := hf_τ60.1 38 (by decide)
      have g8_τ60 : τ60.2.1 8 = τ_178.2.1 8 := hf_τ60.2.1 8 (by decide)
      have g10_τ60 : τ60.2.1 10 = τ_178.2.1 10 := hf_τ60.2.1 10 (by decide)
      have g12_τ60 : τ60.2.1 12 = τ_178.2.1 12 := hf_τ60.2.1 12 (by decide)
      have g13_τ60 : τ60.2.1 13 = τ_178.2.1 13 := hf_τ60.2.1 13 (by decide)
      have g14_τ60 : τ60.2.1 14 = τ_178.2.1 14 := hf_τ60.2.1 14 (by decide)
      have g15_τ60 : τ60.2.1 15 = τ_178.2.1 15 := hf_τ60.2.1 15 (by decide)
      have g16_τ60 : τ60.2.1 16 = τ_178.2.1 16 := hf_τ60.2.1 16 (by decide)
      have g17_τ60 : τ60.2.1 17 = τ_178.2.1 17 := hf_τ60.2.1 17 (by decide)
      have g18_τ60 : τ60.2.1 18 = τ_178.2.1 18 := hf_τ60.2.1 18 (by decide)
      have g19_τ60 : τ60.2.1 19 = τ_178.2.1 19 := hf_τ60.2.1 19 (by decide)
      have g20_τ60 : τ60.2.1 20 = τ_178.2.1 20 := hf_τ60.2.1 20 (by decide)
      have g21_τ60 : τ60.2.1 21 = τ_178.2.1 21 := hf_τ60.2.1 21 (by decide)
      have g22_τ60 : τ60.2.1 22 = τ_178.2.1 22 := hf_τ60.2.1 22 (by decide)
      have g63_τ60 : τ60.2.1 63 = τ_178.2.1 63 := hf_τ60.2.1 63 (by decide)
      have W3 : τ60.1 3 = σ.1 3 := by first | exact w3_τ60.trans W3 | omega
      have W4 : τ60.1 4 = σ.1 4 := by first | exact w4_τ60.trans W4 | omega
      have W5 : τ60.1 5 = σ.1 5 := by first | exact w5_τ60.trans W5 | omega
      have W10 : τ60.1 10 = σ.1 10 := by first | exact w10_τ60.trans W10 | omega
      have W11 : τ60.1 11 = σ.1 11 := by first | exact w11_τ60.trans W11 | omega
      have G8 : τ60.2.1 8 = σ.2.1 8 := (g8_τ60).trans G8
      have G10 : τ60.2.1 10 = σ.2.1 10 := (g10_τ60).trans G10
      have G12 : τ60.2.1 12 = σ.2.1 12 := (g12_τ60).trans G12
      have G13 : τ60.2.1 13 = σ.2.1 13 := (g13_τ60).trans G13
      have G14 : τ60.2.1 14 = σ.2.1 14 := (g14_τ60).trans G14
      have G15 : τ60.2.1 15 = σ.2.1 15 := (g15_τ60).trans G15
      have G16 : τ60.2.1 16 = σ.2.1 16 := (g16_τ60).trans G16
      have G17 : τ60.2.1 17 = σ.2.1 17 := (g17_τ60).trans G17
      have G18 : τ60.2.1 18 = σ.2.1 18 := (g18_τ60).trans G18
      have G19 : τ60.2.1 19 = σ.2.1 19 := (g19_τ60).trans G19
      have G20 : τ60.2.1 20 = σ.2.1 20 := (g20_τ60).trans G20
      have G21 : τ60.2.1 21 = σ.2.1 21 := (g21_τ60).trans G21
      have G22 : τ60.2.1 22 = σ.2.1 22 := (g22_τ60).trans G22
      have Y20 : ca (τ60.2.1 12) ((τ60.1 3)) ≤ (τ60.1 4) := by rw [show (ca (τ60.2.1 12) ((τ60.1 3)) ≤ (τ60.1 4)) = (ca (τ_178.2.1 12) ((τ_178.1 3)) ≤ (τ_178.1 4)) from by rw [w3_τ60, w4_τ60, g12_τ60]]; exact Y20
      have PA : J_pa (τ60.2.1 21) (τ60.2.1 22) := by rw [show (J_pa (τ60.2.1 21) (τ60.2.1 22)) = (J_pa (τ_178.2.1 21) (τ_178.2.1 22)) from by rw [g21_τ60, g22_τ60]]; exact PA
      have NU : n_nu (τ60.2.1 63) := by rw [show (n_nu (τ60.2.1 63)) = (n_nu (τ_178.2.1 63)) from by rw [g63_τ60]]; exact NU
      have A8 : ∀ j, 0 ≤ τ60.2.1 8 j ∧ τ60.2.1 8 j ≤ 1 := fun j => hT.2 8 j
      have A10 : ∀ j, (-1) ≤ τ60.2.1 10 j ∧ τ60.2.1 10 j ≤ 999 := fun j => hT.2 10 j
      have A12 : ∀ j, 0 ≤ τ60.2.1 12 j ∧ τ60.2.1 12 j ≤ 1 := fun j => hT.2 12 j
      have A13 : ∀ j, 0 ≤ τ60.2.1 13 j ∧ τ60.2.1 13 j ≤ 4 := fun j => hT.2 13 j
      have A14 : ∀ j, 0 ≤ τ60.2.1 14 j ∧ τ60.2.1 14 j ≤ 30000 := fun j => hT.2 14 j
      have A15 : ∀ j, 0 ≤ τ60.2.1 15 j ∧ τ60.2.1 15 j ≤ 300 := fun j => hT.2 15 j
      have A16 : ∀ j, 0 ≤ τ60.2.1 16 j ∧ τ60.2.1 16 j ≤ 999 := fun j => hT.2 16 j
      have A17 : ∀ j, (-1) ≤ τ60.2.1 17 j ∧ τ60.2.1 17 j ≤ 1499 := fun j => hT.2 17 j
      have A18 : ∀ j, 0 ≤ τ60.2.1 18 j ∧ τ60.2.1 18 j ≤ 90000 := fun j => hT.2 18 j
      have A19 : ∀ j, 0 ≤ τ60.2.1 19 j ∧ τ60.2.1 19 j ≤ 60 := fun j => hT.2 19 j
      have A20 : ∀ j, 0 ≤ τ60.2.1 20 j ∧ τ60.2.1 20 j ≤ 1499 := fun j => hT.2 20 j
      have A21 : ∀ j, 0 ≤ τ60.2.1 21 j ∧ τ60.2.1 21 j ≤ 20000 := fun j => hT.2 21 j
      have A22 : ∀ j, 0 ≤ τ60.2.1 22 j ∧ τ60.2.1 22 j ≤ 20000 := fun j => hT.2 22 j
      have A63 : ∀ j, (-2147483648) ≤ τ60.2.1 63 j ∧ τ60.2.1 63 j ≤ 2147483647 := fun j => hT.2 63 j
      have v3 : 0 ≤ τ60.1 3 ∧ τ60.1 3 ≤ 1000 := hT.1 3
      have v4 : 0 ≤ τ60.1 4 ∧ τ60.1 4 ≤ 100 := hT.1 4
      have v5 : 0 ≤ τ60.1 5 ∧ τ60.1 5 ≤ 1500 := hT.1 5
      have v10 : (-1) ≤ τ60.1 10 ∧ τ60.1 10 ≤ 999 := hT.1 10
      have v11 : (-1) ≤ τ60.1 11 ∧ τ60.1 11 ≤ 999 := hT.1 11
      have v36 : 0 ≤ τ60.1 36 ∧ τ60.1 36 ≤ 20000 := hT.1 36
      have v38 : 0 ≤ τ60.1 38 ∧ τ60.1 38 ≤ 1500 := hT.1 38
      have v49 : 0 ≤ τ60.1 49 ∧ τ60.1 49 ≤ 1 := hT.1 49
      have v51 : 0 ≤ τ60.1 51 ∧ τ60.1 51 ≤ 60000 := hT.1 51
      have v52 : 0 ≤ τ60.1 52 ∧ τ60.1 52 ≤ 120000 := hT.1 52
      have BI60 := y_BI_t i178_1 q58_1
      have Y60 := n_Y_h i178_2 hf_τ60 rfl rfl
      exact ⟨hT, (show y_BI σ τ60 from by (first | exact BI3 | exact BI14 | exact BI25 | exact BI32 | exact BI35 | exact BI39 | exact BI46 | exact BI53 | exact BI60 | exact i178_1 | fail)), (show n_Y τ60 from by (first | exact Y3 | exact Y14 | exact Y25 | exact Y32 | exact q33_3 | exact Y39 | exact q44_1 | exact q51_1 | exact Y60 | exact i178_2 | fail)), (show n_nu (τ60.2.1 63) from NU)⟩
  replace hT := mT_v (i := 39) hT (show (0 : Int) ≤ 0 ∧ 0 ≤ 24001 from by (first | omega | (simp only [st_s] <;> omega) | assumption | omega | fail))
  refine ⟨_, K_X13_beginTrees hT, ?_⟩
  intro τ3 hn_τ3 hf_τ3 hq
  obtain ⟨hT, q1_1, q1_2⟩ := hq
  replace q1_1 : (τ3.1 51) = 0 := q1_1
  replace q1_2 : (τ3.1 52) = 0 := q1_2
  have w3_τ3 : τ3.1 3 = σ.1 3 := hf_τ3.1 3 (by decide)
  have w4_τ3 : τ3.1 4 = σ.1 4 := hf_τ3.1 4 (by decide)
  have w5_τ3 : τ3.1 5 = σ.1 5 := hf_τ3.1 5 (by decide)
  have w10_τ3 : τ3.1 10 = σ.1 10 := hf_τ3.1 10 (by decide)
  have w11_τ3 : τ3.1 11 = σ.1 11 := hf_τ3.1 11 (by decide)
  have w36_τ3 : τ3.1 36 = σ.1 36 := hf_τ3.1 36 (by decide)
  have w38_τ3 : τ3.1 38 = σ.1 38 := hf_τ3.1 38 (by decide)
  have w49_τ3 : τ3.1 49 = σ.1 49 := hf_τ3.1 49 (by decide)
  have g8_τ3 : τ3.2.1 8 = σ.2.1 8 := hf_τ3.2.1 8 (by decide)
  have g10_τ3 : τ3.2.1 10 = σ.2.1 10 := hf_τ3.2.1 10 (by decide)
  have g12_τ3 : τ3.2.1 12 = σ.2.1 12 := hf_τ3.2.1 12 (by decide)
  have g13_τ3 : τ3.2.1 13 = σ.2.1 13 := hf_τ3.2.1 13 (by decide)
  have g14_τ3 : τ3.2.1 14 = σ.2.1 14 := hf_τ3.2.1 14 (by decide)
  have g15_τ3 : τ3.2.1 15 = σ.2.1 15 := hf_τ3.2.1 15 (by decide)
  have g16_τ3 : τ3.2.1 16 = σ.2.1 16 := hf_τ3.2.1 16 (by decide)
  have g17_τ3 : τ3.2.1 17 = σ.2.1 17 := hf_τ3.2.1 17 (by decide)
  have g18_τ3 : τ3.2.1 18 = σ.2.1 18 := hf_τ3.2.1 18 (by decide)
  have g19_τ3 : τ3.2.1 19 = σ.2.1 19 := hf_τ3.2.1 19 (by decide)
  have g20_τ3 : τ3.2.1 20 = σ.2.1 20 := hf_τ3.2.1 20 (by decide)
  have g21_τ3 : τ3.2.1 21 = σ.2.1 21 := hf_τ3.2.1 21 (by decide)
  have g22_τ3 : τ3.2.1 22 = σ.2.1 22 := hf_τ3.2.1 22 (by decide)
  have g63_τ3 : τ3.2.1 63 = σ.2.1 63 := hf_τ3.2.1 63 (by decide)
  have W3 : τ3.1 3 = σ.1 3 := by first | exact w3_τ3.trans W3 | omega
  have W4 : τ3.1 4 = σ.1 4 := by first | exact w4_τ3.trans W4 | omega
  have W5 : τ3.1 5 = σ.1 5 := by first | exact w5_τ3.trans W5 | omega
  have W10 : τ3.1 10 = σ.1 10 := by first | exact w10_τ3.trans W10 | omega
  have W11 : τ3.1 11 = σ.1 11 := by first | exact w11_τ3.trans W11 | omega
  have G8 : τ3.2.1 8 = σ.2.1 8 := (g8_τ3).trans G8
  have G10 : τ3.2.1 10 = σ.2.1 10 := (g10_τ3).trans G10
  have G12 : τ3.2.1 12 = σ.2.1 12 := (g12_τ3).trans G12
  have G13 : τ3.2.1 13 = σ.2.1 13 := (g13_τ3).trans G13
  have G14 : τ3.2.1 14 = σ.2.1 14 := (g14_τ3).trans G14
  have G15 : τ3.2.1 15 = σ.2.1 15 := (g15_τ3).trans G15
  have G16 : τ3.2.1 16 = σ.2.1 16 := (g16_τ3).trans G16
  have G17 : τ3.2.1 17 = σ.2.1 17 := (g17_τ3).trans G17
  have G18 : τ3.2.1 18 = σ.2.1 18 := (g18_τ3).trans G18
  have G19 : τ3.2.1 19 = σ.2.1 19 := (g19_τ3).trans G19
  have G20 : τ3.2.1 20 = σ.2.1 20 := (g20_τ3).trans G20
  have G21 : τ3.2.1 21 = σ.2.1 21 := (g21_τ3).trans G21
  have G22 : τ3.2.1 22 = σ.2.1 22 := (g22_τ3).trans G22
  have Y20 : ca (τ3.2.1 12) ((τ3.1 3)) ≤ (τ3.1 4) := by rw [show (ca (τ3.2.1 12) ((τ3.1 3)) ≤ (τ3.1 4)) = (ca (σ.2.1 12) ((σ.1 3)) ≤ (σ.1 4)) from by rw [w3_τ3, w4_τ3, g12_τ3]]; exact Y20
  have PA : J_pa (τ3.2.1 21) (τ3.2.1 22) := by rw [show (J_pa (τ3.2.1 21) (τ3.2.1 22)) = (J_pa (σ.2.1 21) (σ.2.1 22)) from by rw [g21_τ3, g22_τ3]]; exact PA
  have NU : n_nu (τ3.2.1 63) := by rw [show (n_nu (τ3.2.1 63)) = (n_nu (σ.2.1 63)) from by rw [g63_τ3]]; exact NU
  have A8 : ∀ j, 0 ≤ τ3.2.1 8 j ∧ τ3.2.1 8 j ≤ 1 := fun j => hT.2 8 j
  have A10 : ∀ j, (-1) ≤ τ3.2.1 10 j ∧ τ3.2.1 10 j ≤ 999 := fun j => hT.2 10 j
  have A12 : ∀ j, 0 ≤ τ3.2.1 12 j ∧ τ3.2.1 12 j ≤ 1 := fun j => hT.2 12 j
  have A13 : ∀ j, 0 ≤ τ3.2.1 13 j ∧ τ3.2.1 13 j ≤ 4 := fun j => hT.2 13 j
  have A14 : ∀ j, 0 ≤ τ3.2.1 14 j ∧ τ3.2.1 14 j ≤ 30000 := fun j => hT.2 14 j
  have A15 : ∀ j, 0 ≤ τ3.2.1 15 j ∧ τ3.2.1 15 j ≤ 300 := fun j => hT.2 15 j
  have A16 : ∀ j, 0 ≤ τ3.2.1 16 j ∧ τ3.2.1 16 j ≤ 999 := fun j => hT.2 16 j
  have A17 : ∀ j, (-1) ≤ τ3.2.1 17 j ∧ τ3.2.1 17 j ≤ 1499 := fun j => hT.2 17 j
  have A18 : ∀ j, 0 ≤ τ3.2.1 18 j ∧ τ3.2.1 18 j ≤ 90000 := fun j => hT.2 18 j
  have A19 : ∀ j, 0 ≤ τ3.2.1 19 j ∧ τ3.2.1 19 j ≤ 60 := fun j => hT.2 19 j
  have A20 : ∀ j, 0 ≤ τ3.2.1 20 j ∧ τ3.2.1 20 j ≤ 1499 := fun j => hT.2 20 j
  have A21 : ∀ j, 0 ≤ τ3.2.1 21 j ∧ τ3.2.1 21 j ≤ 20000 := fun j => hT.2 21 j
  have A22 : ∀ j, 0 ≤ τ3.2.1 22 j ∧ τ3.2.1 22 j ≤ 20000 := fun j => hT.2 22 j
  have A63 : ∀ j, (-2147483648) ≤ τ3.2.1 63 j ∧ τ3.2.1 63 j ≤ 2147483647 := fun j => hT.2 63 j
  have v3 : 0 ≤ τ3.1 3 ∧ τ3.1 3 ≤ 1000 := hT.1 3
  have v4 : 0 ≤ τ3.1 4 ∧ τ3.1 4 ≤ 100 := hT.1 4
  have v5 : 0 ≤ τ3.1 5 ∧ τ3.1 5 ≤ 1500 := hT.1 5
  have v10 : (-1) ≤ τ3.1 10 ∧ τ3.1 10 ≤ 999 := hT.1 10
  have v11 : (-1) ≤ τ3.1 11 ∧ τ3.1 11 ≤ 999 := hT.1 11
  have v36 : 0 ≤ τ3.1 36 ∧ τ3.1 36 ≤ 20000 := hT.1 36
  have v38 : 0 ≤ τ3.1 38 ∧ τ3.1 38 ≤ 1500 := hT.1 38
  have v49 : 0 ≤ τ3.1 49 ∧ τ3.1 49 ≤ 1 := hT.1 49
  have v51 : 0 ≤ τ3.1 51 ∧ τ3.1 51 ≤ 60000 := hT.1 51
  have v52 : 0 ≤ τ3.1 52 ∧ τ3.1 52 ≤ 120000 := hT.1 52
  have hf1 : f_r [39, 51, 52] [] [] σ τ3 := f_t (f_v f_0 (by simp)) hf_τ3 rfl rfl rfl
  have BI3 := y_BI_b p6 hT0 hf1 ⟨by omega, by omega⟩ rfl rfl rfl
  have hT3 := hT
  have Y3 := n_Y_h p8 hf1 rfl rfl
  have nu3 : n_nu (τ3.2.1 63) := (by rw [hf1.2.1 63 (by decide)]; exact p9)
  refine ⟨fun c4 => ?_, fun c4 => ?_, fun c4 => ?_, fun c4 => ?_, fun c4 => ?_, fun c4 => ?_, fun c4 => ?_, fun c4 => ?_, fun c4 => ?_⟩
  ·
    exact ⟨hT, (show y_BI σ τ3 from by (first | exact BI3 | exact BI14 | exact BI25 | exact BI32 | exact BI35 | exact BI39 | exact BI46 | exact BI53 | exact BI60 | exact i178_1 | fail)), (show n_Y τ3 from by (first | exact Y3 | exact Y14 | exact Y25 | exact Y32 | exact q33_3 | exact Y39 | exact q44_1 | exact q51_1 | exact Y60 | exact i178_2 | fail)), (show n_nu (τ3.2.1 63) from NU)⟩
  ·
    refine ⟨_, K_X13_isStatement hT (show -2147483648 ≤ n2 ∧ n2 ≤ 2147483647 from by (first | omega | (simp only [st_s] <;> omega) | assumption | omega | fail)), ?_⟩
    intro x6 r_x6 hq
    obtain ⟨q5_1, q5_2⟩ := hq
    replace q5_1 : 0 ≤ x6 ∧ x6 ≤ 1 := q5_1
    replace q5_2 : ¬ x6 = 0 → 0 ≤ n2 ∧ n2 < (τ3.1 5) := q5_2
    refine ⟨fun c8 => ?_, fun c8 => ?_⟩
    ·
      refine ⟨_, K_X13_putLabel hT (show 0 ≤ n2 from by (first | omega | (simp only [st_s] <;> omega) | assumption | omega | fail)) (show n2 < 1500 from by (first | omega | (simp only [st_s] <;> omega) | assumption | omega | fail)), ?_⟩
      intro τ11 hn_τ11 hf_τ11 hq
      replace hT := hq
      have w3_τ11 : τ11.1 3 = τ3.1 3 := hf_τ11.1 3 (by decide)
      have w4_τ11 : τ11.1 4 = τ3.1 4 := hf_τ11.1 4 (by decide)
      have w5_τ11 : τ11.1 5 = τ3.1 5 := hf_τ11.1 5 (by decide)
      have w10_τ11 : τ11.1 10 = τ3.1 10 := hf_τ11.1 10 (by decide)
      have w11_τ11 : τ11.1 11 = τ3.1 11 := hf_τ11.1 11 (by decide)
      have w36_τ11 : τ11.1 36 = τ3.1 36 := hf_τ11.1 36 (by decide)
      have w38_τ11 : τ11.1 38 = τ3.1 38 := hf_τ11.1 38 (by decide)
      have w49_τ11 : τ11.1 49 = τ3.1 49 := hf_τ11.1 49 (by decide)
      have w51_τ11 : τ11.1 51 = τ3.1 51 := hf_τ11.1 51 (by decide)
      have w52_τ11 : τ11.1 52 = τ3.1 52 := hf_τ11.1 52 (by decide)
      have g8_τ11 : τ11.2.1 8 = τ3.2.1 8 := hf_τ11.2.1 8 (by decide)
      have g10_τ11 : τ11.2.1 10 = τ3.2.1 10 := hf_τ11.2.1 10 (by decide)
      have g12_τ11 : τ11.2.1 12 = τ3.2.1 12 := hf_τ11.2.1 12 (by decide)
      have g13_τ11 : τ11.2.1 13 = τ3.2.1 13 := hf_τ11.2.1 13 (by decide)
      have g14_τ11 : τ11.2.1 14 = τ3.2.1 14 := hf_τ11.2.1 14 (by decide)
      have g15_τ11 : τ11.2.1 15 = τ3.2.1 15 := hf_τ11.2.1 15 (by decide)
      have g16_τ11 : τ11.2.1 16 = τ3.2.1 16 := hf_τ11.2.1 16 (by decide)
      have g17_τ11 : τ11.2.1 17 = τ3.2.1 17 := hf_τ11.2.1 17 (by decide)
      have g18_τ11 : τ11.2.1 18 = τ3.2.1 18 := hf_τ11.2.1 18 (by decide)
      have g19_τ11 : τ11.2.1 19 = τ3.2.1 19 := hf_τ11.2.1 19 (by decide)
      have g20_τ11 : τ11.2.1 20 = τ3.2.1 20 := hf_τ11.2.1 20 (by decide)
      have g21_τ11 : τ11.2.1 21 = τ3.2.1 21 := hf_τ11.2.1 21 (by decide)
      have g22_τ11 : τ11.2.1 22 = τ3.2.1 22 := hf_τ11.2.1 22 (by decide)
      have g63_τ11 : τ11.2.1 63 = τ3.2.1 63 := hf_τ11.2.1 63 (by decide)
      have W3 : τ11.1 3 = σ.1 3 := by first | exact w3_τ11.trans W3 | omega
      have W4 : τ11.1 4 = σ.1 4 := by first | exact w4_τ11.trans W4 | omega
      have W5 : τ11.1 5 = σ.1 5 := by first | exact w5_τ11.trans W5 | omega
      have W10 : τ11.1 10 = σ.1 10 := by first | exact w10_τ11.trans W10 | omega
      have W11 : τ11.1 11 = σ.1 11 := by first | exact w11_τ11.trans W11 | omega
      have G8 : τ11.2.1 8 = σ.2.1 8 := (g8_τ11).trans G8
      have G10 : τ11.2.1 10 = σ.2.1 10 := (g10_τ11).trans G10
      have G12 : τ11.2.1 12 = σ.2.1 12 := (g12_τ11).trans G12
      have G13 : τ11.2.1 13 = σ.2.1 13 := (g13_τ11).trans G13
      have G14 : τ11.2.1 14 = σ.2.1 14 := (g14_τ11).trans G14
      have G15 : τ11.2.1 15 = σ.2.1 15 := (g15_τ11).trans G15
      have G16 : τ11.2.1 16 = σ.2.1 16 := (g16_τ11).trans G16
      have G17 : τ11.2.1 17 = σ.2.1 17 := (g17_τ11).trans G17
      have G18 : τ11.2.1 18 = σ.2.1 18 := (g18_τ11).trans G18
      have G19 : τ11.2.1 19 = σ.2.1 19 := (g19_τ11).trans G19
      have G20 : τ11.2.1 20 = σ.2.1 20 := (g20_τ11).trans G20
      have G21 : τ11.2.1 21 = σ.2.1 21 := (g21_τ11).trans G21
      have G22 : τ11.2.1 22 = σ.2.1 22 := (g22_τ11).trans G22
      have Y20 : ca (τ11.2.1 12) ((τ11.1 3)) ≤ (τ11.1 4) := by rw [show (ca (τ11.2.1 12) ((τ11.1 3)) ≤ (τ11.1 4)) = (ca (τ3.2.1 12) ((τ3.1 3)) ≤ (τ3.1 4)) from by rw [w3_τ11, w4_τ11, g12_τ11]]; exact Y20
      have PA : J_pa (τ11.2.1 21) (τ11.2.1 22) := by rw [show (J_pa (τ11.2.1 21) (τ11.2.1 22)) = (J_pa (τ3.2.1 21) (τ3.2.1 22)) from by rw [g21_τ11, g22_τ11]]; exact PA
      have NU : n_nu (τ11.2.1 63) := by rw [show (n_nu (τ11.2.1 63)) = (n_nu (τ3.2.1 63)) from by rw [g63_τ11]]; exact NU
      have A8 : ∀ j, 0 ≤ τ11.2.1 8 j ∧ τ11.2.1 8 j ≤ 1 := fun j => hT.2 8 j
      have A10 : ∀ j, (-1) ≤ τ11.2.1 10 j ∧ τ11.2.1 10 j ≤ 999 := fun j => hT.2 10 j
      have A12 : ∀ j, 0 ≤ τ11.2.1 12 j ∧ τ11.2.1 12 j ≤ 1 := fun j => hT.2 12 j
      have A13 : ∀ j, 0 ≤ τ11.2.1 13 j ∧ τ11.2.1 13 j ≤ 4 := fun j => hT.2 13 j
      have A14 : ∀ j, 0 ≤ τ11.2.1 14 j ∧ τ11.2.1 14 j ≤ 30000 := fun j => hT.2 14 j
      have A15 : ∀ j, 0 ≤ τ11.2.1 15 j ∧ τ11.2.1 15 j ≤ 300 := fun j => hT.2 15 j
      have A16 : ∀ j, 0 ≤ τ11.2.1 16 j ∧ τ11.2.1 16 j ≤ 999 := fun j => hT.2 16 j
      have A17 : ∀ j, (-1) ≤ τ11.2.1 17 j ∧ τ11.2.1 17 j ≤ 1499 := fun j => hT.2 17 j
      have A18 : ∀ j, 0 ≤ τ11.2.1 18 j ∧ τ11.2.1 18 j ≤ 90000 := fun j => hT.2 18 j
      have A19 : ∀ j, 0 ≤ τ11.2.1 19 j ∧ τ11.2.1 19 j ≤ 60 := fun j => hT.2 19 j
      have A20 : ∀ j, 0 ≤ τ11.2.1 20 j ∧ τ11.2.1 20 j ≤ 1499 := fun j => hT.2 20 j
      have A21 : ∀ j, 0 ≤ τ11.2.1 21 j ∧ τ11.2.1 21 j ≤ 20000 := fun j => hT.2 21 j
      have A22 : ∀ j, 0 ≤ τ11.2.1 22 j ∧ τ11.2.1 22 j ≤ 20000 := fun j => hT.2 22 j
      have A63 : ∀ j, (-2147483648) ≤ τ11.2.1 63 j ∧ τ11.2.1 63 j ≤ 2147483647 := fun j => hT.2 63 j
      have v3 : 0 ≤ τ11.1 3 ∧ τ11.1 3 ≤ 1000 := hT.1 3
      have v4 : 0 ≤ τ11.1 4 ∧ τ11.1 4 ≤ 100 := hT.1 4
      have v5 : 0 ≤ τ11.1 5 ∧ τ11.1 5 ≤ 1500 := hT.1 5
      have v10 : (-1) ≤ τ11.1 10 ∧ τ11.1 10 ≤ 999 := hT.1 10
      have v11 : (-1) ≤ τ11.1 11 ∧ τ11.1 11 ≤ 999 := hT.1 11
      have v36 : 0 ≤ τ11.1 36 ∧ τ11.1 36 ≤ 20000 := hT.1 36
      have v38 : 0 ≤ τ11.1 38 ∧ τ11.1 38 ≤ 1500 := hT.1 38
      have v49 : 0 ≤ τ11.1 49 ∧ τ11.1 49 ≤ 1 := hT.1 49
      have v51 : 0 ≤ τ11.1 51 ∧ τ11.1 51 ≤ 60000 := hT.1 51
      have v52 : 0 ≤ τ11.1 52 ∧ τ11.1 52 ≤ 120000 := hT.1 52
      have BI11 := y_BI_g BI3 hT3 hf_τ11 rfl rfl rfl
      have hT11 := hT
      refine ⟨_, K_X13_keepDraft hT, ?_⟩
      intro x13 τ14 r_x13 hn_τ14 hf_τ14 hq
      replace hT := hq
      have w3_τ14 : τ14.1 3 = τ11.1 3 := hf_τ14.1 3 (by decide)
      have w4_τ14 : τ14.1 4 = τ11.1 4 := hf_τ14.1 4 (by decide)
      have w5_τ14 : τ14.1 5 = τ11.1 5 := hf_τ14.1 5 (by decide)
      have w10_τ14 : τ14.1 10 = τ11.1 10 := hf_τ14.1 10 (by decide)
      have w11_τ14 : τ14.1 11 = τ11.1 11 := hf_τ14.1 11 (by decide)
      have w36_τ14 : τ14.1 36 = τ11.1 36 := hf_τ14.1 36 (by decide)
      have w38_τ14 : τ14.1 38 = τ11.1 38 := hf_τ14.1 38 (by decide)
      have w49_τ14 : τ14.1 49 = τ11.1 49 := hf_τ14.1 49 (by decide)
      have w51_τ14 : τ14.1 51 = τ11.1 51 := hf_τ14.1 51 (by decide)
      have w52_τ14 : τ14.1 52 = τ11.1 52 := hf_τ14.1 52 (by decide)
      have g8_τ14 : τ14.2.1 8 = τ11.2.1 8 := hf_τ14.2.1 8 (by decide)
      have g10_τ14 : τ14.2.1 10 = τ11.2.1 10 := hf_τ14.2.1 10 (by decide)
      have g12_τ14 : τ14.2.1 12 = τ11.2.1 12 := hf_τ14.2.1 12 (by decide)
      have g13_τ14 : τ14.2.1 13 = τ11.2.1 13 := hf_τ14.2.1 13 (by decide)
      have g14_τ14 : τ14.2.1 14 = τ11.2.1 14 := hf_τ14.2.1 14 (by decide)
      have g15_τ14 : τ14.2.1 15 = τ11.2.1 15 := hf_τ14.2.1 15 (by decide)
      have g16_τ14 : τ14.2.1 16 = τ11.2.1 16 := hf_τ14.2.1 16 (by decide)
      have g17_τ14 : τ14.2.1 17 = τ11.2.1 17 := hf_τ14.2.1 17 (by decide)
      have g18_τ14 : τ14.2.1 18 = τ11.2.1 18 := hf_τ14.2.1 18 (by decide)
      have g19_τ14 : τ14.2.1 19 = τ11.2.1 19 := hf_τ14.2.1 19 (by decide)
      have g20_τ14 : τ14.2.1 20 = τ11.2.1 20 := hf_τ14.2.1 20 (by decide)
      have g21_τ14 : τ14.2.1 21 = τ11.2.1 21 := hf_τ14.2.1 21 (by decide)
      have g22_τ14 : τ14.2.1 22 = τ11.2.1 22 := hf_τ14.2.1 22 (by decide)
      have g63_τ14 : τ14.2.1 63 = τ11.2.1 63 := hf_τ14.2.1 63 (by decide)
      have W3 : τ14.1 3 = σ.1 3 := by first | exact w3_τ14.trans W3 | omega
      have W4 : τ14.1 4 = σ.1 4 := by first | exact w4_τ14.trans W4 | omega
      have W5 : τ14.1 5 = σ.1 5 := by first | exact w5_τ14.trans W5 | omega
      have W10 : τ14.1 10 = σ.1 10 := by first | exact w10_τ14.trans W10 | omega
      have W11 : τ14.1 11 = σ.1 11 := by first | exact w11_τ14.trans W11 | omega
      have G8 : τ14.2.1 8 = σ.2.1 8 := (g8_τ14).trans G8
      have G10 : τ14.2.1 10 = σ.2.1 10 := (g10_τ14).trans G10
      have G12 : τ14.2.1 12 = σ.2.1 12 := (g12_τ14).trans G12
      have G13 : τ14.2.1 13 = σ.2.1 13 := (g13_τ14).trans G13
      have G14 : τ14.2.1 14 = σ.2.1 14 := (g14_τ14).trans G14
      have G15 : τ14.2.1 15 = σ.2.1 15 := (g15_τ14).trans G15
      have G16 : τ14.2.1 16 = σ.2.1 16 := (g16_τ14).trans G16
      have G17 : τ14.2.1 17 = σ.2.1 17 := (g17_τ14).trans G17
      have G18 : τ14.2.1 18 = σ.2.1 18 := (g18_τ14).trans G18
      have G19 : τ14.2.1 19 = σ.2.1 19 := (g19_τ14).trans G19
      have G20 : τ14.2.1 20 = σ.2.1 20 := (g20_τ14).trans G20
      have G21 : τ14.2.1 21 = σ.2.1 21 := (g21_τ14).trans G21
      have G22 : τ14.2.1 22 = σ.2.1 22 := (g22_τ14).trans G22
      have Y20 : ca (τ14.2.1 12) ((τ14.1 3)) ≤ (τ14.1 4) := by rw [show (ca (τ14.2.1 12) ((τ14.1 3)) ≤ (τ14.1 4)) = (ca (τ11.2.1 12) ((τ11.1 3)) ≤ (τ11.1 4)) from by rw [w3_τ14, w4_τ14, g12_τ14]]; exact Y20
      have PA : J_pa (τ14.2.1 21) (τ14.2.1 22) := by rw [show (J_pa (τ14.2.1 21) (τ14.2.1 22)) = (J_pa (τ11.2.1 21) (τ11.2.1 22)) from by rw [g21_τ14, g22_τ14]]; exact PA
      have NU : n_nu (τ14.2.1 63) := by rw [show (n_nu (τ14.2.1 63)) = (n_nu (τ11.2.1 63)) from by rw [g63_τ14]]; exact NU
      have A8 : ∀ j, 0 ≤ τ14.2.1 8 j ∧ τ14.2.1 8 j ≤ 1 := fun j => hT.2 8 j
      have A10 : ∀ j, (-1) ≤ τ14.2.1 10 j ∧ τ14.2.1 10 j ≤ 999 := fun j => hT.2 10 j
      have A12 : ∀ j, 0 ≤ τ14.2.1 12 j ∧ τ14.2.1 12 j ≤ 1 := fun j => hT.2 12 j
      have A13 : ∀ j, 0 ≤ τ14.2.1 13 j ∧ τ14.2.1 13 j ≤ 4 := fun j => hT.2 13 j
      have A14 : ∀ j, 0 ≤ τ14.2.1 14 j ∧ τ14.2.1 14 j ≤ 30000 := fun j => hT.2 14 j
      have A15 : ∀ j, 0 ≤ τ14.2.1 15 j ∧ τ14.2.1 15 j ≤ 300 := fun j => hT.2 15 j
      have A16 : ∀ j, 0 ≤ τ14.2.1 16 j ∧ τ14.2.1 16 j ≤ 999 := fun j => hT.2 16 j
      have A17 : ∀ j, (-1) ≤ τ14.2.1 17 j ∧ τ14.2.1 17 j ≤ 1499 := fun j => hT.2 17 j
      have A18 : ∀ j, 0 ≤ τ14.2.1 18 j ∧ τ14.2.1 18 j ≤ 90000 := fun j => hT.2 18 j
      have A19 : ∀ j, 0 ≤ τ14.2.1 19 j ∧ τ14.2.1 19 j ≤ 60 := fun j => hT.2 19 j
      have A20 : ∀ j, 0 ≤ τ14.2.1 20 j ∧ τ14.2.1 20 j ≤ 1499 := fun j => hT.2 20 j
      have A21 : ∀ j, 0 ≤ τ14.2.1 21 j ∧ τ14.2.1 21 j ≤ 20000 := fun j => hT.2 21 j
      have A22 : ∀ j, 0 ≤ τ14.2.1 22 j ∧ τ14.2.1 22 j ≤ 20000 := fun j => hT.2 22 j
      have A63 : ∀ j, (-2147483648) ≤ τ14.2.1 63 j ∧ τ14.2.1 63 j ≤ 2147483647 := fun j => hT.2 63 j
      have v3 : 0 ≤ τ14.1 3 ∧ τ14.1 3 ≤ 1000 := hT.1 3
      have v4 : 0 ≤ τ14.1 4 ∧ τ14.1 4 ≤ 100 := hT.1 4
      have v5 : 0 ≤ τ14.1 5 ∧ τ14.1 5 ≤ 1500 := hT.1 5
      have v10 : (-1) ≤ τ14.1 10 ∧ τ14.1 10 ≤ 999 := hT.1 10
      have v11 : (-1) ≤ τ14.1 11 ∧ τ14.1 11 ≤ 999 := hT.1 11
      have v36 : 0 ≤ τ14.1 36 ∧ τ14.1 36 ≤ 20000 := hT.1 36
      have v38 : 0 ≤ τ14.1 38 ∧ τ14.1 38 ≤ 1500 := hT.1 38
      have v49 : 0 ≤ τ14.1 49 ∧ τ14.1 49 ≤ 1 := hT.1 49
      have v51 : 0 ≤ τ14.1 51 ∧ τ14.1 51 ≤ 60000 := hT.1 51
      have v52 : 0 ≤ τ14.1 52 ∧ τ14.1 52 ≤ 120000 := hT.1 52
      have BI14 := y_BI_g BI11 hT11 hf_τ14 rfl rfl rfl
      have Y14 := n_Y_h (n_Y_h Y3 hf_τ11 rfl rfl) hf_τ14 rfl rfl
      exact ⟨hT, (show y_BI σ τ14 from by (first | exact BI3 | exact BI14 | exact BI25 | exact BI32 | exact BI35 | exact BI39 | exact BI46 | exact BI53 | exact BI60 | exact i178_1 | fail)), (show n_Y τ14 from by (first | exact Y3 | exact Y14 | exact Y25 | exact Y32 | exact q33_3 | exact Y39 | exact q44_1 | exact q51_1 | exact Y60 | exact i178_2 | fail)), (show n_nu (τ14.2.1 63) from NU)⟩
    ·
      exact ⟨hT, (show y_BI σ τ3 from by (first | exact BI3 | exact BI14 | exact BI25 | exact BI32 | exact BI35 | exact BI39 | exact BI46 | exact BI53 | exact BI60 | exact i178_1 | fail)), (show n_Y τ3 from by (first | exact Y3 | exact Y14 | exact Y25 | exact Y32 | exact q33_3 | exact Y39 | exact q44_1 | exact q51_1 | exact Y60 | exact i178_2 | fail)), (show n_nu (τ3.2.1 63) from NU)⟩
  ·
    refine ⟨(⟨by (first | omega | (simp only [st_s] <;> omega) | assumption | omega | fail), by (first | omega | (simp only [st_s] <;> omega) | assumption | omega | fail)⟩ : rg (τ3.1 3 - 1)), ?_⟩
    refine ⟨_, K_X13_isIn hT, ?_⟩
    intro x17 r_x17 hq
    obtain ⟨q16_1, q16_2⟩ := hq
    replace q16_1 : 0 ≤ x17 ∧ x17 ≤ 1 := q16_1
    replace q16_2 : x17 = 1 ↔ ((0 : Int64) ≤ (j_of n2) ∧ (j_of n2) ≤ (j_of (τ3.1 3 - 1))) := q16_2
    have in16 := in_i (show x17 = 1 ↔ (j_of 0 ≤ j_of n2 ∧ j_of n2 ≤ j_of (τ3.1 3 - 1)) from q16_2) (by unfold rg; omega) (by unfold rg; omega) (by unfold rg; omega)
    refine ⟨fun c19 => ?_, fun c19 => ?_⟩
    ·
      have i16 := in16.mp (by omega)
      refine ⟨_, K_X13_putSymbol hT (show 0 ≤ n2 from by (first | omega | (simp only [st_s] <;> omega) | assumption | omega | fail)) (show n2 < 1000 from by (first | omega | (simp only [st_s] <;> omega) | assumption | omega | fail)), ?_⟩
      intro τ22 hn_τ22 hf_τ22 hq
      replace hT := hq
      have w3_τ22 : τ22.1 3 = τ3.1 3 := hf_τ22.1 3 (by decide)
      have w4_τ22 : τ22.1 4 = τ3.1 4 := hf_τ22.1 4 (by decide)
      have w5_τ22 : τ22.1 5 = τ3.1 5 := hf_τ22.1 5 (by decide)
      have w10_τ22 : τ22.1 10 = τ3.1 10 := hf_τ22.1 10 (by decide)
      have w11_τ22 : τ22.1 11 = τ3.1 11 := hf_τ22.1 11 (by decide)
      have w36_τ22 : τ22.1 36 = τ3.1 36 := hf_τ22.1 36 (by decide)
      have w38_τ22 : τ22.1 38 = τ3.1 38 := hf_τ22.1 38 (by decide)
      have w49_τ22 : τ22.1 49 = τ3.1 49 := hf_τ22.1 49 (by decide)
      have w51_τ22 : τ22.1 51 = τ3.1 51 := hf_τ22.1 51 (by decide)
      have w52_τ22 : τ22.1 52 = τ3.1 52 := hf_τ22.1 52 (by decide)
      have g8_τ22 : τ22.2.1 8 = τ3.2.1 8 := hf_τ22.2.1 8 (by decide)
      have g10_τ22 : τ22.2.1 10 = τ3.2.1 10 := hf_τ22.2.1 10 (by decide)
      have g12_τ22 : τ22.2.1 12 = τ3.2.1 12 := hf_τ22.2.1 12 (by decide)
      have g13_τ22 : τ22.2.1 13 = τ3.2.1 13 := hf_τ22.2.1 13 (by decide)
      have g14_τ22 : τ22.2.1 14 = τ3.2.1 14 := hf_τ22.2.1 14 (by decide)
      have g15_τ22 : τ22.2.1 15 = τ3.2.1 15 := hf_τ22.2.1 15 (by decide)
      have g16_τ22 : τ22.2.1 16 = τ3.2.1 16 := hf_τ22.2.1 16 (by decide)
      have g17_τ22 : τ22.2.1 17 = τ3.2.1 17 := hf_τ22.2.1 17 (by decide)
      have g18_τ22 : τ22.2.1 18 = τ3.2.1 18 := hf_τ22.2.1 18 (by decide)
      have g19_τ22 : τ22.2.1 19 = τ3.2.1 19 := hf_τ22.2.1 19 (by decide)
      have g20_τ22 : τ22.2.1 20 = τ3.2.1 20 := hf_τ22.2.1 20 (by decide)
      have g21_τ22 : τ22.2.1 21 = τ3.2.1 21 := hf_τ22.2.1 21 (by decide)
      have g22_τ22 : τ22.2.1 22 = τ3.2.1 22 := hf_τ22.2.1 22 (by decide)
      have g63_τ22 : τ22.2.1 63 = τ3.2.1 63 := hf_τ22.2.1 63 (by decide)
      have W3 : τ22.1 3 = σ.1 3 := by first | exact w3_τ22.trans W3 | omega
      have W4 : τ22.1 4 = σ.1 4 := by first | exact w4_τ22.trans W4 | omega
      have W5 : τ22.1 5 = σ.1 5 := by first | exact w5_τ22.trans W5 | omega
      have W10 : τ22.1 10 = σ.1 10 := by first | exact w10_τ22.trans W10 | omega
      have W11 : τ22.1 11 = σ.1 11 := by first | exact w11_τ22.trans W11 | omega
      have G8 : τ22.2.1 8 = σ.2.1 8 := (g8_τ22).trans G8
      have G10 : τ22.2.1 10 = σ.2.1 10 := (g10_τ22).trans G10
      have G12 : τ22.2.1 12 = σ.2.1 12 := (g12_τ22).trans G12
      have G13 : τ22.2.1 13 = σ.2.1 13 := (g13_τ22).trans G13
      have G14 : τ22.2.1 14 = σ.2.1 14 := (g14_τ22).trans G14
      have G15 : τ22.2.1 15 = σ.2.1 15 := (g15_τ22).trans G15
      have G16 : τ22.2.1 16 = σ.2.1 16 := (g16_τ22).trans G16
      have G17 : τ22.2.1 17 = σ.2.1 17 := (g17_τ22).trans G17
      have G18 : τ22.2.1 18 = σ.2.1 18 := (g18_τ22).trans G18
      have G19 : τ22.2.1 19 = σ.2.1 19 := (g19_τ22).trans G19
      have G20 : τ22.2.1 20 = σ.2.1 20 := (g20_τ22).trans G20
      have G21 : τ22.2.1 21 = σ.2.1 21 := (g21_τ22).trans G21
      have G22 : τ22.2.1 22 = σ.2.1 22 := (g22_τ22).trans G22
      have Y20 : ca (τ22.2.1 12) ((τ22.1 3)) ≤ (τ22.1 4) := by rw [show (ca (τ22.2.1 12) ((τ22.1 3)) ≤ (τ22.1 4)) = (ca (τ3.2.1 12) ((τ3.1 3)) ≤ (τ3.1 4)) from by rw [w3_τ22, w4_τ22, g12_τ22]]; exact Y20
      have PA : J_pa (τ22.2.1 21) (τ22.2.1 22) := by rw [show (J_pa (τ22.2.1 21) (τ22.2.1 22)) = (J_pa (τ3.2.1 21) (τ3.2.1 22)) from by rw [g21_τ22, g22_τ22]]; exact PA
      have NU : n_nu (τ22.2.1 63) := by rw [show (n_nu (τ22.2.1 63)) = (n_nu (τ3.2.1 63)) from by rw [g63_τ22]]; exact NU
      have A8 : ∀ j, 0 ≤ τ22.2.1 8 j ∧ τ22.2.1 8 j ≤ 1 := fun j => hT.2 8 j
      have A10 : ∀ j, (-1) ≤ τ22.2.1 10 j ∧ τ22.2.1 10 j ≤ 999 := fun j => hT.2 10 j
      have A12 : ∀ j, 0 ≤ τ22.2.1 12 j ∧ τ22.2.1 12 j ≤ 1 := fun j => hT.2 12 j
      have A13 : ∀ j, 0 ≤ τ22.2.1 13 j ∧ τ22.2.1 13 j ≤ 4 := fun j => hT.2 13 j
      have A14 : ∀ j, 0 ≤ τ22.2.1 14 j ∧ τ22.2.1 14 j ≤ 30000 := fun j => hT.2 14 j
      have A15 : ∀ j, 0 ≤ τ22.2.1 15 j ∧ τ22.2.1 15 j ≤ 300 := fun j => hT.2 15 j
      have A16 : ∀ j, 0 ≤ τ22.2.1 16 j ∧ τ22.2.1 16 j ≤ 999 := fun j => hT.2 16 j
      have A17 : ∀ j, (-1) ≤ τ22.2.1 17 j ∧ τ22.2.1 17 j ≤ 1499 := fun j => hT.2 17 j
      have A18 : ∀ j, 0 ≤ τ22.2.1 18 j ∧ τ22.2.1 18 j ≤ 90000 := fun j => hT.2 18 j
      have A19 : ∀ j, 0 ≤ τ22.2.1 19 j ∧ τ22.2.1 19 j ≤ 60 := fun j => hT.2 19 j
      have A20 : ∀ j, 0 ≤ τ22.2.1 20 j ∧ τ22.2.1 20 j ≤ 1499 := fun j => hT.2 20 j
      have A21 : ∀ j, 0 ≤ τ22.2.1 21 j ∧ τ22.2.1 21 j ≤ 20000 := fun j => hT.2 21 j
      have A22 : ∀ j, 0 ≤ τ22.2.1 22 j ∧ τ22.2.1 22 j ≤ 20000 := fun j => hT.2 22 j
      have A63 : ∀ j, (-2147483648) ≤ τ22.2.1 63 j ∧ τ22.2.1 63 j ≤ 2147483647 := fun j => hT.2 63 j
      have v3 : 0 ≤ τ22.1 3 ∧ τ22.1 3 ≤ 1000 := hT.1 3
      have v4 : 0 ≤ τ22.1 4 ∧ τ22.1 4 ≤ 100 := hT.1 4
      have v5 : 0 ≤ τ22.1 5 ∧ τ22.1 5 ≤ 1500 := hT.1 5
      have v10 : (-1) ≤ τ22.1 10 ∧ τ22.1 10 ≤ 999 := hT.1 10
      have v11 : (-1) ≤ τ22.1 11 ∧ τ22.1 11 ≤ 999 := hT.1 11
      have v36 : 0 ≤ τ22.1 36 ∧ τ22.1 36 ≤ 20000 := hT.1 36
      have v38 : 0 ≤ τ22.1 38 ∧ τ22.1 38 ≤ 1500 := hT.1 38
      have v49 : 0 ≤ τ22.1 49 ∧ τ22.1 49 ≤ 1 := hT.1 49
      have v51 : 0 ≤ τ22.1 51 ∧ τ22.1 51 ≤ 60000 := hT.1 51
      have v52 : 0 ≤ τ22.1 52 ∧ τ22.1 52 ≤ 120000 := hT.1 52
      have BI22 := y_BI_g BI3 hT3 hf_τ22 rfl rfl rfl
      have hT22 := hT
      refine ⟨_, K_X13_keepDraft hT, ?_⟩
      intro x24 τ25 r_x24 hn_τ25 hf_τ25 hq
      replace hT := hq
      have w3_τ25 : τ25.1 3 = τ22.1 3 := hf_τ25.1 3 (by decide)
      have w4_τ25 : τ25.1 4 = τ22.1 4 := hf_τ25.1 4 (by decide)
      have w5_τ25 : τ25.1 5 = τ22.1 5 := hf_τ25.1 5 (by decide)
      have w10_τ25 : τ25.1 10 = τ22.1 10 := hf_τ25.1 10 (by decide)
      have w11_τ25 : τ25.1 11 = τ22.1 11 := hf_τ25.1 11 (by decide)
      have w36_τ25 : τ25.1 36 = τ22.1 36 := hf_τ25.1 36 (by decide)
      have w38_τ25 : τ25.1 38 = τ22.1 38 := hf_τ25.1 38 (by decide)
      have w49_τ25 : τ25.1 49 = τ22.1 49 := hf_τ25.1 49 (by decide)
      have w51_τ25 : τ25.1 51 = τ22.1 51 := hf_τ25.1 51 (by decide)
      have w52_τ25 : τ25.1 52 = τ22.1 52 := hf_τ25.1 52 (by decide)
      have g8_τ25 : τ25.2.1 8 = τ22.2.1 8 := hf_τ25.2.1 8 (by decide)
      have g10_τ25 : τ25.2.1 10 = τ22.2.1 10 := hf_τ25.2.1 10 (by decide)
      have g12_τ25 : τ25.2.1 12 = τ22.2.1 12 := hf_τ25.2.1 12 (by decide)
      have g13_τ25 : τ25.2.1 13 = τ22.2.1 13 := hf_τ25.2.1 13 (by decide)
      have g14_τ25 : τ25.2.1 14 = τ22.2.1 14 := hf_τ25.2.1 14 (by decide)
      have g15_τ25 : τ25.2.1 15 = τ22.2.1 15 := hf_τ25.2.1 15 (by decide)
      have g16_τ25 : τ25.2.1 16 = τ22.2.1 16 := hf_τ25.2.1 16 (by decide)
      have g17_τ25 : τ25.2.1 17 = τ22.2.1 17 := hf_τ25.2.1 17 (by decide)
      have g18_τ25 : τ25.2.1 18 = τ22.2.1 18 := hf_τ25.2.1 18 (by decide)
      have g19_τ25 : τ25.2.1 19 = τ22.2.1 19 := hf_τ25.2.1 19 (by decide)
      have g20_τ25 : τ25.2.1 20 = τ22.2.1 20 := hf_τ25.2.1 20 (by decide)
      have g21_τ25 : τ25.2.1 21 = τ22.2.1 21 := hf_τ25.2.1 21 (by decide)
      have g22_τ25 : τ25.2.1 22 = τ22.2.1 22 := hf_τ25.2.1 22 (by decide)
      have g63_τ25 : τ25.2.1 63 = τ22.2.1 63 := hf_τ25.2.1 63 (by decide)
      have W3 : τ25.1 3 = σ.1 3 := by first | exact w3_τ25.trans W3 | omega
      have W4 : τ25.1 4 = σ.1 4 := by first | exact w4_τ25.trans W4 | omega
      have W5 : τ25.1 5 = σ.1 5 := by first | exact w5_τ25.trans W5 | omega
      have W10 : τ25.1 10 = σ.1 10 := by first | exact w10_τ25.trans W10 | omega
      have W11 : τ25.1 11 = σ.1 11 := by first | exact w11_τ25.trans W11 | omega
      have G8 : τ25.2.1 8 = σ.2.1 8 := (g8_τ25).trans G8
      have G10 : τ25.2.1 10 = σ.2.1 10 := (g10_τ25).trans G10
      have G12 : τ25.2.1 12 = σ.2.1 12 := (g12_τ25).trans G12
      have G13 : τ25.2.1 13 = σ.2.1 13 := (g13_τ25).trans G13
      have G14 : τ25.2.1 14 = σ.2.1 14 := (g14_τ25).trans G14
      have G15 : τ25.2.1 15 = σ.2.1 15 := (g15_τ25).trans G15
      have G16 : τ25.2.1 16 = σ.2.1 16 := (g16_τ25).trans G16
      have G17 : τ25.2.1 17 = σ.2.1 17 := (g17_τ25).trans G17
      have G18 : τ25.2.1 18 = σ.2.1 18 := (g18_τ25).trans G18
      have G19 : τ25.2.1 19 = σ.2.1 19 := (g19_τ25).trans G19
      have G20 : τ25.2.1 20 = σ.2.1 20 := (g20_τ25).trans G20
      have G21 : τ25.2.1 21 = σ.2.1 21 := (g21_τ25).trans G21
      have G22 : τ25.2.1 22 = σ.2.1 22 := (g22_τ25).trans G22
      have Y20 : ca (τ25.2.1 12) ((τ25.1 3)) ≤ (τ25.1 4) := by rw [show (ca (τ25.2.1 12) ((τ25.1 3)) ≤ (τ25.1 4)) = (ca (τ22.2.1 12) ((τ22.1 3)) ≤ (τ22.1 4)) from by rw [w3_τ25, w4_τ25, g12_τ25]]; exact Y20
      have PA : J_pa (τ25.2.1 21) (τ25.2.1 22) := by rw [show (J_pa (τ25.2.1 21) (τ25.2.1 22)) = (J_pa (τ22.2.1 21) (τ22.2.1 22)) from by rw [g21_τ25, g22_τ25]]; exact PA
      have NU : n_nu (τ25.2.1 63) := by rw [show (n_nu (τ25.2.1 63)) = (n_nu (τ22.2.1 63)) from by rw [g63_τ25]]; exact NU
      have A8 : ∀ j, 0 ≤ τ25.2.1 8 j ∧ τ25.2.1 8 j ≤ 1 := fun j => hT.2 8 j
      have A10 : ∀ j, (-1) ≤ τ25.2.1 10 j ∧ τ25.2.1 10 j ≤ 999 := fun j => hT.2 10 j
      have A12 : ∀ j, 0 ≤ τ25.2.1 12 j ∧ τ25.2.1 12 j ≤ 1 := fun j => hT.2 12 j
      have A13 : ∀ j, 0 ≤ τ25.2.1 13 j ∧ τ25.2.1 13 j ≤ 4 := fun j => hT.2 13 j
      have A14 : ∀ j, 0 ≤ τ25.2.1 14 j ∧ τ25.2.1 14 j ≤ 30000 := fun j => hT.2 14 j
      have A15 : ∀ j, 0 ≤ τ25.2.1 15 j ∧ τ25.2.1 15 j ≤ 300 := fun j => hT.2 15 j
      have A16 : ∀ j, 0 ≤ τ25.2.1 16 j ∧ τ25.2.1 16 j ≤ 999 := fun j => hT.2 16 j
      have A17 : ∀ j, (-1) ≤ τ25.2.1 17 j ∧ τ25.2.1 17 j ≤ 1499 := fun j => hT.2 17 j
      have A18 : ∀ j, 0 ≤ τ25.2.1 18 j ∧ τ25.2.1 18 j ≤ 90000 := fun j => hT.2 18 j
      have A19 : ∀ j, 0 ≤ τ25.2.1 19 j ∧ τ25.2.1 19 j ≤ 60 := fun j => hT.2 19 j
      have A20 : ∀ j, 0 ≤ τ25.2.1 20 j ∧ τ25.2.1 20 j ≤ 1499 := fun j => hT.2 20 j
      have A21 : ∀ j, 0 ≤ τ25.2.1 21 j ∧ τ25.2.1 21 j ≤ 20000 := fun j => hT.2 21 j
      have A22 : ∀ j, 0 ≤ τ25.2.1 22 j ∧ τ25.2.1 22 j ≤ 20000 := fun j => hT.2 22 j
      have A63 : ∀ j, (-2147483648) ≤ τ25.2.1 63 j ∧ τ25.2.1 63 j ≤ 2147483647 := fun j => hT.2 63 j
      have v3 : 0 ≤ τ25.1 3 ∧ τ25.1 3 ≤ 1000 := hT.1 3
      have v4 : 0 ≤ τ25.1 4 ∧ τ25.1 4 ≤ 100 := hT.1 4
      have v5 : 0 ≤ τ25.1 5 ∧ τ25.1 5 ≤ 1500 := hT.1 5
      have v10 : (-1) ≤ τ25.1 10 ∧ τ25.1 10 ≤ 999 := hT.1 10
      have v11 : (-1) ≤ τ25.1 11 ∧ τ25.1 11 ≤ 999 := hT.1 11
      have v36 : 0 ≤ τ25.1 36 ∧ τ25.1 36 ≤ 20000 := hT.1 36
      have v38 : 0 ≤ τ25.1 38 ∧ τ25.1 38 ≤ 1500 := hT.1 38
      have v49 : 0 ≤ τ25.1 49 ∧ τ25.1 49 ≤ 1 := hT.1 49
      have v51 : 0 ≤ τ25.1 51 ∧ τ25.1 51 ≤ 60000 := hT.1 51
      have v52 : 0 ≤ τ25.1 52 ∧ τ25.1 52 ≤ 120000 := hT.1 52
      have BI25 := y_BI_g BI22 hT22 hf_τ25 rfl rfl rfl
      have Y25 := n_Y_h (n_Y_h Y3 hf_τ22 rfl rfl) hf_τ25 rfl rfl
      exact ⟨hT, (show y_BI σ τ25 from by (first | exact BI3 | exact BI14 | exact BI25 | exact BI32 | exact BI35 | exact BI39 | exact BI46 | exact BI53 | exact BI60 | exact i178_1 | fail)), (show n_Y τ25 from by (first | exact Y3 | exact Y14 | exact Y25 | exact Y32 | exact q33_3 | exact Y39 | exact q44_1 | exact q51_1 | exact Y60 | exact i178_2 | fail)), (show n_nu (τ25.2.1 63) from NU)⟩
    ·
      exact ⟨hT, (show y_BI σ τ3 from by (first | exact BI3 | exact BI14 | exact BI25 | exact BI32 | exact BI35 | exact BI39 | exact BI46 | exact BI53 | exact BI60 | exact i178_1 | fail)), (show n_Y τ3 from by (first | exact Y3 | exact Y14 | exact Y25 | exact Y32 | exact q33_3 | exact Y39 | exact q44_1 | exact q51_1 | exact Y60 | exact i178_2 | fail)), (show n_nu (τ3.2.1 63) from NU)⟩
  ·
    refine ⟨_, K_X13_isStatement hT (show -2147483648 ≤ n2 ∧ n2 ≤ 2147483647 from by (first | omega | (simp only [st_s] <;> omega) | assumption | omega | fail)), ?_⟩
    intro x27 r_x27 hq
    obtain ⟨q26_1, q26_2⟩ := hq
    replace q26_1 : 0 ≤ x27 ∧ x27 ≤ 1 := q26_1
    replace q26_2 : ¬ x27 = 0 → 0 ≤ n2 ∧ n2 < (τ3.1 5) := q26_2
    refine ⟨fun c29 => ?_, fun c29 => ?_⟩
    ·
      exact ⟨hT, (show y_BI σ τ3 from by (first | exact BI3 | exact BI14 | exact BI25 | exact BI32 | exact BI35 | exact BI39 | exact BI46 | exact BI53 | exact BI60 | exact i178_1 | fail)), (show n_Y τ3 from by (first | exact Y3 | exact Y14 | exact Y25 | exact Y32 | exact q33_3 | exact Y39 | exact q44_1 | exact q51_1 | exact Y60 | exact i178_2 | fail)), (show n_nu (τ3.2.1 63) from NU)⟩
    ·
      refine ⟨_, K_X13_printTexts hT (show 0 ≤ n2 from by (first | omega | (simp only [st_s] <;> omega) | assumption | omega | fail)) (show n2 < τ3.1 5 from by (first | omega | (simp only [st_s] <;> omega) | assumption | omega | fail)) (show m_J τ3 from by exact BI3.2.2.2.1), ?_⟩
      intro x31 τ32 r_x31 hn_τ32 hf_τ32 hq
      replace hT := hq
      have w3_τ32 : τ32.1 3 = τ3.1 3 := hf_τ32.1 3 (by decide)
      have w4_τ32 : τ32.1 4 = τ3.1 4 := hf_τ32.1 4 (by decide)
      have w5_τ32 : τ32.1 5 = τ3.1 5 := hf_τ32.1 5 (by decide)
      have w10_τ32 : τ32.1 10 = τ3.1 10 := hf_τ32.1 10 (by decide)
      have w11_τ32 : τ32.1 11 = τ3.1 11 := hf_τ32.1 11 (by decide)
      have w36_τ32 : τ32.1 36 = τ3.1 36 := hf_τ32.1 36 (by decide)
      have w38_τ32 : τ32.1 38 = τ3.1 38 := hf_τ32.1 38 (by decide)
      have w49_τ32 : τ32.1 49 = τ3.1 49 := hf_τ32.1 49 (by decide)
      have w51_τ32 : τ32.1 51 = τ3.1 51 := hf_τ32.1 51 (by decide)
      have w52_τ32 : τ32.1 52 = τ3.1 52 := hf_τ32.1 52 (by decide)
      have g8_τ32 : τ32.2.1 8 = τ3.2.1 8 := hf_τ32.2.1 8 (by decide)
      have g10_τ32 : τ32.2.1 10 = τ3.2.1 10 := hf_τ32.2.1 10 (by decide)
      have g12_τ32 : τ32.2.1 12 = τ3.2.1 12 := hf_τ32.2.1 12 (by decide)
      have g13_τ32 : τ32.2.1 13 = τ3.2.1 13 := hf_τ32.2.1 13 (by decide)
      have g14_τ32 : τ32.2.1 14 = τ3.2.1 14 := hf_τ32.2.1 14 (by decide)
      have g15_τ32 : τ32.2.1 15 = τ3.2.1 15 := hf_τ32.2.1 15 (by decide)
      have g16_τ32 : τ32.2.1 16 = τ3.2.1 16 := hf_τ32.2.1 16 (by decide)
      have g17_τ32 : τ32.2.1 17 = τ3.2.1 17 := hf_τ32.2.1 17 (by decide)
      have g18_τ32 : τ32.2.1 18 = τ3.2.1 18 := hf_τ32.2.1 18 (by decide)
      have g19_τ32 : τ32.2.1 19 = τ3.2.1 19 := hf_τ32.2.1 19 (by decide)
      have g20_τ32 : τ32.2.1 20 = τ3.2.1 20 := hf_τ32.2.1 20 (by decide)
      have g21_τ32 : τ32.2.1 21 = τ3.2.1 21 := hf_τ32.2.1 21 (by decide)
      have g22_τ32 : τ32.2.1 22 = τ3.2.1 22 := hf_τ32.2.1 22 (by decide)
      have g63_τ32 : τ32.2.1 63 = τ3.2.1 63 := hf_τ32.2.1 63 (by decide)
      have W3 : τ32.1 3 = σ.1 3 := by first | exact w3_τ32.trans W3 | omega
      have W4 : τ32.1 4 = σ.1 4 := by first | exact w4_τ32.trans W4 | omega
      have W5 : τ32.1 5 = σ.1 5 := by first | exact w5_τ32.trans W5 | omega
      have W10 : τ32.1 10 = σ.1 10 := by first | exact w10_τ32.trans W10 | omega
      have W11 : τ32.1 11 = σ.1 11 := by first | exact w11_τ32.trans W11 | omega
      have G8 : τ32.2.1 8 = σ.2.1 8 := (g8_τ32).trans G8
      have G10 : τ32.2.1 10 = σ.2.1 10 := (g10_τ32).trans G10
      have G12 : τ32.2.1 12 = σ.2.1 12 := (g12_τ32).trans G12
      have G13 : τ32.2.1 13 = σ.2.1 13 := (g13_τ32).trans G13
      have G14 : τ32.2.1 14 = σ.2.1 14 := (g14_τ32).trans G14
      have G15 : τ32.2.1 15 = σ.2.1 15 := (g15_τ32).trans G15
      have G16 : τ32.2.1 16 = σ.2.1 16 := (g16_τ32).trans G16
      have G17 : τ32.2.1 17 = σ.2.1 17 := (g17_τ32).trans G17
      have G18 : τ32.2.1 18 = σ.2.1 18 := (g18_τ32).trans G18
      have G19 : τ32.2.1 19 = σ.2.1 19 := (g19_τ32).trans G19
      have G20 : τ32.2.1 20 = σ.2.1 20 := (g20_τ32).trans G20
      have G21 : τ32.2.1 21 = σ.2.1 21 := (g21_τ32).trans G21
      have G22 : τ32.2.1 22 = σ.2.1 22 := (g22_τ32).trans G22
      have Y20 : ca (τ32.2.1 12) ((τ32.1 3)) ≤ (τ32.1 4) := by rw [show (ca (τ32.2.1 12) ((τ32.1 3)) ≤ (τ32.1 4)) = (ca (τ3.2.1 12) ((τ3.1 3)) ≤ (τ3.1 4)) from by rw [w3_τ32, w4_τ32, g12_τ32]]; exact Y20
      have PA : J_pa (τ32.2.1 21) (τ32.2.1 22) := by rw [show (J_pa (τ32.2.1 21) (τ32.2.1 22)) = (J_pa (τ3.2.1 21) (τ3.2.1 22)) from by rw [g21_τ32, g22_τ32]]; exact PA
      have NU : n_nu (τ32.2.1 63) := by rw [show (n_nu (τ32.2.1 63)) = (n_nu (τ3.2.1 63)) from by rw [g63_τ32]]; exact NU
      have A8 : ∀ j, 0 ≤ τ32.2.1 8 j ∧ τ32.2.1 8 j ≤ 1 := fun j => hT.2 8 j
      have A10 : ∀ j, (-1) ≤ τ32.2.1 10 j ∧ τ32.2.1 10 j ≤ 999 := fun j => hT.2 10 j
      have A12 : ∀ j, 0 ≤ τ32.2.1 12 j ∧ τ32.2.1 12 j ≤ 1 := fun j => hT.2 12 j
      have A13 : ∀ j, 0 ≤ τ32.2.1 13 j ∧ τ32.2.1 13 j ≤ 4 := fun j => hT.2 13 j
      have A14 : ∀ j, 0 ≤ τ32.2.1 14 j ∧ τ32.2.1 14 j ≤ 30000 := fun j => hT.2 14 j
      have A15 : ∀ j, 0 ≤ τ32.2.1 15 j ∧ τ32.2.1 15 j ≤ 300 := fun j => hT.2 15 j
      have A16 : ∀ j, 0 ≤ τ32.2.1 16 j ∧ τ32.2.1 16 j ≤ 999 := fun j => hT.2 16 j
      have A17 : ∀ j, (-1) ≤ τ32.2.1 17 j ∧ τ32.2.1 17 j ≤ 1499 := fun j => hT.2 17 j
      have A18 : ∀ j, 0 ≤ τ32.2.1 18 j ∧ τ32.2.1 18 j ≤ 90000 := fun j => hT.2 18 j
      have A19 : ∀ j, 0 ≤ τ32.2.1 19 j ∧ τ32.2.1 19 j ≤ 60 := fun j => hT.2 19 j
      have A20 : ∀ j, 0 ≤ τ32.2.1 20 j ∧ τ32.2.1 20 j ≤ 1499 := fun j => hT.2 20 j
      have A21 : ∀ j, 0 ≤ τ32.2.1 21 j ∧ τ32.2.1 21 j ≤ 20000 := fun j => hT.2 21 j
      have A22 : ∀ j, 0 ≤ τ32.2.1 22 j ∧ τ32.2.1 22 j ≤ 20000 := fun j => hT.2 22 j
      have A63 : ∀ j, (-2147483648) ≤ τ32.2.1 63 j ∧ τ32.2.1 63 j ≤ 2147483647 := fun j => hT.2 63 j
      have v3 : 0 ≤ τ32.1 3 ∧ τ32.1 3 ≤ 1000 := hT.1 3
      have v4 : 0 ≤ τ32.1 4 ∧ τ32.1 4 ≤ 100 := hT.1 4
      have v5 : 0 ≤ τ32.1 5 ∧ τ32.1 5 ≤ 1500 := hT.1 5
      have v10 : (-1) ≤ τ32.1 10 ∧ τ32.1 10 ≤ 999 := hT.1 10
      have v11 : (-1) ≤ τ32.1 11 ∧ τ32.1 11 ≤ 999 := hT.1 11
      have v36 : 0 ≤ τ32.1 36 ∧ τ32.1 36 ≤ 20000 := hT.1 36
      have v38 : 0 ≤ τ32.1 38 ∧ τ32.1 38 ≤ 1500 := hT.1 38
      have v49 : 0 ≤ τ32.1 49 ∧ τ32.1 49 ≤ 1 := hT.1 49
      have v51 : 0 ≤ τ32.1 51 ∧ τ32.1 51 ≤ 60000 := hT.1 51
      have v52 : 0 ≤ τ32.1 52 ∧ τ32.1 52 ≤ 120000 := hT.1 52
      have BI32 := y_BI_g BI3 hT3 hf_τ32 rfl rfl rfl
      have Y32 := n_Y_h Y3 hf_τ32 rfl rfl
      exact ⟨hT, (show y_BI σ τ32 from by (first | exact BI3 | exact BI14 | exact BI25 | exact BI32 | exact BI35 | exact BI39 | exact BI46 | exact BI53 | exact BI60 | exact i178_1 | fail)), (show n_Y τ32 from by (first | exact Y3 | exact Y14 | exact Y25 | exact Y32 | exact q33_3 | exact Y39 | exact q44_1 | exact q51_1 | exact Y60 | exact i178_2 | fail)), (show n_nu (τ32.2.1 63) from NU)⟩
  ·
    refine ⟨_, K3_X13_isRow hT (show -2147483648 ≤ n2 ∧ n2 ≤ 2147483647 from by (first | omega | (simp only [st_s] <;> omega) | assumption | omega | fail)) (show -2147483648 ≤ n3 ∧ n3 ≤ 2147483647 from by (first | omega | (simp only [st_s] <;> omega) | assumption | omega | fail)) (show n_J τ3 from by exact BI3.2.2.1) (show m_J τ3 from by exact BI3.2.2.2.1) (show n_Y τ3 from by exact Y3), ?_⟩
    intro x34 τ35 r_x34 hn_τ35 hf_τ35 hq
    obtain ⟨hT, q33_1, q33_2, q33_3⟩ := hq
    replace q33_1 : 0 ≤ x34 ∧ x34 ≤ 1 := q33_1
    replace q33_2 : ¬ x34 = 0 → 0 ≤ n2 ∧ (τ35.1 38) = n2 + 1 ∧ 0 ≤ n3 ∧ n3 < (τ35.1 36) := q33_2
    replace q33_3 : n_Y τ35 := q33_3
    have w3_τ35 : τ35.1 3 = τ3.1 3 := hf_τ35.1 3 (by decide)
    have w4_τ35 : τ35.1 4 = τ3.1 4 := hf_τ35.1 4 (by decide)
    have w5_τ35 : τ35.1 5 = τ3.1 5 := hf_τ35.1 5 (by decide)
    have w10_τ35 : τ35.1 10 = τ3.1 10 := hf_τ35.1 10 (by decide)
    have w11_τ35 : τ35.1 11 = τ3.1 11 := hf_τ35.1 11 (by decide)
    have w49_τ35 : τ35.1 49 = τ3.1 49 := hf_τ35.1 49 (by decide)
    have w51_τ35 : τ35.1 51 = τ3.1 51 := hf_τ35.1 51 (by decide)
    have w52_τ35 : τ35.1 52 = τ3.1 52 := hf_τ35.1 52 (by decide)
    have g8_τ35 : τ35.2.1 8 = τ3.2.1 8 := hf_τ35.2.1 8 (by decide)
    have g10_τ35 : τ35.2.1 10 = τ3.2.1 10 := hf_τ35.2.1 10 (by decide)
    have g12_τ35 : τ35.2.1 12 = τ3.2.1 12 := hf_τ35.2.1 12 (by decide)
    have g13_τ35 : τ35.2.1 13 = τ3.2.1 13 := hf_τ35.2.1 13 (by decide)
    have g14_τ35 : τ35.2.1 14 = τ3.2.1 14 := hf_τ35.2.1 14 (by decide)
    have g15_τ35 : τ35.2.1 15 = τ3.2.1 15 := hf_τ35.2.1 15 (by decide)
    have g16_τ35 : τ35.2.1 16 = τ3.2.1 16 := hf_τ35.2.1 16 (by decide)
    have g17_τ35 : τ35.2.1 17 = τ3.2.1 17 := hf_τ35.2.1 17 (by decide)
    have g18_τ35 : τ35.2.1 18 = τ3.2.1 18 := hf_τ35.2.1 18 (by decide)
    have g19_τ35 : τ35.2.1 19 = τ3.2.1 19 := hf_τ35.2.1 19 (by decide)
    have g20_τ35 : τ35.2.1 20 = τ3.2.1 20 := hf_τ35.2.1 20 (by decide)
    have g21_τ35 : τ35.2.1 21 = τ3.2.1 21 := hf_τ35.2.1 21 (by decide)
    have g22_τ35 : τ35.2.1 22 = τ3.2.1 22 := hf_τ35.2.1 22 (by decide)
    have g63_τ35 : τ35.2.1 63 = τ3.2.1 63 := hf_τ35.2.1 63 (by decide)
    have W3 : τ35.1 3 = σ.1 3 := by first | exact w3_τ35.trans W3 | omega
    have W4 : τ35.1 4 = σ.1 4 := by first | exact w4_τ35.trans W4 | omega
    have W5 : τ35.1 5 = σ.1 5 := by first | exact w5_τ35.trans W5 | omega
    have W10 : τ35.1 10 = σ.1 10 := by first | exact w10_τ35.trans W10 | omega
    have W11 : τ35.1 11 = σ.1 11 := by first | exact w11_τ35.trans W11 | omega
    have G8 : τ35.2.1 8 = σ.2.1 8 := (g8_τ35).trans G8
    have G10 : τ35.2.1 10 = σ.2.1 10 := (g10_τ35).trans G10
    have G12 : τ35.2.1 12 = σ.2.1 12 := (g12_τ35).trans G12
    have G13 : τ35.2.1 13 = σ.2.1 13 := (g13_τ35).trans G13
    have G14 : τ35.2.1 14 = σ.2.1 14 := (g14_τ35).trans G14
    have G15 : τ35.2.1 15 = σ.2.1 15 := (g15_τ35).trans G15
    have G16 : τ35.2.1 16 = σ.2.1 16 := (g16_τ35).trans G16
    have G17 : τ35.2.1 17 = σ.2.1 17 := (g17_τ35).trans G17
    have G18 : τ35.2.1 18 = σ.2.1 18 := (g18_τ35).trans G18
    have G19 : τ35.2.1 19 = σ.2.1 19 := (g19_τ35).trans G19
    have G20 : τ35.2.1 20 = σ.2.1 20 := (g20_τ35).trans G20
    have G21 : τ35.2.1 21 = σ.2.1 21 := (g21_τ35).trans G21
    have G22 : τ35.2.1 22 = σ.2.1 22 := (g22_τ35).trans G22
    have Y20 : ca (τ35.2.1 12) ((τ35.1 3)) ≤ (τ35.1 4) := by rw [show (ca (τ35.2.1 12) ((τ35.1 3)) ≤ (τ35.1 4)) = (ca (τ3.2.1 12) ((τ3.1 3)) ≤ (τ3.1 4)) from by rw [w3_τ35, w4_τ35, g12_τ35]]; exact Y20
    have PA : J_pa (τ35.2.1 21) (τ35.2.1 22) := by rw [show (J_pa (τ35.2.1 21) (τ35.2.1 22)) = (J_pa (τ3.2.1 21) (τ3.2.1 22)) from by rw [g21_τ35, g22_τ35]]; exact PA
    have NU : n_nu (τ35.2.1 63) := by rw [show (n_nu (τ35.2.1 63)) = (n_nu (τ3.2.1 63)) from by rw [g63_τ35]]; exact NU
    have A8 : ∀ j, 0 ≤ τ35.2.1 8 j ∧ τ35.2.1 8 j ≤ 1 := fun j => hT.2 8 j
    have A10 : ∀ j, (-1) ≤ τ35.2.1 10 j ∧ τ35.2.1 10 j ≤ 999 := fun j => hT.2 10 j
    have A12 : ∀ j, 0 ≤ τ35.2.1 12 j ∧ τ35.2.1 12 j ≤ 1 := fun j => hT.2 12 j
    have A13 : ∀ j, 0 ≤ τ35.2.1 13 j ∧ τ35.2.1 13 j ≤ 4 := fun j => hT.2 13 j
    have A14 : ∀ j, 0 ≤ τ35.2.1 14 j ∧ τ35.2.1 14 j ≤ 30000 := fun j => hT.2 14 j
    have A15 : ∀ j, 0 ≤ τ35.2.1 15 j ∧ τ35.2.1 15 j ≤ 300 := fun j => hT.2 15 j
    have A16 : ∀ j, 0 ≤ τ35.2.1 16 j ∧ τ35.2.1 16 j ≤ 999 := fun j => hT.2 16 j
    have A17 : ∀ j, (-1) ≤ τ35.2.1 17 j ∧ τ35.2.1 17 j ≤ 1499 := fun j => hT.2 17 j
    have A18 : ∀ j, 0 ≤ τ35.2.1 18 j ∧ τ35.2.1 18 j ≤ 90000 := fun j => hT.2 18 j
    have A19 : ∀ j, 0 ≤ τ35.2.1 19 j ∧ τ35.2.1 19 j ≤ 60 := fun j => hT.2 19 j
    have A20 : ∀ j, 0 ≤ τ35.2.1 20 j ∧ τ35.2.1 20 j ≤ 1499 := fun j => hT.2 20 j
    have A21 : ∀ j, 0 ≤ τ35.2.1 21 j ∧ τ35.2.1 21 j ≤ 20000 := fun j => hT.2 21 j
    have A22 : ∀ j, 0 ≤ τ35.2.1 22 j ∧ τ35.2.1 22 j ≤ 20000 := fun j => hT.2 22 j
    have A63 : ∀ j, (-2147483648) ≤ τ35.2.1 63 j ∧ τ35.2.1 63 j ≤ 2147483647 := fun j => hT.2 63 j
    have v3 : 0 ≤ τ35.1 3 ∧ τ35.1 3 ≤ 1000 := hT.1 3
    have v4 : 0 ≤ τ35.1 4 ∧ τ35.1 4 ≤ 100 := hT.1 4
    have v5 : 0 ≤ τ35.1 5 ∧ τ35.1 5 ≤ 1500 := hT.1 5
    have v10 : (-1) ≤ τ35.1 10 ∧ τ35.1 10 ≤ 999 := hT.1 10
    have v11 : (-1) ≤ τ35.1 11 ∧ τ35.1 11 ≤ 999 := hT.1 11
    have v36 : 0 ≤ τ35.1 36 ∧ τ35.1 36 ≤ 20000 := hT.1 36
    have v38 : 0 ≤ τ35.1 38 ∧ τ35.1 38 ≤ 1500 := hT.1 38
    have v49 : 0 ≤ τ35.1 49 ∧ τ35.1 49 ≤ 1 := hT.1 49
    have v51 : 0 ≤ τ35.1 51 ∧ τ35.1 51 ≤ 60000 := hT.1 51
    have v52 : 0 ≤ τ35.1 52 ∧ τ35.1 52 ≤ 120000 := hT.1 52
    have BI35 := y_BI_g BI3 hT3 hf_τ35 rfl rfl rfl
    refine ⟨fun c36 => ?_, fun c36 => ?_⟩
    ·
      exact ⟨hT, (show y_BI σ τ35 from by (first | exact BI3 | exact BI14 | exact BI25 | exact BI32 | exact BI35 | exact BI39 | exact BI46 | exact BI53 | exact BI60 | exact i178_1 | fail)), (show n_Y τ35 from by (first | exact Y3 | exact Y14 | exact Y25 | exact Y32 | exact q33_3 | exact Y39 | exact q44_1 | exact q51_1 | exact Y60 | exact i178_2 | fail)), (show n_nu (τ35.2.1 63) from NU)⟩
    ·
      have hT35 := hT
      have r33 := q33_2 (by omega)
      have Ye := n_Y_e q33_3 r33.2.1 r33.1
      have Yf := q33_3.resolve_left (by omega)
      refine ⟨_, K3_X13_printRow hT (show 0 ≤ n2 from by (first | omega | (simp only [st_s] <;> omega) | assumption | omega | fail)) (show n2 < τ35.1 5 from by (have w := Yf.1.2.1; omega)) (show τ35.2.1 13 n2 = 3 from by (have w := Yf.1.2.2; rw [r33.2.1, show n2 + 1 - 1 = n2 from by omega] at w; exact w)) (show n_J τ35 from by exact BI35.2.2.1) (show m_J τ35 from by exact BI35.2.2.2.1) (show J_pa (τ35.2.1 21) (τ35.2.1 22) from PA) (show 0 ≤ n3 ∧ n3 ≤ 20000 from by (first | omega | (simp only [st_s] <;> omega) | assumption | omega | fail)) (show n3 < n_rn (τ35.2.1 25 n2) (τ35.2.1 26 n2) (τ35.2.1 27) from by (rw [← Ye.1.2.1]; exact r33.2.2.2)), ?_⟩
      intro x38 τ39 r_x38 hn_τ39 hf_τ39 hq
      replace hT := hq
      have w3_τ39 : τ39.1 3 = τ35.1 3 := hf_τ39.1 3 (by decide)
      have w4_τ39 : τ39.1 4 = τ35.1 4 := hf_τ39.1 4 (by decide)
      have w5_τ39 : τ39.1 5 = τ35.1 5 := hf_τ39.1 5 (by decide)
      have w10_τ39 : τ39.1 10 = τ35.1 10 := hf_τ39.1 10 (by decide)
      have w11_τ39 : τ39.1 11 = τ35.1 11 := hf_τ39.1 11 (by decide)
      have w36_τ39 : τ39.1 36 = τ35.1 36 := hf_τ39.1 36 (by decide)
      have w38_τ39 : τ39.1 38 = τ35.1 38 := hf_τ39.1 38 (by decide)
      have w49_τ39 : τ39.1 49 = τ35.1 49 := hf_τ39.1 49 (by decide)
      have w51_τ39 : τ39.1 51 = τ35.1 51 := hf_τ39.1 51 (by decide)
      have w52_τ39 : τ39.1 52 = τ35.1 52 := hf_τ39.1 52 (by decide)
      have g8_τ39 : τ39.2.1 8 = τ35.2.1 8 := hf_τ39.2.1 8 (by decide)
      have g10_τ39 : τ39.2.1 10 = τ35.2.1 10 := hf_τ39.2.1 10 (by decide)
      have g12_τ39 : τ39.2.1 12 = τ35.2.1 12 := hf_τ39.2.1 12 (by decide)
      have g13_τ39 : τ39.2.1 13 = τ35.2.1 13 := hf_τ39.2.1 13 (by decide)
      have g14_τ39 : τ39.2.1 14 = τ35.2.1 14 := hf_τ39.2.1 14 (by decide)
      have g15_τ39 : τ39.2.1 15 = τ35.2.1 15 := hf_τ39.2.1 15 (by decide)
      have g16_τ39 : τ39.2.1 16 = τ35.2.1 16 := hf_τ39.2.1 16 (by decide)
      have g17_τ39 : τ39.2.1 17 = τ35.2.1 17 := hf_τ39.2.1 17 (by decide)
      have g18_τ39 : τ39.2.1 18 = τ35.2.1 18 := hf_τ39.2.1 18 (by decide)
      have g19_τ39 : τ39.2.1 19 = τ35.2.1 19 := hf_τ39.2.1 19 (by decide)
      have g20_τ39 : τ39.2.1 20 = τ35.2.1 20 := hf_τ39.2.1 20 (by decide)
      have g21_τ39 : τ39.2.1 21 = τ35.2.1 21 := hf_τ39.2.1 21 (by decide)
      have g22_τ39 : τ39.2.1 22 = τ35.2.1 22 := hf_τ39.2.1 22 (by decide)
      have g63_τ39 : τ39.2.1 63 = τ35.2.1 63 := hf_τ39.2.1 63 (by decide)
      have W3 : τ39.1 3 = σ.1 3 := by first | exact w3_τ39.trans W3 | omega
      have W4 : τ39.1 4 = σ.1 4 := by first | exact w4_τ39.trans W4 | omega
      have W5 : τ39.1 5 = σ.1 5 := by first | exact w5_τ39.trans W5 | omega
      have W10 : τ39.1 10 = σ.1 10 := by first | exact w10_τ39.trans W10 | omega
      have W11 : τ39.1 11 = σ.1 11 := by first | exact w11_τ39.trans W11 | omega
      have G8 : τ39.2.1 8 = σ.2.1 8 := (g8_τ39).trans G8
      have G10 : τ39.2.1 10 = σ.2.1 10 := (g10_τ39).trans G10
      have G12 : τ39.2.1 12 = σ.2.1 12 := (g12_τ39).trans G12
      have G13 : τ39.2.1 13 = σ.2.1 13 := (g13_τ39).trans G13
      have G14 : τ39.2.1 14 = σ.2.1 14 := (g14_τ39).trans G14
      have G15 : τ39.2.1 15 = σ.2.1 15 := (g15_τ39).trans G15
      have G16 : τ39.2.1 16 = σ.2.1 16 := (g16_τ39).trans G16
      have G17 : τ39.2.1 17 = σ.2.1 17 := (g17_τ39).trans G17
      have G18 : τ39.2.1 18 = σ.2.1 18 := (g18_τ39).trans G18
      have G19 : τ39.2.1 19 = σ.2.1 19 := (g19_τ39).trans G19
      have G20 : τ39.2.1 20 = σ.2.1 20 := (g20_τ39).trans G20
      have G21 : τ39.2.1 21 = σ.2.1 21 := (g21_τ39).trans G21
      have G22 : τ39.2.1 22 = σ.2.1 22 := (g22_τ39).trans G22
      have Y20 : ca (τ39.2.1 12) ((τ39.1 3)) ≤ (τ39.1 4) := by rw [show (ca (τ39.2.1 12) ((τ39.1 3)) ≤ (τ39.1 4)) = (ca (τ35.2.1 12) ((τ35.1 3)) ≤ (τ35.1 4)) from by rw [w3_τ39, w4_τ39, g12_τ39]]; exact Y20
      have PA : J_pa (τ39.2.1 21) (τ39.2.1 22) := by rw [show (J_pa (τ39.2.1 21) (τ39.2.1 22)) = (J_pa (τ35.2.1 21) (τ35.2.1 22)) from by rw [g21_τ39, g22_τ39]]; exact PA
      have NU : n_nu (τ39.2.1 63) := by rw [show (n_nu (τ39.2.1 63)) = (n_nu (τ35.2.1 63)) from by rw [g63_τ39]]; exact NU
      have A8 : ∀ j, 0 ≤ τ39.2.1 8 j ∧ τ39.2.1 8 j ≤ 1 := fun j => hT.2 8 j
      have A10 : ∀ j, (-1) ≤ τ39.2.1 10 j ∧ τ39.2.1 10 j ≤ 999 := fun j => hT.2 10 j
      have A12 : ∀ j, 0 ≤ τ39.2.1 12 j ∧ τ39.2.1 12 j ≤ 1 := fun j => hT.2 12 j
      have A13 : ∀ j, 0 ≤ τ39.2.1 13 j ∧ τ39.2.1 13 j ≤ 4 := fun j => hT.2 13 j
      have A14 : ∀ j, 0 ≤ τ39.2.1 14 j ∧ τ39.2.1 14 j ≤ 30000 := fun j => hT.2 14 j
      have A15 : ∀ j, 0 ≤ τ39.2.1 15 j ∧ τ39.2.1 15 j ≤ 300 := fun j => hT.2 15 j
      have A16 : ∀ j, 0 ≤ τ39.2.1 16 j ∧ τ39.2.1 16 j ≤ 999 := fun j => hT.2 16 j
      have A17 : ∀ j, (-1) ≤ τ39.2.1 17 j ∧ τ39.2.1 17 j ≤ 1499 := fun j => hT.2 17 j
      have A18 : ∀ j, 0 ≤ τ39.2.1 18 j ∧ τ39.2.1 18 j ≤ 90000 := fun j => hT.2 18 j
      have A19 : ∀ j, 0 ≤ τ39.2.1 19 j ∧ τ39.2.1 19 j ≤ 60 := fun j => hT.2 19 j
      have A20 : ∀ j, 0 ≤ τ39.2.1 20 j ∧ τ39.2.1 20 j ≤ 1499 := fun j => hT.2 20 j
      have A21 : ∀ j, 0 ≤ τ39.2.1 21 j ∧ τ39.2.1 21 j ≤ 20000 := fun j => hT.2 21 j
      have A22 : ∀ j, 0 ≤ τ39.2.1 22 j ∧ τ39.2.1 22 j ≤ 20000 := fun j => hT.2 22 j
      have A63 : ∀ j, (-2147483648) ≤ τ39.2.1 63 j ∧ τ39.2.1 63 j ≤ 2147483647 := fun j => hT.2 63 j
      have v3 : 0 ≤ τ39.1 3 ∧ τ39.1 3 ≤ 1000 := hT.1 3
      have v4 : 0 ≤ τ39.1 4 ∧ τ39.1 4 ≤ 100 := hT.1 4
      have v5 : 0 ≤ τ39.1 5 ∧ τ39.1 5 ≤ 1500 := hT.1 5
      have v10 : (-1) ≤ τ39.1 10 ∧ τ39.1 10 ≤ 999 := hT.1 10
      have v11 : (-1) ≤ τ39.1 11 ∧ τ39.1 11 ≤ 999 := hT.1 11
      have v36 : 0 ≤ τ39.1 36 ∧ τ39.1 36 ≤ 20000 := hT.1 36
      have v38 : 0 ≤ τ39.1 38 ∧ τ39.1 38 ≤ 1500 := hT.1 38
      have v49 : 0 ≤ τ39.1 49 ∧ τ39.1 49 ≤ 1 := hT.1 49
      have v51 : 0 ≤ τ39.1 51 ∧ τ39.1 51 ≤ 60000 := hT.1 51
      have v52 : 0 ≤ τ39.1 52 ∧ τ39.1 52 ≤ 120000 := hT.1 52
      have BI39 := y_BI_g BI35 hT35 hf_τ39 rfl rfl rfl
      have Y39 := n_Y_h q33_3 hf_τ39 rfl rfl
      exact ⟨hT, (show y_BI σ τ39 from by (first | exact BI3 | exact BI14 | exact BI25 | exact BI32 | exact BI35 | exact BI39 | exact BI46 | exact BI53 | exact BI60 | exact i178_1 | fail)), (show n_Y τ39 from by (first | exact Y3 | exact Y14 | exact Y25 | exact Y32 | exact q33_3 | exact Y39 | exact q44_1 | exact q51_1 | exact Y60 | exact i178_2 | fail)), (show n_nu (τ39.2.1 63) from NU)⟩
  ·
    refine ⟨_, K_X13_isProved hT (show -2147483648 ≤ n2 ∧ n2 ≤ 2147483647 from by (first | omega | (simp only [st_s] <;> omega) | assumption | omega | fail)), ?_⟩
    intro x41 r_x41 hq
    obtain ⟨q40_1, q40_2⟩ := hq
    replace q40_1 : 0 ≤ x41 ∧ x41 ≤ 1 := q40_1
    replace q40_2 : ¬ x41 = 0 → 0 ≤ n2 ∧ n2 < (τ3.1 5) ∧ τ3.2.1 13 n2 = 3 := q40_2
    refine ⟨fun c43 => ?_, fun c43 => ?_⟩
    ·
      exact ⟨hT, (show y_BI σ τ3 from by (first | exact BI3 | exact BI14 | exact BI25 | exact BI32 | exact BI35 | exact BI39 | exact BI46 | exact BI53 | exact BI60 | exact i178_1 | fail)), (show n_Y τ3 from by (first | exact Y3 | exact Y14 | exact Y25 | exact Y32 | exact q33_3 | exact Y39 | exact q44_1 | exact q51_1 | exact Y60 | exact i178_2 | fail)), (show n_nu (τ3.2.1 63) from NU)⟩
    ·
      refine ⟨_, K3_X13_printPacked hT (show 0 ≤ n2 from by (first | omega | (simp only [st_s] <;> omega) | assumption | omega | fail)) (show n2 < τ3.1 5 from by (first | omega | (simp only [st_s] <;> omega) | assumption | omega | fail)) (show τ3.2.1 13 n2 = 3 from by (first | omega | (simp only [st_s] <;> omega) | assumption | omega | fail)) (show n_J τ3 from by exact BI3.2.2.1) (show m_J τ3 from by exact BI3.2.2.2.1) (show n_Y τ3 from by exact Y3) (show n_nu (τ3.2.1 63) from NU), ?_⟩
      intro x45 τ46 r_x45 hn_τ46 hf_τ46 hq
      obtain ⟨hT, q44_1, q44_2⟩ := hq
      replace q44_1 : n_Y τ46 := q44_1
      replace q44_2 : n_nu (τ46.2.1 63) := q44_2
      have w3_τ46 : τ46.1 3 = τ3.1 3 := hf_τ46.1 3 (by decide)
      have w4_τ46 : τ46.1 4 = τ3.1 4 := hf_τ46.1 4 (by decide)
      have w5_τ46 : τ46.1 5 = τ3.1 5 := hf_τ46.1 5 (by decide)
      have w10_τ46 : τ46.1 10 = τ3.1 10 := hf_τ46.1 10 (by decide)
      have w11_τ46 : τ46.1 11 = τ3.1 11 := hf_τ46.1 11 (by decide)
      have w49_τ46 : τ46.1 49 = τ3.1 49 := hf_τ46.1 49 (by decide)
      have w51_τ46 : τ46.1 51 = τ3.1 51 := hf_τ46.1 51 (by decide)
      have w52_τ46 : τ46.1 52 = τ3.1 52 := hf_τ46.1 52 (by decide)
      have g8_τ46 : τ46.2.1 8 = τ3.2.1 8 := hf_τ46.2.1 8 (by decide)
      have g10_τ46 : τ46.2.1 10 = τ3.2.1 10 := hf_τ46.2.1 10 (by decide)
      have g12_τ46 : τ46.2.1 12 = τ3.2.1 12 := hf_τ46.2.1 12 (by decide)
      have g13_τ46 : τ46.2.1 13 = τ3.2.1 13 := hf_τ46.2.1 13 (by decide)
      have g14_τ46 : τ46.2.1 14 = τ3.2.1 14 := hf_τ46.2.1 14 (by decide)
      have g15_τ46 : τ46.2.1 15 = τ3.2.1 15 := hf_τ46.2.1 15 (by decide)
      have g16_τ46 : τ46.2.1 16 = τ3.2.1 16 := hf_τ46.2.1 16 (by decide)
      have g17_τ46 : τ46.2.1 17 = τ3.2.1 17 := hf_τ46.2.1 17 (by decide)
      have g18_τ46 : τ46.2.1 18 = τ3.2.1 18 := hf_τ46.2.1 18 (by decide)
      have g19_τ46 : τ46.2.1 19 = τ3.2.1 19 := hf_τ46.2.1 19 (by decide)
      have g20_τ46 : τ46.2.1 20 = τ3.2.1 20 := hf_τ46.2.1 20 (by decide)
      have g21_τ46 : τ46.2.1 21 = τ3.2.1 21 := hf_τ46.2.1 21 (by decide)
      have g22_τ46 : τ46.2.1 22 = τ3.2.1 22 := hf_τ46.2.1 22 (by decide)
      have W3 : τ46.1 3 = σ.1 3 := by first | exact w3_τ46.trans W3 | omega
      have W4 : τ46.1 4 = σ.1 4 := by first | exact w4_τ46.trans W4 | omega
      have W5 : τ46.1 5 = σ.1 5 := by first | exact w5_τ46.trans W5 | omega
      have W10 : τ46.1 10 = σ.1 10 := by first | exact w10_τ46.trans W10 | omega
      have W11 : τ46.1 11 = σ.1 11 := by first | exact w11_τ46.trans W11 | omega
      have G8 : τ46.2.1 8 = σ.2.1 8 := (g8_τ46).trans G8
      have G10 : τ46.2.1 10 = σ.2.1 10 := (g10_τ46).trans G10
      have G12 : τ46.2.1 12 = σ.2.1 12 := (g12_τ46).trans G12
      have G13 : τ46.2.1 13 = σ.2.1 13 := (g13_τ46).trans G13
      have G14 : τ46.2.1 14 = σ.2.1 14 := (g14_τ46).trans G14
      have G15 : τ46.2.1 15 = σ.2.1 15 := (g15_τ46).trans G15
      have G16 : τ46.2.1 16 = σ.2.1 16 := (g16_τ46).trans G16
      have G17 : τ46.2.1 17 = σ.2.1 17 := (g17_τ46).trans G17
      have G18 : τ46.2.1 18 = σ.2.1 18 := (g18_τ46).trans G18
      have G19 : τ46.2.1 19 = σ.2.1 19 := (g19_τ46).trans G19
      have G20 : τ46.2.1 20 = σ.2.1 20 := (g20_τ46).trans G20
      have G21 : τ46.2.1 21 = σ.2.1 21 := (g21_τ46).trans G21
      have G22 : τ46.2.1 22 = σ.2.1 22 := (g22_τ46).trans G22
      have Y20 : ca (τ46.2.1 12) ((τ46.1 3)) ≤ (τ46.1 4) := by rw [show (ca (τ46.2.1 12) ((τ46.1 3)) ≤ (τ46.1 4)) = (ca (τ3.2.1 12) ((τ3.1 3)) ≤ (τ3.1 4)) from by rw [w3_τ46, w4_τ46, g12_τ46]]; exact Y20
      have PA : J_pa (τ46.2.1 21) (τ46.2.1 22) := by rw [show (J_pa (τ46.2.1 21) (τ46.2.1 22)) = (J_pa (τ3.2.1 21) (τ3.2.1 22)) from by rw [g21_τ46, g22_τ46]]; exact PA
      have NU : n_nu (τ46.2.1 63) := q44_2
      have A8 : ∀ j, 0 ≤ τ46.2.1 8 j ∧ τ46.2.1 8 j ≤ 1 := fun j => hT.2 8 j
      have A10 : ∀ j, (-1) ≤ τ46.2.1 10 j ∧ τ46.2.1 10 j ≤ 999 := fun j => hT.2 10 j
      have A12 : ∀ j, 0 ≤ τ46.2.1 12 j ∧ τ46.2.1 12 j ≤ 1 := fun j => hT.2 12 j
      have A13 : ∀ j, 0 ≤ τ46.2.1 13 j ∧ τ46.2.1 13 j ≤ 4 := fun j => hT.2 13 j
      have A14 : ∀ j, 0 ≤ τ46.2.1 14 j ∧ τ46.2.1 14 j ≤ 30000 := fun j => hT.2 14 j
      have A15 : ∀ j, 0 ≤ τ46.2.1 15 j ∧ τ46.2.1 15 j ≤ 300 := fun j => hT.2 15 j
      have A16 : ∀ j, 0 ≤ τ46.2.1 16 j ∧ τ46.2.1 16 j ≤ 999 := fun j => hT.2 16 j
      have A17 : ∀ j, (-1) ≤ τ46.2.1 17 j ∧ τ46.2.1 17 j ≤ 1499 := fun j => hT.2 17 j
      have A18 : ∀ j, 0 ≤ τ46.2.1 18 j ∧ τ46.2.1 18 j ≤ 90000 := fun j => hT.2 18 j
      have A19 : ∀ j, 0 ≤ τ46.2.1 19 j ∧ τ46.2.1 19 j ≤ 60 := fun j => hT.2 19 j
      have A20 : ∀ j, 0 ≤ τ46.2.1 20 j ∧ τ46.2.1 20 j ≤ 1499 := fun j => hT.2 20 j
      have A21 : ∀ j, 0 ≤ τ46.2.1 21 j ∧ τ46.2.1 21 j ≤ 20000 := fun j => hT.2 21 j
      have A22 : ∀ j, 0 ≤ τ46.2.1 22 j ∧ τ46.2.1 22 j ≤ 20000 := fun j => hT.2 22 j
      have A63 : ∀ j, (-2147483648) ≤ τ46.2.1 63 j ∧ τ46.2.1 63 j ≤ 2147483647 := fun j => hT.2 63 j
      have v3 : 0 ≤ τ46.1 3 ∧ τ46.1 3 ≤ 1000 := hT.1 3
      have v4 : 0 ≤ τ46.1 4 ∧ τ46.1 4 ≤ 100 := hT.1 4
      have v5 : 0 ≤ τ46.1 5 ∧ τ46.1 5 ≤ 1500 := hT.1 5
      have v10 : (-1) ≤ τ46.1 10 ∧ τ46.1 10 ≤ 999 := hT.1 10
      have v11 : (-1) ≤ τ46.1 11 ∧ τ46.1 11 ≤ 999 := hT.1 11
      have v36 : 0 ≤ τ46.1 36 ∧ τ46.1 36 ≤ 20000 := hT.1 36
      have v38 : 0 ≤ τ46.1 38 ∧ τ46.1 38 ≤ 1500 := hT.1 38
      have v49 : 0 ≤ τ46.1 49 ∧ τ46.1 49 ≤ 1 := hT.1 49
      have v51 : 0 ≤ τ46.1 51 ∧ τ46.1 51 ≤ 60000 := hT.1 51
      have v52 : 0 ≤ τ46.1 52 ∧ τ46.1 52 ≤ 120000 := hT.1 52
      have BI46 := y_BI_g BI3 hT3 hf_τ46 rfl rfl rfl
      exact ⟨hT, (show y_BI σ τ46 from by (first | exact BI3 | exact BI14 | exact BI25 | exact BI32 | exact BI35 | exact BI39 | exact BI46 | exact BI53 | exact BI60 | exact i178_1 | fail)), (show n_Y τ46 from by (first | exact Y3 | exact Y14 | exact Y25 | exact Y32 | exact q33_3 | exact Y39 | exact q44_1 | exact q51_1 | exact Y60 | exact i178_2 | fail)), (show n_nu (τ46.2.1 63) from NU)⟩
  ·
    refine ⟨_, K_X13_isProved hT (show -2147483648 ≤ n2 ∧ n2 ≤ 2147483647 from by (first | omega | (simp only [st_s] <;> omega) | assumption | omega | fail)), ?_⟩
    intro x48 r_x48 hq
    obtain ⟨q47_1, q47_2⟩ := hq
    replace q47_1 : 0 ≤ x48 ∧ x48 ≤ 1 := q47_1
    replace q47_2 : ¬ x48 = 0 → 0 ≤ n2 ∧ n2 < (τ3.1 5) ∧ τ3.2.1 13 n2 = 3 := q47_2
    refine ⟨fun c50 => ?_, fun c50 => ?_⟩
    ·
      exact ⟨hT, (show y_BI σ τ3 from by (first | exact BI3 | exact BI14 | exact BI25 | exact BI32 | exact BI35 | exact BI39 | exact BI46 | exact BI53 | exact BI60 | exact i178_1 | fail)), (show n_Y τ3 from by (first | exact Y3 | exact Y14 | exact Y25 | exact Y32 | exact q33_3 | exact Y39 | exact q44_1 | exact q51_1 | exact Y60 | exact i178_2 | fail)), (show n_nu (τ3.2.1 63) from NU)⟩
    ·
      refine ⟨_, K3_X13_printPlain hT (show 0 ≤ n2 from by (first | omega | (simp only [st_s] <;> omega) | assumption | omega | fail)) (show n2 < τ3.1 5 from by (first | omega | (simp only [st_s] <;> omega) | assumption | omega | fail)) (show τ3.2.1 13 n2 = 3 from by (first | omega | (simp only [st_s] <;> omega) | assumption | omega | fail)) (show n_J τ3 from by exact BI3.2.2.1) (show m_J τ3 from by exact BI3.2.2.2.1) (show n_Y τ3 from by exact Y3), ?_⟩
      intro x52 τ53 r_x52 hn_τ53 hf_τ53 hq
      obtain ⟨hT, q51_1⟩ := hq
      replace q51_1 : n_Y τ53 := q51_1
      have w3_τ53 : τ53.1 3 = τ3.1 3 := hf_τ53.1 3 (by decide)
      have w4_τ53 : τ53.1 4 = τ3.1 4 := hf_τ53.1 4 (by decide)
      have w5_τ53 : τ53.1 5 = τ3.1 5 := hf_τ53.1 5 (by decide)
      have w10_τ53 : τ53.1 10 = τ3.1 10 := hf_τ53.1 10 (by decide)
      have w11_τ53 : τ53.1 11 = τ3.1 11 := hf_τ53.1 11 (by decide)
      have w49_τ53 : τ53.1 49 = τ3.1 49 := hf_τ53.1 49 (by decide)
      have w51_τ53 : τ53.1 51 = τ3.1 51 := hf_τ53.1 51 (by decide)
      have w52_τ53 : τ53.1 52 = τ3.1 52 := hf_τ53.1 52 (by decide)
      have g8_τ53 : τ53.2.1 8 = τ3.2.1 8 := hf_τ53.2.1 8 (by decide)
      have g10_τ53 : τ53.2.1 10 = τ3.2.1 10 := hf_τ53.2.1 10 (by decide)
      have g12_τ53 : τ53.2.1 12 = τ3.2.1 12 := hf_τ53.2.1 12 (by decide)
      have g13_τ53 : τ53.2.1 13 = τ3.2.1 13 := hf_τ53.2.1 13 (by decide)
      have g14_τ53 : τ53.2.1 14 = τ3.2.1 14 := hf_τ53.2.1 14 (by decide)
      have g15_τ53 : τ53.2.1 15 = τ3.2.1 15 := hf_τ53.2.1 15 (by decide)
      have g16_τ53 : τ53.2.1 16 = τ3.2.1 16 := hf_τ53.2.1 16 (by decide)
      have g17_τ53 : τ53.2.1 17 = τ3.2.1 17 := hf_τ53.2.1 17 (by decide)
      have g18_τ53 : τ53.2.1 18 = τ3.2.1 18 := hf_τ53.2.1 18 (by decide)
      have g19_τ53 : τ53.2.1 19 = τ3.2.1 19 := hf_τ53.2.1 19 (by decide)
      have g20_τ53 : τ53.2.1 20 = τ3.2.1 20 := hf_τ53.2.1 20 (by decide)
      have g21_τ53 : τ53.2.1 21 = τ3.2.1 21 := hf_τ53.2.1 21 (by decide)
      have g22_τ53 : τ53.2.1 22 = τ3.2.1 22 := hf_τ53.2.1 22 (by decide)
      have g63_τ53 : τ53.2.1 63 = τ3.2.1 63 := hf_τ53.2.1 63 (by decide)
      have W3 : τ53.1 3 = σ.1 3 := by first | exact w3_τ53.trans W3 | omega
      have W4 : τ53.1 4 = σ.1 4 := by first | exact w4_τ53.trans W4 | omega
      have W5 : τ53.1 5 = σ.1 5 := by first | exact w5_τ53.trans W5 | omega
      have W10 : τ53.1 10 = σ.1 10 := by first | exact w10_τ53.trans W10 | omega
      have W11 : τ53.1 11 = σ.1 11 := by first | exact w11_τ53.trans W11 | omega
      have G8 : τ53.2.1 8 = σ.2.1 8 := (g8_τ53).trans G8
      have G10 : τ53.2.1 10 = σ.2.1 10 := (g10_τ53).trans G10
      have G12 : τ53.2.1 12 = σ.2.1 12 := (g12_τ53).trans G12
      have G13 : τ53.2.1 13 = σ.2.1 13 := (g13_τ53).trans G13
      have G14 : τ53.2.1 14 = σ.2.1 14 := (g14_τ53).trans G14
      have G15 : τ53.2.1 15 = σ.2.1 15 := (g15_τ53).trans G15
      have G16 : τ53.2.1 16 = σ.2.1 16 := (g16_τ53).trans G16
      have G17 : τ53.2.1 17 = σ.2.1 17 := (g17_τ53).trans G17
      have G18 : τ53.2.1 18 = σ.2.1 18 := (g18_τ53).trans G18
      have G19 : τ53.2.1 19 = σ.2.1 19 := (g19_τ53).trans G19
      have G20 : τ53.2.1 20 = σ.2.1 20 := (g20_τ53).trans G20
      have G21 : τ53.2.1 21 = σ.2.1 21 := (g21_τ53).trans G21
      have G22 : τ53.2.1 22 = σ.2.1 22 := (g22_τ53).trans G22
      have Y20 : ca (τ53.2.1 12) ((τ53.1 3)) ≤ (τ53.1 4) := by rw [show (ca (τ53.2.1 12) ((τ53.1 3)) ≤ (τ53.1 4)) = (ca (τ3.2.1 12) ((τ3.1 3)) ≤ (τ3.1 4)) from by rw [w3_τ53, w4_τ53, g12_τ53]]; exact Y20
      have PA : J_pa (τ53.2.1 21) (τ53.2.1 22) := by rw [show (J_pa (τ53.2.1 21) (τ53.2.1 22)) = (J_pa (τ3.2.1 21) (τ3.2.1 22)) from by rw [g21_τ53, g22_τ53]]; exact PA
      have NU : n_nu (τ53.2.1 63) := by rw [show (n_nu (τ53.2.1 63)) = (n_nu (τ3.2.1 63)) from by rw [g63_τ53]]; exact NU
      have A8 : ∀ j, 0 ≤ τ53.2.1 8 j ∧ τ53.2.1 8 j ≤ 1 := fun j => hT.2 8 j
      have A10 : ∀ j, (-1) ≤ τ53.2.1 10 j ∧ τ53.2.1 10 j ≤ 999 := fun j => hT.2 10 j
      have A12 : ∀ j, 0 ≤ τ53.2.1 12 j ∧ τ53.2.1 12 j ≤ 1 := fun j => hT.2 12 j
      have A13 : ∀ j, 0 ≤ τ53.2.1 13 j ∧ τ53.2.1 13 j ≤ 4 := fun j => hT.2 13 j
      have A14 : ∀ j, 0 ≤ τ53.2.1 14 j ∧ τ53.2.1 14 j ≤ 30000 := fun j => hT.2 14 j
      have A15 : ∀ j, 0 ≤ τ53.2.1 15 j ∧ τ53.2.1 15 j ≤ 300 := fun j => hT.2 15 j
      have A16 : ∀ j, 0 ≤ τ53.2.1 16 j ∧ τ53.2.1 16 j ≤ 999 := fun j => hT.2 16 j
      have A17 : ∀ j, (-1) ≤ τ53.2.1 17 j ∧ τ53.2.1 17 j ≤ 1499 := fun j => hT.2 17 j
      have A18 : ∀ j, 0 ≤ τ53.2.1 18 j ∧ τ53.2.1 18 j ≤ 90000 := fun j => hT.2 18 j
      have A19 : ∀ j, 0 ≤ τ53.2.1 19 j ∧ τ53.2.1 19 j ≤ 60 := fun j => hT.2 19 j
      have A20 : ∀ j, 0 ≤ τ53.2.1 20 j ∧ τ53.2.1 20 j ≤ 1499 := fun j => hT.2 20 j
      have A21 : ∀ j, 0 ≤ τ53.2.1 21 j ∧ τ53.2.1 21 j ≤ 20000 := fun j => hT.2 21 j
      have A22 : ∀ j, 0 ≤ τ53.2.1 22 j ∧ τ53.2.1 22 j ≤ 20000 := fun j => hT.2 22 j
      have A63 : ∀ j, (-2147483648) ≤ τ53.2.1 63 j ∧ τ53.2.1 63 j ≤ 2147483647 := fun j => hT.2 63 j
      have v3 : 0 ≤ τ53.1 3 ∧ τ53.1 3 ≤ 1000 := hT.1 3
      have v4 : 0 ≤ τ53.1 4 ∧ τ53.1 4 ≤ 100 := hT.1 4
      have v5 : 0 ≤ τ53.1 5 ∧ τ53.1 5 ≤ 1500 := hT.1 5
      have v10 : (-1) ≤ τ53.1 10 ∧ τ53.1 10 ≤ 999 := hT.1 10
      have v11 : (-1) ≤ τ53.1 11 ∧ τ53.1 11 ≤ 999 := hT.1 11
      have v36 : 0 ≤ τ53.1 36 ∧ τ53.1 36 ≤ 20000 := hT.1 36
      have v38 : 0 ≤ τ53.1 38 ∧ τ53.1 38 ≤ 1500 := hT.1 38
      have v49 : 0 ≤ τ53.1 49 ∧ τ53.1 49 ≤ 1 := hT.1 49
      have v51 : 0 ≤ τ53.1 51 ∧ τ53.1 51 ≤ 60000 := hT.1 51
      have v52 : 0 ≤ τ53.1 52 ∧ τ53.1 52 ≤ 120000 := hT.1 52
      have BI53 := y_BI_g BI3 hT3 hf_τ53 rfl rfl rfl
      exact ⟨hT, (show y_BI σ τ53 from by (first | exact BI3 | exact BI14 | exact BI25 | exact BI32 | exact BI35 | exact BI39 | exact BI46 | exact BI53 | exact BI60 | exact i178_1 | fail)), (show n_Y τ53 from by (first | exact Y3 | exact Y14 | exact Y25 | exact Y32 | exact q33_3 | exact Y39 | exact q44_1 | exact q51_1 | exact Y60 | exact i178_2 | fail)), (show n_nu (τ53.2.1 63) from NU)⟩
  ·
    exact l_178 _ hT (show τ3.1 3 = σ.1 3 from by first | exact W3 | omega) (show τ3.1 4 = σ.1 4 from by first | exact W4 | omega) (show τ3.1 5 = σ.1 5 from by first | exact W5 | omega) (show τ3.1 10 = σ.1 10 from by first | exact W10 | omega) (show τ3.1 11 = σ.1 11 from by first | exact W11 | omega) G8 G10 G12 G13 G14 G15 G16 G17 G18 G19 G20 G21 G22 (show y_BI σ τ3 from by exact BI3) (show n_Y τ3 from by exact Y3) (show n_nu (τ3.2.1 63) from NU)
  ·
    exact l_178 _ hT (show τ3.1 3 = σ.1 3 from by first | exact W3 | omega) (show τ3.1 4 = σ.1 4 from by first | exact W4 | omega) (show τ3.1 5 = σ.1 5 from by first | exact W5 | omega) (show τ3.1 10 = σ.1 10 from by first | exact W10 | omega) (show τ3.1 11 = σ.1 11 from by first | exact W11 | omega) G8 G10 G12 G13 G14 G15 G16 G17 G18 G19 G20 G21 G22 (show y_BI σ τ3 from by exact BI3) (show n_Y τ3 from by exact Y3) (show n_nu (τ3.2.1 63) from NU)
