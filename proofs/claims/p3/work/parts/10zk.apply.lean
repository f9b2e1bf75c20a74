-- pure: assertions applied backwards, definitions looked for
theorem c_GR_e {σ τ : S0} {par nof : Int → Int} {In : Int → Prop} {wv wa wb : List Nat} (h : c_GR σ par nof In) (hf : f_r wv wa wb σ τ) (d1 : [4, 7, 45, 48, 50, 51, 52].all (fun i => !wv.contains i) = true) (d2 : [10, 13, 14, 15, 69, 70, 77, 78, 79].all (fun i => !wa.contains i) = true) (d3 : [3, 4, 5].all (fun i => !wb.contains i) = true) : c_GR τ par nof In := by
  have w := fun i hi => hf.1 i (c_fl d1 i hi)
  have g := fun i hi => hf.2.1 i (c_fl d2 i hi)
  have b := fun i hi => hf.2.2 i (c_fl d3 i hi)
  unfold c_GR at h ⊢
  rw [w 4 (by decide), w 7 (by decide), w 45 (by decide), w 48 (by decide), w 50 (by decide), w 51 (by decide), w 52 (by decide), g 10 (by decide), g 13 (by decide), g 14 (by decide), g 15 (by decide), g 69 (by decide), g 70 (by decide), g 77 (by decide), g 78 (by decide), g 79 (by decide), b 3 (by decide), b 4 (by decide), b 5 (by decide)]
  exact h
set_option maxHeartbeats 1000000 in
theorem K2_X3_symbolNamed_q13 {n2 : Int} {n3 : Int} {σ : S0} (hT : c_T σ) (p1 : 0 ≤ n2) (p2 : n2 + n3 ≤ 60000) (p3 : J_ht (σ.1 3) (σ.2.1 2) (σ.2.1 3) (σ.2.1 5) (σ.2.1 6)) (p4 : J_mn (σ.1 3) (σ.1 5) ((σ.1 7) + 1) (σ.2.1 4)) : W_X3_symbolNamed_q13 n2 n3 σ (fun (x : Int) => (-1 ≤ x ∧ x ≤ 999) ∧ (x < (σ.1 5))) := by
  have A2 : ∀ j, 0 ≤ σ.2.1 2 j ∧ σ.2.1 2 j ≤ 65535 := fun j => hT.2 2 j
  have A3 : ∀ j, 0 ≤ σ.2.1 3 j ∧ σ.2.1 3 j ≤ 30000 := fun j => hT.2 3 j
  have A4 : ∀ j, (-1000) ≤ σ.2.1 4 j ∧ σ.2.1 4 j ≤ 1499 := fun j => hT.2 4 j
  have A5 : ∀ j, 0 ≤ σ.2.1 5 j ∧ σ.2.1 5 j ≤ 2500 := fun j => hT.2 5 j
  have A6 : ∀ j, 0 ≤ σ.2.1 6 j ∧ σ.2.1 6 j ≤ 2500 := fun j => hT.2 6 j
  have v3 : 0 ≤ σ.1 3 ∧ σ.1 3 ≤ 2500 := hT.1 3
  have v5 : 0 ≤ σ.1 5 ∧ σ.1 5 ≤ 1000 := hT.1 5
  have v7 : 0 ≤ σ.1 7 ∧ σ.1 7 ≤ 1500 := hT.1 7
  have HT : J_ht (σ.1 3) (σ.2.1 2) (σ.2.1 3) (σ.2.1 5) (σ.2.1 6) := p3
  have MN : J_mn (σ.1 3) (σ.1 5) ((σ.1 7) + 1) (σ.2.1 4) := p4
  have HT_0 := HT
  have MN_0 := MN
  unfold W_X3_symbolNamed_q13
  refine ⟨_, K2_X3_nameOf_q13 hT (show 0 ≤ n2 from by (first | omega | (simp only [st_s] <;> omega) | assumption | omega | fail)) (show n2 + n3 ≤ 60000 from by (first | omega | (simp only [st_s] <;> omega) | assumption | omega | fail)) (show J_ht (σ.1 3) (σ.2.1 2) (σ.2.1 3) (σ.2.1 5) (σ.2.1 6) from HT), ?_⟩
  intro x2 r_x2 hq
  obtain ⟨q1_1, q1_2, q1_3, q1_4, q1_5⟩ := hq
  replace q1_1 : -1 ≤ x2 := q1_1
  replace q1_2 : x2 < (σ.1 3) := q1_2
  replace q1_3 : 0 ≤ x2 → c_eq (σ.2.1 2) (σ.2.1 3) x2 (σ.2.1 0) n2 n3 := q1_3
  replace q1_4 : x2 = -1 → ∀ n : Int, 0 ≤ n → n < (σ.1 3) → ¬ c_eq (σ.2.1 2) (σ.2.1 3) n (σ.2.1 0) n2 n3 := q1_4
  replace q1_5 : 0 ≤ x2 → ∀ n : Int, x2 < n → n < (σ.1 3) → ¬ c_eq (σ.2.1 2) (σ.2.1 3) n (σ.2.1 0) n2 n3 := q1_5
  refine ⟨_, K3_X3_symbolOf hT (show -1 ≤ x2 from by (first | omega | (simp only [st_s] <;> omega) | assumption | omega | fail)) (show x2 < (σ.1 3) from by (first | omega | (simp only [st_s] <;> omega) | assumption | omega | fail)) (show J_mn (σ.1 3) (σ.1 5) ((σ.1 7) + 1) (σ.2.1 4) from MN), ?_⟩
  intro x5 r_x5 hq
  obtain ⟨q4_1, q4_2, q4_3, q4_4, q4_5⟩ := hq
  replace q4_1 : -1 ≤ x5 ∧ x5 ≤ 999 := q4_1
  replace q4_2 : x5 < (σ.1 5) := q4_2
  replace q4_3 : 0 ≤ x2 → x5 = -1 ∨ x5 = -1 - σ.2.1 4 x2 := q4_3
  replace q4_4 : 0 ≤ x2 → σ.2.1 4 x2 < 0 → x5 = -1 - σ.2.1 4 x2 := q4_4
  replace q4_5 : x2 = -1 → x5 = -1 := q4_5
  exact ⟨(show -1 ≤ x5 ∧ x5 ≤ 999 from by (first | omega | (simp only [st_s] <;> omega) | assumption | omega | fail)), (show x5 < (σ.1 5) from by (first | omega | (simp only [st_s] <;> omega) | assumption | omega | fail))⟩
set_option maxHeartbeats 2000000 in
theorem K_X12_takeRow {σ : S0} (hT : c_T σ) (p1 : J_ht (σ.1 3) (σ.2.1 2) (σ.2.1 3) (σ.2.1 5) (σ.2.1 6)) (p2 : J_mn (σ.1 3) (σ.1 5) ((σ.1 7) + 1) (σ.2.1 4)) : W_X12_takeRow σ (fun (x : Int) (τ : S0) => (c_T τ) ∧ (-1 ≤ x ∧ x ≤ 60001) ∧ (∀ k : Int, 0 ≤ k → k < x → k < 60 → τ.2.1 1 k < (σ.1 5)) ∧ ((τ.1 0) = 0) ∧ ((τ.1 1) = 0)) := by
  have A2 : ∀ j, 0 ≤ σ.2.1 2 j ∧ σ.2.1 2 j ≤ 65535 := fun j => hT.2 2 j
  have A3 : ∀ j, 0 ≤ σ.2.1 3 j ∧ σ.2.1 3 j ≤ 30000 := fun j => hT.2 3 j
  have A4 : ∀ j, (-1000) ≤ σ.2.1 4 j ∧ σ.2.1 4 j ≤ 1499 := fun j => hT.2 4 j
  have A5 : ∀ j, 0 ≤ σ.2.1 5 j ∧ σ.2.1 5 j ≤ 2500 := fun j => hT.2 5 j
  have A6 : ∀ j, 0 ≤ σ.2.1 6 j ∧ σ.2.1 6 j ≤ 2500 := fun j => hT.2 6 j
  have v0 : 0 ≤ σ.1 0 ∧ σ.1 0 ≤ 60000 := hT.1 0
  have v1 : 0 ≤ σ.1 1 ∧ σ.1 1 ≤ 1 := hT.1 1
  have v3 : 0 ≤ σ.1 3 ∧ σ.1 3 ≤ 2500 := hT.1 3
  have v5 : 0 ≤ σ.1 5 ∧ σ.1 5 ≤ 1000 := hT.1 5
  have v7 : 0 ≤ σ.1 7 ∧ σ.1 7 ≤ 1500 := hT.1 7
  have W3 : σ.1 3 = σ.1 3 := rfl
  have W5 : σ.1 5 = σ.1 5 := rfl
  have W7 : σ.1 7 = σ.1 7 := rfl
  have G2 : σ.2.1 2 = σ.2.1 2 := rfl
  have G3 : σ.2.1 3 = σ.2.1 3 := rfl
  have G4 : σ.2.1 4 = σ.2.1 4 := rfl
  have G5 : σ.2.1 5 = σ.2.1 5 := rfl
  have G6 : σ.2.1 6 = σ.2.1 6 := rfl
  intro P24 P72 P96 h24 h72 h96
  have HT : J_ht (σ.1 3) (σ.2.1 2) (σ.2.1 3) (σ.2.1 5) (σ.2.1 6) := p1
  have MN : J_mn (σ.1 3) (σ.1 5) ((σ.1 7) + 1) (σ.2.1 4) := p2
  have HT_0 := HT
  have MN_0 := MN
  have l_24 : ∀ (m_24 : Nat) (u1_24 : Int) (u2_24 : Int) (u3_24 : Int) (u4_24 : Int) (τ_24 : S0), 60002 - u4_24 < (m_24 : Int) → (c_T τ_24) → (τ_24.1 3 = σ.1 3) → (τ_24.1 5 = σ.1 5) → (τ_24.1 7 = σ.1 7) → (τ_24.2.1 2 = σ.2.1 2) → (τ_24.2.1 3 = σ.2.1 3) → (τ_24.2.1 4 = σ.2.1 4) → (τ_24.2.1 5 = σ.2.1 5) → (τ_24.2.1 6 = σ.2.1 6) → (u1_24 = (σ.1 0)) → (0 ≤ u2_24 ∧ u2_24 ≤ u4_24) → (0 ≤ u3_24) → (u4_24 ≤ 60001) → (∀ k : Int, 0 ≤ k → k < u2_24 → k < 60 → τ_24.2.1 1 k < (σ.1 5)) → ((τ_24.1 0) = 0) → ((τ_24.1 1) = 0) → P24 u1_24 u2_24 u3_24 u4_24 τ_24 := by
    intro m_24
    induction m_24 with
    | zero =>
      intro u1_24 u2_24 u3_24 u4_24 τ_24 hm hT W3 W5 W7 G2 G3 G4 G5 G6 i24_1 i24_2 i24_3 i24_4 i24_5 i24_6 i24_7
      have A2 : ∀ j, 0 ≤ τ_24.2.1 2 j ∧ τ_24.2.1 2 j ≤ 65535 := fun j => hT.2 2 j
      have A3 : ∀ j, 0 ≤ τ_24.2.1 3 j ∧ τ_24.2.1 3 j ≤ 30000 := fun j => hT.2 3 j
      have A4 : ∀ j, (-1000) ≤ τ_24.2.1 4 j ∧ τ_24.2.1 4 j ≤ 1499 := fun j => hT.2 4 j
      have A5 : ∀ j, 0 ≤ τ_24.2.1 5 j ∧ τ_24.2.1 5 j ≤ 2500 := fun j => hT.2 5 j
      have A6 : ∀ j, 0 ≤ τ_24.2.1 6 j ∧ τ_24.2.1 6 j ≤ 2500 := fun j => hT.2 6 j
      have v0 : 0 ≤ τ_24.1 0 ∧ τ_24.1 0 ≤ 60000 := hT.1 0
      have v1 : 0 ≤ τ_24.1 1 ∧ τ_24.1 1 ≤ 1 := hT.1 1
      have v3 : 0 ≤ τ_24.1 3 ∧ τ_24.1 3 ≤ 2500 := hT.1 3
      have v5 : 0 ≤ τ_24.1 5 ∧ τ_24.1 5 ≤ 1000 := hT.1 5
      have v7 : 0 ≤ τ_24.1 7 ∧ τ_24.1 7 ≤ 1500 := hT.1 7
      exfalso; (first | omega | (simp only [st_s] <;> omega) | assumption | omega | fail)
    | succ m_24 ih_24 =>
      intro u1_24 u2_24 u3_24 u4_24 τ_24 hm_24 hT W3 W5 W7 G2 G3 G4 G5 G6 i24_1 i24_2 i24_3 i24_4 i24_5 i24_6 i24_7
      have A2 : ∀ j, 0 ≤ τ_24.2.1 2 j ∧ τ_24.2.1 2 j ≤ 65535 := fun j => hT.2 2 j
      have A3 : ∀ j, 0 ≤ τ_24.2.1 3 j ∧ τ_24.2.1 3 j ≤ 30000 := fun j => hT.2 3 j
      have A4 : ∀ j, (-1000) ≤ τ_24.2.1 4 j ∧ τ_24.2.1 4 j ≤ 1499 := fun j => hT.2 4 j
      have A5 : ∀ j, 0 ≤ τ_24.2.1 5 j ∧ τ_24.2.1 5 j ≤ 2500 := fun j => hT.2 5 j
      have A6 : ∀ j, 0 ≤ τ_24.2.1 6 j ∧ τ_24.2.1 6 j ≤ 2500 := fun j => hT.2 6 j
      have v0 : 0 ≤ τ_24.1 0 ∧ τ_24.1 0 ≤ 60000 := hT.1 0
      have v1 : 0 ≤ τ_24.1 1 ∧ τ_24.1 1 ≤ 1 := hT.1 1
      have v3 : 0 ≤ τ_24.1 3 ∧ τ_24.1 3 ≤ 2500 := hT.1 3
      have v5 : 0 ≤ τ_24.1 5 ∧ τ_24.1 5 ≤ 1000 := hT.1 5
      have v7 : 0 ≤ τ_24.1 7 ∧ τ_24.1 7 ≤ 1500 := hT.1 7
      have HT : J_ht (τ_24.1 3) (τ_24.2.1 2) (τ_24.2.1 3) (τ_24.2.1 5) (τ_24.2.1 6) := by rw [show (J_ht (τ_24.1 3) (τ_24.2.1 2) (τ_24.2.1 3) (τ_24.2.1 5) (τ_24.2.1 6)) = (J_ht (σ.1 3) (σ.2.1 2) (σ.2.1 3) (σ.2.1 5) (σ.2.1 6)) from by rw [W3, G2, G3, G5, G6]]; exact HT_0
      have MN : J_mn (τ_24.1 3) (τ_24.1 5) ((τ_24.1 7) + 1) (τ_24.2.1 4) := by rw [show (J_mn (τ_24.1 3) (τ_24.1 5) ((τ_24.1 7) + 1) (τ_24.2.1 4)) = (J_mn (σ.1 3) (σ.1 5) ((σ.1 7) + 1) (σ.2.1 4)) from by rw [W3, W5, W7, G4]]; exact MN_0
      have l_96 : ∀ (u1_96 : Int) (u2_96 : Int) (u4_96 : Int) (u5_96 : Int) (τ_96 : S0), (c_T τ_96) → (τ_96.1 3 = σ.1 3) → (τ_96.1 5 = σ.1 5) → (τ_96.1 7 = σ.1 7) → (τ_96.2.1 2 = σ.2.1 2) → (τ_96.2.1 3 = σ.2.1 3) → (τ_96.2.1 4 = σ.2.1 4) → (τ_96.2.1 5 = σ.2.1 5) → (τ_96.2.1 6 = σ.2.1 6) → (u1_96 = (σ.1 0)) → (0 ≤ u2_96 ∧ u2_96 ≤ u4_96) → (0 ≤ u5_96) → (u4_96 < u1_96) → (∀ k : Int, 0 ≤ k → k < (u2_96 + 1) → k < 60 → τ_96.2.1 1 k < (σ.1 5)) → ((τ_96.1 0) = 0) → ((τ_96.1 1) = 0) → (60002 - u4_96 ≤ (m_24 : Int)) → P96 u1_96 u2_96 u4_96 u5_96 τ_96 := by
        intro u1_96 u2_96 u4_96 u5_96 τ_96 hT W3 W5 W7 G2 G3 G4 G5 G6 i96_1 i96_2 i96_3 i96_4 i96_5 i96_6 i96_7 i96_8
        have A2 : ∀ j, 0 ≤ τ_96.2.1 2 j ∧ τ_96.2.1 2 j ≤ 65535 := fun j => hT.2 2 j
        have A3 : ∀ j, 0 ≤ τ_96.2.1 3 j ∧ τ_96.2.1 3 j ≤ 30000 := fun j => hT.2 3 j
        have A4 : ∀ j, (-1000) ≤ τ_96.2.1 4 j ∧ τ_96.2.1 4 j ≤ 1499 := fun j => hT.2 4 j
        have A5 : ∀ j, 0 ≤ τ_96.2.1 5 j ∧ τ_96.2.1 5 j ≤ 2500 := fun j => hT.2 5 j
        have A6 : ∀ j, 0 ≤ τ_96.2.1 6 j ∧ τ_96.2.1 6 j ≤ 2500 := fun j => hT.2 6 j
        have v0 : 0 ≤ τ_96.1 0 ∧ τ_96.1 0 ≤ 60000 := hT.1 0
        have v1 : 0 ≤ τ_96.1 1 ∧ τ_96.1 1 ≤ 1 := hT.1 1
        have v3 : 0 ≤ τ_96.1 3 ∧ τ_96.1 3 ≤ 2500 := hT.1 3
        have v5 : 0 ≤ τ_96.1 5 ∧ τ_96.1 5 ≤ 1000 := hT.1 5
        have v7 : 0 ≤ τ_96.1 7 ∧ τ_96.1 7 ≤ 1500 := hT.1 7
        have HT : J_ht (τ_96.1 3) (τ_96.2.1 2) (τ_96.2.1 3) (τ_96.2.1 5) (τ_96.2.1 6) := by rw [show (J_ht (τ_96.1 3) (τ_96.2.1 2) (τ_96.2.1 3) (τ_96.2.1 5) (τ_96.2.1 6)) = (J_ht (σ.1 3) (σ.2.1 2) (σ.2.1 3) (σ.2.1 5) (σ.2.1 6)) from by rw [W3, G2, G3, G5, G6]]; exact HT_0
        have MN : J_mn (τ_96.1 3) (τ_96.1 5) ((τ_96.1 7) + 1) (τ_96.2.1 4) := by rw [show (J_mn (τ_96.1 3) (τ_96.1 5) ((τ_96.1 7) + 1) (τ_96.2.1 4)) = (J_mn (σ.1 3) (σ.1 5) ((σ.1 7) + 1) (σ.2.1 4)) from by rw [W3, W5, W7, G4]]; exact MN_0
        refine h96 u1_96 u2_96 u4_96 u5_96 τ_96 ?_
        refine ⟨_, K_X12_skipBlanks_q13 hT (show 0 ≤ u5_96 from by (first | omega | (simp only [st_s] <;> omega) | assumption | omega | fail)) (show u1_96 ≤ 60000 from by (first | omega | (simp only [st_s] <;> omega) | assumption | omega | fail)), ?_⟩
        intro x22 r_x22 hq
        have q21_1 := hq
        replace q21_1 : u5_96 ≤ x22 ∧ (x22 ≤ u1_96 ∨ x22 = u5_96) := q21_1
        refine ⟨(⟨by (first | omega | (simp only [st_s] <;> omega) | assumption | omega | fail), by (first | omega | (simp only [st_s] <;> omega) | assumption | omega | fail)⟩ : rg (u2_96 + 1)), ?_⟩
        refine ⟨(⟨by (first | omega | (simp only [st_s] <;> omega) | assumption | omega | fail), by (first | omega | (simp only [st_s] <;> omega) | assumption | omega | fail)⟩ : rg (u4_96 + 1)), ?_⟩
        exact ih_24 _ _ _ _ _ (show (60002 - (u4_96 + 1) : Int) < ((m_24 : Nat) : Int) from by ((first | omega | (simp only [st_s] <;> omega) | assumption | omega | fail))) hT (show τ_96.1 3 = σ.1 3 from by first | exact W3 | omega) (show τ_96.1 5 = σ.1 5 from by first | exact W5 | omega) (show τ_96.1 7 = σ.1 7 from by first | exact W7 | omega) G2 G3 G4 G5 G6 (show u1_96 = (σ.1 0) from by (first | omega | (simp only [st_s] <;> omega) | assumption | omega | fail)) (show 0 ≤ (u2_96 + 1) ∧ (u2_96 + 1) ≤ (u4_96 + 1) from by (first | omega | (simp only [st_s] <;> omega) | assumption | omega | fail)) (show 0 ≤ x22 from by (first | omega | (simp only [st_s] <;> omega) | assumption | omega | fail)) (show (u4_96 + 1) ≤ 60001 from by (first | omega | (simp only [st_s] <;> omega) | assumption | omega | fail)) (show ∀ k : Int, 0 ≤ k → k < (u2_96 + 1) → k < 60 → τ_96.2.1 1 k < (σ.1 5) from by (first | exact i96_5 | (intro k a b; omega) | fail)) (show (τ_96.1 0) = 0 from by (first | omega | (simp only [st_s] <;> omega) | assumption | omega | fail)) (show (τ_96.1 1) = 0 from by (first | omega | (simp only [st_s] <;> omega) | assumption | omega | fail))
      have l_72 : ∀ (u1_72 : Int) (u2_72 : Int) (u4_72 : Int) (u5_72 : Int) (k0_72 : Int) (τ_72 : S0), (c_T τ_72) → (τ_72.1 3 = σ.1 3) → (τ_72.1 5 = σ.1 5) → (τ_72.1 7 = σ.1 7) → (τ_72.2.1 2 = σ.2.1 2) → (τ_72.2.1 3 = σ.2.1 3) → (τ_72.2.1 4 = σ.2.1 4) → (τ_72.2.1 5 = σ.2.1 5) → (τ_72.2.1 6 = σ.2.1 6) → (u1_72 = (σ.1 0)) → (0 ≤ u2_72 ∧ u2_72 ≤ u4_72) → (0 ≤ u5_72) → (u4_72 < u1_72) → (∀ k : Int, 0 ≤ k → k < u2_72 → k < 60 → τ_72.2.1 1 k < (σ.1 5)) → ((τ_72.1 0) = 0) → ((τ_72.1 1) = 0) → (-1 ≤ k0_72 ∧ k0_72 < (σ.1 5)) → (60002 - u4_72 ≤ (m_24 : Int)) → P72 u1_72 u2_72 u4_72 u5_72 k0_72 τ_72 := by
        intro u1_72 u2_72 u4_72 u5_72 k0_72 τ_72 hT W3 W5 W7 G2 G3 G4 G5 G6 i72_1 i72_2 i72_3 i72_4 i72_5 i72_6 i72_7 i72_8 i72_9
        have A2 : ∀ j, 0 ≤ τ_72.2.1 2 j ∧ τ_72.2.1 2 j ≤ 65535 := fun j => hT.2 2 j
        have A3 : ∀ j, 0 ≤ τ_72.2.1 3 j ∧ τ_72.2.1 3 j ≤ 30000 := fun j => hT.2 3 j
        have A4 : ∀ j, (-1000) ≤ τ_72.2.1 4 j ∧ τ_72.2.1 4 j ≤ 1499 := fun j => hT.2 4 j
        have A5 : ∀ j, 0 ≤ τ_72.2.1 5 j ∧ τ_72.2.1 5 j ≤ 2500 := fun j => hT.2 5 j
        have A6 : ∀ j, 0 ≤ τ_72.2.1 6 j ∧ τ_72.2.1 6 j ≤ 2500 := fun j => hT.2 6 j
        have v0 : 0 ≤ τ_72.1 0 ∧ τ_72.1 0 ≤ 60000 := hT.1 0
        have v1 : 0 ≤ τ_72.1 1 ∧ τ_72.1 1 ≤ 1 := hT.1 1
        have v3 : 0 ≤ τ_72.1 3 ∧ τ_72.1 3 ≤ 2500 := hT.1 3
        have v5 : 0 ≤ τ_72.1 5 ∧ τ_72.1 5 ≤ 1000 := hT.1 5
        have v7 : 0 ≤ τ_72.1 7 ∧ τ_72.1 7 ≤ 1500 := hT.1 7
        have HT : J_ht (τ_72.1 3) (τ_72.2.1 2) (τ_72.2.1 3) (τ_72.2.1 5) (τ_72.2.1 6) := by rw [show (J_ht (τ_72.1 3) (τ_72.2.1 2) (τ_72.2.1 3) (τ_72.2.1 5) (τ_72.2.1 6)) = (J_ht (σ.1 3) (σ.2.1 2) (σ.2.1 3) (σ.2.1 5) (σ.2.1 6)) from by rw [W3, G2, G3, G5, G6]]; exact HT_0
        have MN : J_mn (τ_72.1 3) (τ_72.1 5) ((τ_72.1 7) + 1) (τ_72.2.1 4) := by rw [show (J_mn (τ_72.1 3) (τ_72.1 5) ((τ_72.1 7) + 1) (τ_72.2.1 4)) = (J_mn (σ.1 3) (σ.1 5) ((σ.1 7) + 1) (σ.2.1 4)) from by rw [W3, W5, W7, G4]]; exact MN_0
        refine h72 u1_72 u2_72 u4_72 u5_72 k0_72 τ_72 ?_
        refine ⟨fun c18 => ?_, fun c18 => ?_⟩
        ·
          refine ⟨fun c19 => ?_, fun c19 => ?_⟩
          ·
            exact l_96 _ _ _ _ _ hT (show τ_72.1 3 = σ.1 3 from by first | exact W3 | omega) (show τ_72.1 5 = σ.1 5 from by first | exact W5 | omega) (show τ_72.1 7 = σ.1 7 from by first | exact W7 | omega) G2 G3 G4 G5 G6 (show u1_72 = (σ.1 0) from by (first | omega | (simp only [st_s] <;> omega) | assumption | omega | fail)) (show 0 ≤ u2_72 ∧ u2_72 ≤ u4_72 from by (first | omega | (simp only [st_s] <;> omega) | assumption | omega | fail)) (show 0 ≤ u5_72 from by (first | omega | (simp only [st_s] <;> omega) | assumption | omega | fail)) (show u4_72 < u1_72 from by (first | omega | (simp only [st_s] <;> omega) | assumption | omega | fail)) (show ∀ k : Int, 0 ≤ k → k < (u2_72 + 1) → k < 60 → τ_72.2.1 1 k < (σ.1 5) from by (intro k a b c; first | exact i72_5 k a (by omega) c | (by_cases z : k = u2_72; (rw [z, st_s]; omega); (rw [st_n _ _ z]; exact i72_5 k a (by omega) c)))) (show (τ_72.1 0) = 0 from by (first | omega | (simp only [st_s] <;> omega) | assumption | omega | fail)) (show (τ_72.1 1) = 0 from by (first | omega | (simp only [st_s] <;> omega) | assumption | omega | fail)) (show 60002 - u4_72 ≤ (m_24 : Int) from by (first | omega | (simp only [st_s] <;> omega) | assumption | omega | fail))
          ·
            refine ⟨(show 0 ≤ u2_72 ∧ u2_72 < 60 from by (first | omega | (simp only [st_s] <;> omega) | assumption | omega | fail)), ?_⟩
            replace hT := cT_a (k := 1) (j := u2_72) hT (show (0 : Int) ≤ k0_72 ∧ k0_72 ≤ 999 from by (first | omega | (simp only [st_s] <;> omega) | assumption | omega | fail))
            exact l_96 _ _ _ _ _ hT (show τ_72.1 3 = σ.1 3 from by first | exact W3 | omega) (show τ_72.1 5 = σ.1 5 from by first | exact W5 | omega) (show τ_72.1 7 = σ.1 7 from by first | exact W7 | omega) G2 G3 G4 G5 G6 (show u1_72 = (σ.1 0) from by (first | omega | (simp only [st_s] <;> omega) | assumption | omega | fail)) (show 0 ≤ u2_72 ∧ u2_72 ≤ u4_72 from by (first | omega | (simp only [st_s] <;> omega) | assumption | omega | fail)) (show 0 ≤ u5_72 from by (first | omega | (simp only [st_s] <;> omega) | assumption | omega | fail)) (show u4_72 < u1_72 from by (first | omega | (simp only [st_s] <;> omega) | assumption | omega | fail)) (show ∀ k : Int, 0 ≤ k → k < (u2_72 + 1) → k < 60 → (st (τ_72.2.1 1) u2_72 k0_72) k < (σ.1 5) from by (intro k a b c; first | exact i72_5 k a (by omega) c | (by_cases z : k = u2_72; (rw [z, st_s]; omega); (rw [st_n _ _ z]; exact i72_5 k a (by omega) c)))) (show (τ_72.1 0) = 0 from by (first | omega | (simp only [st_s] <;> omega) | assumption | omega | fail)) (show (τ_72.1 1) = 0 from by (first | omega | (simp only [st_s] <;> omega) | assumption | omega | fail)) (show 60002 - u4_72 ≤ (m_24 : Int) from by (first | omega | (simp only [st_s] <;> omega) | assumption | omega | fail))
        ·
          exact ⟨hT, (show -1 ≤ (-1) ∧ (-1) ≤ 60001 from by (first | omega | (simp only [st_s] <;> omega) | assumption | omega | fail)), (show ∀ k : Int, 0 ≤ k → k < (-1) → k < 60 → τ_72.2.1 1 k < (σ.1 5) from by (first | exact i24_5 | (intro k a b c; omega) | fail)), (show (τ_72.1 0) = 0 from by (first | omega | (simp only [st_s] <;> omega) | assumption | omega | fail)), (show (τ_72.1 1) = 0 from by (first | omega | (simp only [st_s] <;> omega) | assumption | omega | fail))⟩
      refine h24 u1_24 u2_24 u3_24 u4_24 τ_24 ?_
      refine ⟨fun c8 => ?_, fun c8 => ?_⟩
      ·
        exact ⟨hT, (show -1 ≤ u2_24 ∧ u2_24 ≤ 60001 from by (first | omega | (simp only [st_s] <;> omega) | assumption | omega | fail)), (show ∀ k : Int, 0 ≤ k → k < u2_24 → k < 60 → τ_24.2.1 1 k < (σ.1 5) from by (first | exact i24_5 | (intro k a b c; omega) | fail)), (show (τ_24.1 0) = 0 from by (first | omega | (simp only [st_s] <;> omega) | assumption | omega | fail)), (show (τ_24.1 1) = 0 from by (first | omega | (simp only [st_s] <;> omega) | assumption | omega | fail))⟩
      ·
        refine ⟨fun c9 => ?_, fun c9 => ?_⟩
        ·
          exact ⟨hT, (show -1 ≤ u2_24 ∧ u2_24 ≤ 60001 from by (first | omega | (simp only [st_s] <;> omega) | assumption | omega | fail)), (show ∀ k : Int, 0 ≤ k → k < u2_24 → k < 60 → τ_24.2.1 1 k < (σ.1 5) from by (first | exact i24_5 | (intro k a b c; omega) | fail)), (show (τ_24.1 0) = 0 from by (first | omega | (simp only [st_s] <;> omega) | assumption | omega | fail)), (show (τ_24.1 1) = 0 from by (first | omega | (simp only [st_s] <;> omega) | assumption | omega | fail))⟩
        ·
          refine ⟨_, K_X12_tokenEnd_q13 hT (show 0 ≤ u3_24 from by (first | omega | (simp only [st_s] <;> omega) | assumption | omega | fail)) (show u1_24 ≤ 60000 from by (first | omega | (simp only [st_s] <;> omega) | assumption | omega | fail)), ?_⟩
          intro x11 r_x11 hq
          have q10_1 := hq
          replace q10_1 : u3_24 ≤ x11 ∧ (x11 ≤ u1_24 ∨ x11 = u3_24) := q10_1
          refine ⟨fun c13 => ?_, fun c13 => ?_⟩
          ·
            refine ⟨(⟨by (first | omega | (simp only [st_s] <;> omega) | assumption | omega | fail), by (first | omega | (simp only [st_s] <;> omega) | assumption | omega | fail)⟩ : rg (x11 - u3_24)), ?_⟩
            refine ⟨_, K2_X3_symbolNamed_q13 hT (show 0 ≤ u3_24 from by (first | omega | (simp only [st_s] <;> omega) | assumption | omega | fail)) (show u3_24 + (x11 - u3_24) ≤ 60000 from by (first | omega | (simp only [st_s] <;> omega) | assumption | omega | fail)) (show J_ht (τ_24.1 3) (τ_24.2.1 2) (τ_24.2.1 3) (τ_24.2.1 5) (τ_24.2.1 6) from HT) (show J_mn (τ_24.1 3) (τ_24.1 5) ((τ_24.1 7) + 1) (τ_24.2.1 4) from MN), ?_⟩
            intro x16 r_x16 hq
            obtain ⟨q15_1, q15_2⟩ := hq
            replace q15_1 : -1 ≤ x16 ∧ x16 ≤ 999 := q15_1
            replace q15_2 : x16 < (τ_24.1 5) := q15_2
            exact l_72 _ _ _ _ _ _ hT (show τ_24.1 3 = σ.1 3 from by first | exact W3 | omega) (show τ_24.1 5 = σ.1 5 from by first | exact W5 | omega) (show τ_24.1 7 = σ.1 7 from by first | exact W7 | omega) G2 G3 G4 G5 G6 (show u1_24 = (σ.1 0) from by (first | omega | (simp only [st_s] <;> omega) | assumption | omega | fail)) (show 0 ≤ u2_24 ∧ u2_24 ≤ u4_24 from by (first | omega | (simp only [st_s] <;> omega) | assumption | omega | fail)) (show 0 ≤ x11 from by (first | omega | (simp only [st_s] <;> omega) | assumption | omega | fail)) (show u4_24 < u1_24 from by (first | omega | (simp only [st_s] <;> omega) | assumption | omega | fail)) (show ∀ k : Int, 0 ≤ k → k < u2_24 → k < 60 → τ_24.2.1 1 k < (σ.1 5) from by exact i24_5) (show (τ_24.1 0) = 0 from by (first | omega | (simp only [st_s] <;> omega) | assumption | omega | fail)) (show (τ_24.1 1) = 0 from by (first | omega | (simp only [st_s] <;> omega) | assumption | omega | fail)) (show -1 ≤ x16 ∧ x16 < (σ.1 5) from by (first | omega | (simp only [st_s] <;> omega) | assumption | omega | fail)) (show 60002 - u4_24 ≤ (m_24 : Int) from by (first | omega | (simp only [st_s] <;> omega) | assumption | omega | fail))
          ·
            exact l_72 _ _ _ _ _ _ hT (show τ_24.1 3 = σ.1 3 from by first | exact W3 | omega) (show τ_24.1 5 = σ.1 5 from by first | exact W5 | omega) (show τ_24.1 7 = σ.1 7 from by first | exact W7 | omega) G2 G3 G4 G5 G6 (show u1_24 = (σ.1 0) from by (first | omega | (simp only [st_s] <;> omega) | assumption | omega | fail)) (show 0 ≤ u2_24 ∧ u2_24 ≤ u4_24 from by (first | omega | (simp only [st_s] <;> omega) | assumption | omega | fail)) (show 0 ≤ x11 from by (first | omega | (simp only [st_s] <;> omega) | assumption | omega | fail)) (show u4_24 < u1_24 from by (first | omega | (simp only [st_s] <;> omega) | assumption | omega | fail)) (show ∀ k : Int, 0 ≤ k → k < u2_24 → k < 60 → τ_24.2.1 1 k < (σ.1 5) from by exact i24_5) (show (τ_24.1 0) = 0 from by (first | omega | (simp only [st_s] <;> omega) | assumption | omega | fail)) (show (τ_24.1 1) = 0 from by (first | omega | (simp only [st_s] <;> omega) | assumption | omega | fail)) (show -1 ≤ (-1) ∧ (-1) < (σ.1 5) from by (first | omega | (simp only [st_s] <;> omega) | assumption | omega | fail)) (show 60002 - u4_24 ≤ (m_24 : Int) from by (first | omega | (simp only [st_s] <;> omega) | assumption | omega | fail))
  refine ⟨_, K_X12_useTape hT, ?_⟩
  intro τ3 hn_τ3 hf_τ3 hq
  obtain ⟨hT, q1_1, q1_2⟩ := hq
  replace q1_1 : (τ3.1 0) = 0 := q1_1
  replace q1_2 : (τ3.1 1) = 0 := q1_2
  have w3_τ3 : τ3.1 3 = σ.1 3 := hf_τ3.1 3 (by decide)
  have w5_τ3 : τ3.1 5 = σ.1 5 := hf_τ3.1 5 (by decide)
  have w7_τ3 : τ3.1 7 = σ.1 7 := hf_τ3.1 7 (by decide)
  have g2_τ3 : τ3.2.1 2 = σ.2.1 2 := hf_τ3.2.1 2 (by decide)
  have g3_τ3 : τ3.2.1 3 = σ.2.1 3 := hf_τ3.2.1 3 (by decide)
  have g4_τ3 : τ3.2.1 4 = σ.2.1 4 := hf_τ3.2.1 4 (by decide)
  have g5_τ3 : τ3.2.1 5 = σ.2.1 5 := hf_τ3.2.1 5 (by decide)
  have g6_τ3 : τ3.2.1 6 = σ.2.1 6 := hf_τ3.2.1 6 (by decide)
  have W3 : τ3.1 3 = σ.1 3 := by first | exact w3_τ3.trans W3 | omega
  have W5 : τ3.1 5 = σ.1 5 := by first | exact w5_τ3.trans W5 | omega
  have W7 : τ3.1 7 = σ.1 7 := by first | exact w7_τ3.trans W7 | omega
  have G2 : τ3.2.1 2 = σ.2.1 2 := (g2_τ3).trans G2
  have G3 : τ3.2.1 3 = σ.2.1 3 := (g3_τ3).trans G3
  have G4 : τ3.2.1 4 = σ.2.1 4 := (g4_τ3).trans G4
  have G5 : τ3.2.1 5 = σ.2.1 5 := (g5_τ3).trans G5
  have G6 : τ3.2.1 6 = σ.2.1 6 := (g6_τ3).trans G6
  have HT : J_ht (τ3.1 3) (τ3.2.1 2) (τ3.2.1 3) (τ3.2.1 5) (τ3.2.1 6) := by rw [show (J_ht (τ3.1 3) (τ3.2.1 2) (τ3.2.1 3) (τ3.2.1 5) (τ3.2.1 6)) = (J_ht (σ.1 3) (σ.2.1 2) (σ.2.1 3) (σ.2.1 5) (σ.2.1 6)) from by rw [w3_τ3, g2_τ3, g3_τ3, g5_τ3, g6_τ3]]; exact HT
  have MN : J_mn (τ3.1 3) (τ3.1 5) ((τ3.1 7) + 1) (τ3.2.1 4) := by rw [show (J_mn (τ3.1 3) (τ3.1 5) ((τ3.1 7) + 1) (τ3.2.1 4)) = (J_mn (σ.1 3) (σ.1 5) ((σ.1 7) + 1) (σ.2.1 4)) from by rw [w3_τ3, w5_τ3, w7_τ3, g4_τ3]]; exact MN
  have A2 : ∀ j, 0 ≤ τ3.2.1 2 j ∧ τ3.2.1 2 j ≤ 65535 := fun j => hT.2 2 j
  have A3 : ∀ j, 0 ≤ τ3.2.1 3 j ∧ τ3.2.1 3 j ≤ 30000 := fun j => hT.2 3 j
  have A4 : ∀ j, (-1000) ≤ τ3.2.1 4 j ∧ τ3.2.1 4 j ≤ 1499 := fun j => hT.2 4 j
  have A5 : ∀ j, 0 ≤ τ3.2.1 5 j ∧ τ3.2.1 5 j ≤ 2500 := fun j => hT.2 5 j
  have A6 : ∀ j, 0 ≤ τ3.2.1 6 j ∧ τ3.2.1 6 j ≤ 2500 := fun j => hT.2 6 j
  have v0 : 0 ≤ τ3.1 0 ∧ τ3.1 0 ≤ 60000 := hT.1 0
  have v1 : 0 ≤ τ3.1 1 ∧ τ3.1 1 ≤ 1 := hT.1 1
  have v3 : 0 ≤ τ3.1 3 ∧ τ3.1 3 ≤ 2500 := hT.1 3
  have v5 : 0 ≤ τ3.1 5 ∧ τ3.1 5 ≤ 1000 := hT.1 5
  have v7 : 0 ≤ τ3.1 7 ∧ τ3.1 7 ≤ 1500 := hT.1 7
  refine ⟨(⟨by (first | omega | (simp only [st_s] <;> omega) | assumption | omega | fail), by (first | omega | (simp only [st_s] <;> omega) | assumption | omega | fail)⟩ : rg (σ.1 0)), ?_⟩
  refine ⟨_, K_X12_skipBlanks_q13 hT (show 0 ≤ (0 : Int) from by (first | omega | (simp only [st_s] <;> omega) | assumption | omega | fail)) (show (σ.1 0) ≤ 60000 from by (first | omega | (simp only [st_s] <;> omega) | assumption | omega | fail)), ?_⟩
  intro x6 r_x6 hq
  have q5_1 := hq
  replace q5_1 : (0 : Int) ≤ x6 ∧ (x6 ≤ (σ.1 0) ∨ x6 = (0 : Int)) := q5_1
  exact l_24 ((60002 - 0 : Int).toNat + 1) _ _ _ _ _ (show (60002 - 0 : Int) < (((60002 - 0 : Int).toNat + 1 : Nat) : Int) from by ((first | omega | (simp only [st_s] <;> omega) | assumption | omega | fail))) hT (show τ3.1 3 = σ.1 3 from by first | exact W3 | omega) (show τ3.1 5 = σ.1 5 from by first | exact W5 | omega) (show τ3.1 7 = σ.1 7 from by first | exact W7 | omega) G2 G3 G4 G5 G6 (show (σ.1 0) = (σ.1 0) from by (first | omega | (simp only [st_s] <;> omega) | assumption | omega | fail)) (show 0 ≤ 0 ∧ 0 ≤ 0 from by (first | omega | (simp only [st_s] <;> omega) | assumption | omega | fail)) (show 0 ≤ x6 from by (first | omega | (simp only [st_s] <;> omega) | assumption | omega | fail)) (show 0 ≤ 60001 from by (first | omega | (simp only [st_s] <;> omega) | assumption | omega | fail)) (show ∀ k : Int, 0 ≤ k → k < 0 → k < 60 → τ3.2.1 1 k < (σ.1 5) from by (first | exact i96_5 | (intro k a b; omega) | fail)) (show (τ3.1 0) = 0 from by (first | omega | (simp only [st_s] <;> omega) | assumption | omega | fail)) (show (τ3.1 1) = 0 from by (first | omega | (simp only [st_s] <;> omega) | assumption | omega | fail))
set_option maxHeartbeats 2000000 in
theorem K_X1_takeRow_q14 {n2 : Int} {σ : S0} (hT : c_T σ) (p1 : 1 ≤ n2) (p2 : n2 ≤ 60) (p3 : ∀ k : Int, 0 ≤ k → k < n2 → σ.2.1 1 k < (σ.1 5)) (p4 : J_rks (σ.1 5) (σ.1 4) (σ.2.1 10) (σ.2.1 11)) (p5 : J_ff (σ.1 5) (σ.1 7) (σ.2.1 9) (σ.2.1 13) (σ.2.1 14) (σ.2.1 15)) (p6 : ∀ s : Int, 0 ≤ s → s < 1000 → (∀ i : Int, 0 ≤ i → i < (σ.1 50) → σ.2.1 77 i ≠ s) → σ.2.2 3 s = 0) (p7 : (σ.1 49) < (σ.1 5)) : W_X1_takeRow_q14 n2 σ (fun (τ : S0) => (c_T τ) ∧ (∀ s : Int, 0 ≤ s → s < 1000 → τ.2.2 3 s = 0) ∧ ((τ.1 52) < (σ.1 4)) ∧ ((τ.1 50) = n2 - 1) ∧ ((τ.1 51) = (σ.1 7)) ∧ (∀ i : Int, 0 ≤ i → i < (τ.1 50) → 0 ≤ τ.2.1 78 i → τ.2.1 78 i < (σ.1 7) ∧ σ.2.1 13 (τ.2.1 78 i) = 0)) := by
  have A1 : ∀ j, 0 ≤ σ.2.1 1 j ∧ σ.2.1 1 j ≤ 999 := fun j => hT.2 1 j
  have A9 : ∀ j, (-1) ≤ σ.2.1 9 j ∧ σ.2.1 9 j ≤ 1499 := fun j => hT.2 9 j
  have A10 : ∀ j, (-1) ≤ σ.2.1 10 j ∧ σ.2.1 10 j ≤ 99 := fun j => hT.2 10 j
  have A11 : ∀ j, 0 ≤ σ.2.1 11 j ∧ σ.2.1 11 j ≤ 999 := fun j => hT.2 11 j
  have A13 : ∀ j, 0 ≤ σ.2.1 13 j ∧ σ.2.1 13 j ≤ 4 := fun j => hT.2 13 j
  have A14 : ∀ j, 0 ≤ σ.2.1 14 j ∧ σ.2.1 14 j ≤ 30000 := fun j => hT.2 14 j
  have A15 : ∀ j, 0 ≤ σ.2.1 15 j ∧ σ.2.1 15 j ≤ 999 := fun j => hT.2 15 j
  have A77 : ∀ j, 0 ≤ σ.2.1 77 j ∧ σ.2.1 77 j ≤ 999 := fun j => hT.2 77 j
  have A78 : ∀ j, (-1) ≤ σ.2.1 78 j ∧ σ.2.1 78 j ≤ 1499 := fun j => hT.2 78 j
  have v4 : 0 ≤ σ.1 4 ∧ σ.1 4 ≤ 100 := hT.1 4
  have v5 : 0 ≤ σ.1 5 ∧ σ.1 5 ≤ 1000 := hT.1 5
  have v7 : 0 ≤ σ.1 7 ∧ σ.1 7 ≤ 1500 := hT.1 7
  have v48 : (-1) ≤ σ.1 48 ∧ σ.1 48 ≤ 999 := hT.1 48
  have v49 : (-1) ≤ σ.1 49 ∧ σ.1 49 ≤ 999 := hT.1 49
  have v50 : 0 ≤ σ.1 50 ∧ σ.1 50 ≤ 59 := hT.1 50
  have v51 : 0 ≤ σ.1 51 ∧ σ.1 51 ≤ 1500 := hT.1 51
  have v52 : (-1) ≤ σ.1 52 ∧ σ.1 52 ≤ 99 := hT.1 52
  have a10_49 : (-1) ≤ σ.2.1 10 (σ.1 49) ∧ σ.2.1 10 (σ.1 49) ≤ 99 := hT.2 10 _
  have W4 : σ.1 4 = σ.1 4 := rfl
  have W5 : σ.1 5 = σ.1 5 := rfl
  have W7 : σ.1 7 = σ.1 7 := rfl
  have W48 : σ.1 48 = σ.1 48 := rfl
  have W49 : σ.1 49 = σ.1 49 := rfl
  have G1 : σ.2.1 1 = σ.2.1 1 := rfl
  have G9 : σ.2.1 9 = σ.2.1 9 := rfl
  have G10 : σ.2.1 10 = σ.2.1 10 := rfl
  have G11 : σ.2.1 11 = σ.2.1 11 := rfl
  have G13 : σ.2.1 13 = σ.2.1 13 := rfl
  have G14 : σ.2.1 14 = σ.2.1 14 := rfl
  have G15 : σ.2.1 15 = σ.2.1 15 := rfl
  intro P18 h18
  have s1 := A1
  have FF : J_ff (σ.1 5) (σ.1 7) (σ.2.1 9) (σ.2.1 13) (σ.2.1 14) (σ.2.1 15) := p5
  have RKS : J_rks (σ.1 5) (σ.1 4) (σ.2.1 10) (σ.2.1 11) := p4
  have FF_0 := FF
  have RKS_0 := RKS
  have l_18 : ∀ (m_18 : Nat) (u3_18 : Int) (τ_18 : S0), 61 - u3_18 < (m_18 : Int) → (c_T τ_18) → (τ_18.1 4 = σ.1 4) → (τ_18.1 5 = σ.1 5) → (τ_18.1 7 = σ.1 7) → (τ_18.1 48 = σ.1 48) → (τ_18.1 49 = σ.1 49) → (τ_18.2.1 1 = σ.2.1 1) → (τ_18.2.1 9 = σ.2.1 9) → (τ_18.2.1 10 = σ.2.1 10) → (τ_18.2.1 11 = σ.2.1 11) → (τ_18.2.1 13 = σ.2.1 13) → (τ_18.2.1 14 = σ.2.1 14) → (τ_18.2.1 15 = σ.2.1 15) → (0 ≤ u3_18 ∧ u3_18 ≤ n2 - 1) → ((τ_18.1 50) = n2 - 1) → (∀ s : Int, 0 ≤ s → s < 1000 → τ_18.2.2 3 s = 0) → (∀ i : Int, 0 ≤ i → i < u3_18 → 0 ≤ τ_18.2.1 78 i → τ_18.2.1 78 i < (σ.1 7) ∧ σ.2.1 13 (τ_18.2.1 78 i) = 0) → P18 u3_18 τ_18 := by
    intro m_18
    induction m_18 with
    | zero =>
      intro u3_18 τ_18 hm hT W4 W5 W7 W48 W49 G1 G9 G10 G11 G13 G14 G15 i18_1 i18_2 i18_3 i18_4
      have A1 : ∀ j, 0 ≤ τ_18.2.1 1 j ∧ τ_18.2.1 1 j ≤ 999 := fun j => hT.2 1 j
      have A9 : ∀ j, (-1) ≤ τ_18.2.1 9 j ∧ τ_18.2.1 9 j ≤ 1499 := fun j => hT.2 9 j
      have A10 : ∀ j, (-1) ≤ τ_18.2.1 10 j ∧ τ_18.2.1 10 j ≤ 99 := fun j => hT.2 10 j
      have A11 : ∀ j, 0 ≤ τ_18.2.1 11 j ∧ τ_18.2.1 11 j ≤ 999 := fun j => hT.2 11 j
      have A13 : ∀ j, 0 ≤ τ_18.2.1 13 j ∧ τ_18.2.1 13 j ≤ 4 := fun j => hT.2 13 j
      have A14 : ∀ j, 0 ≤ τ_18.2.1 14 j ∧ τ_18.2.1 14 j ≤ 30000 := fun j => hT.2 14 j
      have A15 : ∀ j, 0 ≤ τ_18.2.1 15 j ∧ τ_18.2.1 15 j ≤ 999 := fun j => hT.2 15 j
      have A77 : ∀ j, 0 ≤ τ_18.2.1 77 j ∧ τ_18.2.1 77 j ≤ 999 := fun j => hT.2 77 j
      have A78 : ∀ j, (-1) ≤ τ_18.2.1 78 j ∧ τ_18.2.1 78 j ≤ 1499 := fun j => hT.2 78 j
      have v4 : 0 ≤ τ_18.1 4 ∧ τ_18.1 4 ≤ 100 := hT.1 4
      have v5 : 0 ≤ τ_18.1 5 ∧ τ_18.1 5 ≤ 1000 := hT.1 5
      have v7 : 0 ≤ τ_18.1 7 ∧ τ_18.1 7 ≤ 1500 := hT.1 7
      have v48 : (-1) ≤ τ_18.1 48 ∧ τ_18.1 48 ≤ 999 := hT.1 48
      have v49 : (-1) ≤ τ_18.1 49 ∧ τ_18.1 49 ≤ 999 := hT.1 49
      have v50 : 0 ≤ τ_18.1 50 ∧ τ_18.1 50 ≤ 59 := hT.1 50
      have v51 : 0 ≤ τ_18.1 51 ∧ τ_18.1 51 ≤ 1500 := hT.1 51
      have v52 : (-1) ≤ τ_18.1 52 ∧ τ_18.1 52 ≤ 99 := hT.1 52
      have a10_49 : (-1) ≤ τ_18.2.1 10 (τ_18.1 49) ∧ τ_18.2.1 10 (τ_18.1 49) ≤ 99 := hT.2 10 _
      exfalso; (first | omega | (simp only [st_s] <;> omega) | assumption | omega | fail)
    | succ m_18 ih_18 =>
      intro u3_18 τ_18 hm_18 hT W4 W5 W7 W48 W49 G1 G9 G10 G11 G13 G14 G15 i18_1 i18_2 i18_3 i18_4
      have A1 : ∀ j, 0 ≤ τ_18.2.1 1 j ∧ τ_18.2.1 1 j ≤ 999 := fun j => hT.2 1 j
      have A9 : ∀ j, (-1) ≤ τ_18.2.1 9 j ∧ τ_18.2.1 9 j ≤ 1499 := fun j => hT.2 9 j
      have A10 : ∀ j, (-1) ≤ τ_18.2.1 10 j ∧ τ_18.2.1 10 j ≤ 99 := fun j => hT.2 10 j
      have A11 : ∀ j, 0 ≤ τ_18.2.1 11 j ∧ τ_18.2.1 11 j ≤ 999 := fun j => hT.2 11 j
      have A13 : ∀ j, 0 ≤ τ_18.2.1 13 j ∧ τ_18.2.1 13 j ≤ 4 := fun j => hT.2 13 j
      have A14 : ∀ j, 0 ≤ τ_18.2.1 14 j ∧ τ_18.2.1 14 j ≤ 30000 := fun j => hT.2 14 j
      have A15 : ∀ j, 0 ≤ τ_18.2.1 15 j ∧ τ_18.2.1 15 j ≤ 999 := fun j => hT.2 15 j
      have A77 : ∀ j, 0 ≤ τ_18.2.1 77 j ∧ τ_18.2.1 77 j ≤ 999 := fun j => hT.2 77 j
      have A78 : ∀ j, (-1) ≤ τ_18.2.1 78 j ∧ τ_18.2.1 78 j ≤ 1499 := fun j => hT.2 78 j
      have v4 : 0 ≤ τ_18.1 4 ∧ τ_18.1 4 ≤ 100 := hT.1 4
      have v5 : 0 ≤ τ_18.1 5 ∧ τ_18.1 5 ≤ 1000 := hT.1 5
      have v7 : 0 ≤ τ_18.1 7 ∧ τ_18.1 7 ≤ 1500 := hT.1 7
      have v48 : (-1) ≤ τ_18.1 48 ∧ τ_18.1 48 ≤ 999 := hT.1 48
      have v49 : (-1) ≤ τ_18.1 49 ∧ τ_18.1 49 ≤ 999 := hT.1 49
      have v50 : 0 ≤ τ_18.1 50 ∧ τ_18.1 50 ≤ 59 := hT.1 50
      have v51 : 0 ≤ τ_18.1 51 ∧ τ_18.1 51 ≤ 1500 := hT.1 51
      have v52 : (-1) ≤ τ_18.1 52 ∧ τ_18.1 52 ≤ 99 := hT.1 52
      have a10_49 : (-1) ≤ τ_18.2.1 10 (τ_18.1 49) ∧ τ_18.2.1 10 (τ_18.1 49) ≤ 99 := hT.2 10 _
      have y10_49_τ_18 : τ_18.2.1 10 (τ_18.1 49) = σ.2.1 10 (σ.1 49) := by rw [G10, W49]
      have FF : J_ff (τ_18.1 5) (τ_18.1 7) (τ_18.2.1 9) (τ_18.2.1 13) (τ_18.2.1 14) (τ_18.2.1 15) := by rw [show (J_ff (τ_18.1 5) (τ_18.1 7) (τ_18.2.1 9) (τ_18.2.1 13) (τ_18.2.1 14) (τ_18.2.1 15)) = (J_ff (σ.1 5) (σ.1 7) (σ.2.1 9) (σ.2.1 13) (σ.2.1 14) (σ.2.1 15)) from by rw [W5, W7, G9, G13, G14, G15]]; exact FF_0
      have RKS : J_rks (τ_18.1 5) (τ_18.1 4) (τ_18.2.1 10) (τ_18.2.1 11) := by rw [show (J_rks (τ_18.1 5) (τ_18.1 4) (τ_18.2.1 10) (τ_18.2.1 11)) = (J_rks (σ.1 5) (σ.1 4) (σ.2.1 10) (σ.2.1 11)) from by rw [W4, W5, G10, G11]]; exact RKS_0
      refine h18 u3_18 τ_18 ?_
      refine ⟨fun c6 => ?_, fun c6 => ?_⟩
      ·
        replace hT := cT_v (i := 51) hT (show 0 ≤ (τ_18.1 7) ∧ (τ_18.1 7) ≤ 1500 from by (first | omega | (simp only [st_s] <;> omega) | assumption | omega | fail))
        intro x7 r_x7 e_x7
        have b_x7 : 0 ≤ x7 ∧ x7 ≤ 999 := by rw [e_x7]; exact hT.2 1 _
        rw [G1] at e_x7
        have ak0 := p3 0 (by omega) (by omega)
        refine ⟨_, K2_X8_goalRank hT (show 0 ≤ x7 from by (first | omega | (simp only [st_s] <;> omega) | assumption | omega | fail)) (show x7 < (τ_18.1 5) from by (first | omega | (simp only [st_s] <;> omega) | assumption | omega | fail)) (show J_rks (τ_18.1 5) (τ_18.1 4) (τ_18.2.1 10) (τ_18.2.1 11) from RKS) (show (τ_18.1 49) < (τ_18.1 5) from by (first | omega | (simp only [st_s] <;> omega) | assumption | omega | fail)), ?_⟩
        intro x9 r_x9 hq
        obtain ⟨q8_1, q8_2, q8_3⟩ := hq
        replace q8_1 : -1 ≤ x9 ∧ x9 ≤ 99 := q8_1
        replace q8_2 : x9 < (τ_18.1 4) := q8_2
        replace q8_3 : x7 = (τ_18.1 48) → x9 = -1 ∨ (¬ (τ_18.1 49) = -1 ∧ x9 = τ_18.2.1 10 (τ_18.1 49)) := q8_3
        replace hT := cT_v (i := 52) hT (show (-1) ≤ x9 ∧ x9 ≤ 99 from by (first | omega | (simp only [st_s] <;> omega) | assumption | omega | fail))
        exact ⟨hT, (show ∀ s : Int, 0 ≤ s → s < 1000 → τ_18.2.2 3 s = 0 from by exact i18_3), (show (x9) < (σ.1 4) from by (have w := q8_2; omega)), (show (τ_18.1 50) = n2 - 1 from by (first | omega | (simp only [st_s] <;> omega) | assumption | omega | fail)), (show ((τ_18.1 7)) = (σ.1 7) from by (first | omega | (simp only [st_s] <;> omega) | assumption | omega | fail)), (show ∀ i : Int, 0 ≤ i → i < (τ_18.1 50) → 0 ≤ τ_18.2.1 78 i → τ_18.2.1 78 i < (σ.1 7) ∧ σ.2.1 13 (τ_18.2.1 78 i) = 0 from by (intro i a b; exact i18_4 i a (by omega)))⟩
      ·
        refine ⟨(show 0 ≤ (u3_18 + 1) ∧ (u3_18 + 1) < 60 from by (first | omega | (simp only [st_s] <;> omega) | assumption | omega | fail)), ?_⟩
        intro x12 r_x12 e_x12
        have b_x12 : 0 ≤ x12 ∧ x12 ≤ 999 := by rw [e_x12]; exact hT.2 1 _
        refine ⟨(show 0 ≤ u3_18 ∧ u3_18 < 60 from by (first | omega | (simp only [st_s] <;> omega) | assumption | omega | fail)), ?_⟩
        replace hT := cT_a (k := 77) (j := u3_18) hT (show (0 : Int) ≤ x12 ∧ x12 ≤ 999 from by (first | omega | (simp only [st_s] <;> omega) | assumption | omega | fail))
        intro x14 r_x14 e_x14
        have b_x14 : 0 ≤ x14 ∧ x14 ≤ 999 := by rw [e_x14]; exact hT.2 1 _
        rw [G1] at e_x14
        have ak := p3 (u3_18 + 1) (by omega) (by omega)
        refine ⟨(show 0 ≤ x14 ∧ x14 < 1000 from by (first | omega | (simp only [st_s] <;> omega) | assumption | omega | fail)), ?_⟩
        intro x16 r_x16 e_x16
        have b_x16 : (-1) ≤ x16 ∧ x16 ≤ 1499 := by rw [e_x16]; exact hT.2 9 _
        have ffx := p5 x14 (by omega) (by omega)
        rw [← G9, ← e_x16] at ffx
        replace hT := cT_a (k := 78) (j := u3_18) hT (show (-1 : Int) ≤ x16 ∧ x16 ≤ 1499 from by (first | omega | (simp only [st_s] <;> omega) | assumption | omega | fail))
        exact ih_18 _ _ (show (61 - (u3_18 + 1) : Int) < ((m_18 : Nat) : Int) from by ((first | omega | (simp only [st_s] <;> omega) | assumption | omega | fail))) hT (show τ_18.1 4 = σ.1 4 from by first | exact W4 | omega) (show τ_18.1 5 = σ.1 5 from by first | exact W5 | omega) (show τ_18.1 7 = σ.1 7 from by first | exact W7 | omega) (show τ_18.1 48 = σ.1 48 from by first | exact W48 | omega) (show τ_18.1 49 = σ.1 49 from by first | exact W49 | omega) G1 G9 G10 G11 G13 G14 G15 (show 0 ≤ (u3_18 + 1) ∧ (u3_18 + 1) ≤ n2 - 1 from by (first | omega | (simp only [st_s] <;> omega) | assumption | omega | fail)) (show (τ_18.1 50) = n2 - 1 from by (first | omega | (simp only [st_s] <;> omega) | assumption | omega | fail)) (show ∀ s : Int, 0 ≤ s → s < 1000 → τ_18.2.2 3 s = 0 from by (first | exact q1_1 | exact i18_3 | fail)) (show ∀ i : Int, 0 ≤ i → i < (u3_18 + 1) → 0 ≤ (st (τ_18.2.1 78) u3_18 x16) i → (st (τ_18.2.1 78) u3_18 x16) i < (σ.1 7) ∧ σ.2.1 13 ((st (τ_18.2.1 78) u3_18 x16) i) = 0 from by (first | (intro i a b; exfalso; omega) | (intro i a b; by_cases z : i = u3_18; (rw [z, st_s]; intro c; have w := ffx (by omega); exact ⟨w.1, w.2.1⟩); (rw [st_n _ _ z]; exact i18_4 i a (by omega))) | fail))
  refine ⟨_, K_X1_forgetRow hT (show ∀ s : Int, 0 ≤ s → s < 1000 → (∀ i : Int, 0 ≤ i → i < (σ.1 50) → σ.2.1 77 i ≠ s) → σ.2.2 3 s = 0 from by (first | omega | (simp only [st_s] <;> omega) | assumption | omega | fail)), ?_⟩
  intro τ3 hn_τ3 hf_τ3 hq
  obtain ⟨hT, q1_1⟩ := hq
  replace q1_1 : ∀ s : Int, 0 ≤ s → s < 1000 → τ3.2.2 3 s = 0 := q1_1
  have w4_τ3 : τ3.1 4 = σ.1 4 := hf_τ3.1 4 (by decide)
  have w5_τ3 : τ3.1 5 = σ.1 5 := hf_τ3.1 5 (by decide)
  have w7_τ3 : τ3.1 7 = σ.1 7 := hf_τ3.1 7 (by decide)
  have w48_τ3 : τ3.1 48 = σ.1 48 := hf_τ3.1 48 (by decide)
  have w49_τ3 : τ3.1 49 = σ.1 49 := hf_τ3.1 49 (by decide)
  have w50_τ3 : τ3.1 50 = σ.1 50 := hf_τ3.1 50 (by decide)
  have w51_τ3 : τ3.1 51 = σ.1 51 := hf_τ3.1 51 (by decide)
  have w52_τ3 : τ3.1 52 = σ.1 52 := hf_τ3.1 52 (by decide)
  have g1_τ3 : τ3.2.1 1 = σ.2.1 1 := hf_τ3.2.1 1 (by decide)
  have g9_τ3 : τ3.2.1 9 = σ.2.1 9 := hf_τ3.2.1 9 (by decide)
  have g10_τ3 : τ3.2.1 10 = σ.2.1 10 := hf_τ3.2.1 10 (by decide)
  have g11_τ3 : τ3.2.1 11 = σ.2.1 11 := hf_τ3.2.1 11 (by decide)
  have g13_τ3 : τ3.2.1 13 = σ.2.1 13 := hf_τ3.2.1 13 (by decide)
  have g14_τ3 : τ3.2.1 14 = σ.2.1 14 := hf_τ3.2.1 14 (by decide)
  have g15_τ3 : τ3.2.1 15 = σ.2.1 15 := hf_τ3.2.1 15 (by decide)
  have g77_τ3 : τ3.2.1 77 = σ.2.1 77 := hf_τ3.2.1 77 (by decide)
  have g78_τ3 : τ3.2.1 78 = σ.2.1 78 := hf_τ3.2.1 78 (by decide)
  have W4 : τ3.1 4 = σ.1 4 := by first | exact w4_τ3.trans W4 | omega
  have W5 : τ3.1 5 = σ.1 5 := by first | exact w5_τ3.trans W5 | omega
  have W7 : τ3.1 7 = σ.1 7 := by first | exact w7_τ3.trans W7 | omega
  have W48 : τ3.1 48 = σ.1 48 := by first | exact w48_τ3.trans W48 | omega
  have W49 : τ3.1 49 = σ.1 49 := by first | exact w49_τ3.trans W49 | omega
  have G1 : τ3.2.1 1 = σ.2.1 1 := (g1_τ3).trans G1
  have G9 : τ3.2.1 9 = σ.2.1 9 := (g9_τ3).trans G9
  have G10 : τ3.2.1 10 = σ.2.1 10 := (g10_τ3).trans G10
  have G11 : τ3.2.1 11 = σ.2.1 11 := (g11_τ3).trans G11
  have G13 : τ3.2.1 13 = σ.2.1 13 := (g13_τ3).trans G13
  have G14 : τ3.2.1 14 = σ.2.1 14 := (g14_τ3).trans G14
  have G15 : τ3.2.1 15 = σ.2.1 15 := (g15_τ3).trans G15
  have y10_49_τ3 : τ3.2.1 10 (τ3.1 49) = (σ.2.1 10) (σ.1 49) := by rw [g10_τ3, w49_τ3]
  have FF : J_ff (τ3.1 5) (τ3.1 7) (τ3.2.1 9) (τ3.2.1 13) (τ3.2.1 14) (τ3.2.1 15) := by rw [show (J_ff (τ3.1 5) (τ3.1 7) (τ3.2.1 9) (τ3.2.1 13) (τ3.2.1 14) (τ3.2.1 15)) = (J_ff (σ.1 5) (σ.1 7) (σ.2.1 9) (σ.2.1 13) (σ.2.1 14) (σ.2.1 15)) from by rw [w5_τ3, w7_τ3, g9_τ3, g13_τ3, g14_τ3, g15_τ3]]; exact FF
  have RKS : J_rks (τ3.1 5) (τ3.1 4) (τ3.2.1 10) (τ3.2.1 11) := by rw [show (J_rks (τ3.1 5) (τ3.1 4) (τ3.2.1 10) (τ3.2.1 11)) = (J_rks (σ.1 5) (σ.1 4) (σ.2.1 10) (σ.2.1 11)) from by rw [w4_τ3, w5_τ3, g10_τ3, g11_τ3]]; exact RKS
  have A1 : ∀ j, 0 ≤ τ3.2.1 1 j ∧ τ3.2.1 1 j ≤ 999 := fun j => hT.2 1 j
  have A9 : ∀ j, (-1) ≤ τ3.2.1 9 j ∧ τ3.2.1 9 j ≤ 1499 := fun j => hT.2 9 j
  have A10 : ∀ j, (-1) ≤ τ3.2.1 10 j ∧ τ3.2.1 10 j ≤ 99 := fun j => hT.2 10 j
  have A11 : ∀ j, 0 ≤ τ3.2.1 11 j ∧ τ3.2.1 11 j ≤ 999 := fun j => hT.2 11 j
  have A13 : ∀ j, 0 ≤ τ3.2.1 13 j ∧ τ3.2.1 13 j ≤ 4 := fun j => hT.2 13 j
  have A14 : ∀ j, 0 ≤ τ3.2.1 14 j ∧ τ3.2.1 14 j ≤ 30000 := fun j => hT.2 14 j
  have A15 : ∀ j, 0 ≤ τ3.2.1 15 j ∧ τ3.2.1 15 j ≤ 999 := fun j => hT.2 15 j
  have A77 : ∀ j, 0 ≤ τ3.2.1 77 j ∧ τ3.2.1 77 j ≤ 999 := fun j => hT.2 77 j
  have A78 : ∀ j, (-1) ≤ τ3.2.1 78 j ∧ τ3.2.1 78 j ≤ 1499 := fun j => hT.2 78 j
  have v4 : 0 ≤ τ3.1 4 ∧ τ3.1 4 ≤ 100 := hT.1 4
  have v5 : 0 ≤ τ3.1 5 ∧ τ3.1 5 ≤ 1000 := hT.1 5
  have v7 : 0 ≤ τ3.1 7 ∧ τ3.1 7 ≤ 1500 := hT.1 7
  have v48 : (-1) ≤ τ3.1 48 ∧ τ3.1 48 ≤ 999 := hT.1 48
  have v49 : (-1) ≤ τ3.1 49 ∧ τ3.1 49 ≤ 999 := hT.1 49
  have v50 : 0 ≤ τ3.1 50 ∧ τ3.1 50 ≤ 59 := hT.1 50
  have v51 : 0 ≤ τ3.1 51 ∧ τ3.1 51 ≤ 1500 := hT.1 51
  have v52 : (-1) ≤ τ3.1 52 ∧ τ3.1 52 ≤ 99 := hT.1 52
  have a10_49 : (-1) ≤ τ3.2.1 10 (τ3.1 49) ∧ τ3.2.1 10 (τ3.1 49) ≤ 99 := hT.2 10 _
  have q1a := q1_1
  intro x4 r_x4 h1_x4 h2_x4 h3_x4
  refine ⟨(⟨by (first | omega | (simp only [st_s] <;> omega) | assumption | omega | fail), by (first | omega | (simp only [st_s] <;> omega) | assumption | omega | fail)⟩ : rg (x4 - 1)), ?_⟩
  replace hT := cT_v (i := 50) hT (show 0 ≤ (x4 - 1) ∧ (x4 - 1) ≤ 59 from by (first | omega | (simp only [st_s] <;> omega) | assumption | omega | fail))
  exact l_18 ((61 - 0 : Int).toNat + 1) _ _ (show (61 - 0 : Int) < (((61 - 0 : Int).toNat + 1 : Nat) : Int) from by ((first | omega | (simp only [st_s] <;> omega) | assumption | omega | fail))) hT (show τ3.1 4 = σ.1 4 from by first | exact W4 | omega) (show τ3.1 5 = σ.1 5 from by first | exact W5 | omega) (show τ3.1 7 = σ.1 7 from by first | exact W7 | omega) (show τ3.1 48 = σ.1 48 from by first | exact W48 | omega) (show τ3.1 49 = σ.1 49 from by first | exact W49 | omega) G1 G9 G10 G11 G13 G14 G15 (show 0 ≤ 0 ∧ 0 ≤ n2 - 1 from by (first | omega | (simp only [st_s] <;> omega) | assumption | omega | fail)) (show ((x4 - 1)) = n2 - 1 from by (first | omega | (simp only [st_s] <;> omega) | assumption | omega | fail)) (show ∀ s : Int, 0 ≤ s → s < 1000 → τ3.2.2 3 s = 0 from by (first | exact q1_1 | exact i18_3 | fail)) (show ∀ i : Int, 0 ≤ i → i < 0 → 0 ≤ τ3.2.1 78 i → τ3.2.1 78 i < (σ.1 7) ∧ σ.2.1 13 (τ3.2.1 78 i) = 0 from by (first | (intro i a b; exfalso; omega) | (intro i a b; by_cases z : i = u3_18; (rw [z, st_s]; intro c; have w := ffx (by omega); exact ⟨w.1, w.2.1⟩); (rw [st_n _ _ z]; exact i18_4 i a (by omega))) | fail))
set_option maxHeartbeats 8000000 in
theorem K_X12_apply {n1 : Int} {In0 : Int → Prop} {σ : S0} (hT : c_T σ) (p1 : J_all (σ.1 7) (σ.1 6) (σ.1 13) (σ.1 14) (σ.1 15) (σ.2.1 13) (σ.2.1 14) (σ.2.1 15) (σ.2.1 16) (σ.2.1 10) (σ.2.1 27) (σ.2.1 28) (σ.2.1 29) (σ.2.1 30) (σ.2.1 31) (σ.2.1 32) (σ.2.1 33) (σ.2.1 34) (σ.2.1 35) (σ.2.1 36) (σ.2.1 37)) (p2 : J_ht (σ.1 3) (σ.2.1 2) (σ.2.1 3) (σ.2.1 5) (σ.2.1 6)) (p3 : J_mn (σ.1 3) (σ.1 5) ((σ.1 7) + 1) (σ.2.1 4)) (p4 : J_rks (σ.1 5) (σ.1 4) (σ.2.1 10) (σ.2.1 11)) (p5 : J_vs (σ.1 6) (σ.1 5) (σ.2.1 15)) (p6 : J_ff (σ.1 5) (σ.1 7) (σ.2.1 9) (σ.2.1 13) (σ.2.1 14) (σ.2.1 15)) (p7 : c_GM In0 σ) : W_X12_apply n1 σ (fun (x : Int) (τ : S0) => (c_T τ) ∧ (c_GM In0 τ) ∧ ((τ.1 0) = 0) ∧ ((τ.1 1) = 0)) := by
  have A1 : ∀ j, 0 ≤ σ.2.1 1 j ∧ σ.2.1 1 j ≤ 999 := fun j => hT.2 1 j
  have A2 : ∀ j, 0 ≤ σ.2.1 2 j ∧ σ.2.1 2 j ≤ 65535 := fun j => hT.2 2 j
  have A3 : ∀ j, 0 ≤ σ.2.1 3 j ∧ σ.2.1 3 j ≤ 30000 := fun j => hT.2 3 j
  have A4 : ∀ j, (-1000) ≤ σ.2.1 4 j ∧ σ.2.1 4 j ≤ 1499 := fun j => hT.2 4 j
  have A5 : ∀ j, 0 ≤ σ.2.1 5 j ∧ σ.2.1 5 j ≤ 2500 := fun j => hT.2 5 j
  have A6 : ∀ j, 0 ≤ σ.2.1 6 j ∧ σ.2.1 6 j ≤ 2500 := fun j => hT.2 6 j
  have A8 : ∀ j, 0 ≤ σ.2.1 8 j ∧ σ.2.1 8 j ≤ 1 := fun j => hT.2 8 j
  have A9 : ∀ j, (-1) ≤ σ.2.1 9 j ∧ σ.2.1 9 j ≤ 1499 := fun j => hT.2 9 j
  have A10 : ∀ j, (-1) ≤ σ.2.1 10 j ∧ σ.2.1 10 j ≤ 99 := fun j => hT.2 10 j
  have A11 : ∀ j, 0 ≤ σ.2.1 11 j ∧ σ.2.1 11 j ≤ 999 := fun j => hT.2 11 j
  have A13 : ∀ j, 0 ≤ σ.2.1 13 j ∧ σ.2.1 13 j ≤ 4 := fun j => hT.2 13 j
  have A14 : ∀ j, 0 ≤ σ.2.1 14 j ∧ σ.2.1 14 j ≤ 30000 := fun j => hT.2 14 j
  have A15 : ∀ j, 0 ≤ σ.2.1 15 j ∧ σ.2.1 15 j ≤ 999 := fun j => hT.2 15 j
  have A16 : ∀ j, (-1) ≤ σ.2.1 16 j ∧ σ.2.1 16 j ≤ 1499 := fun j => hT.2 16 j
  have A27 : ∀ j, 0 ≤ σ.2.1 27 j ∧ σ.2.1 27 j ≤ 90000 := fun j => hT.2 27 j
  have A28 : ∀ j, 0 ≤ σ.2.1 28 j ∧ σ.2.1 28 j ≤ 60 := fun j => hT.2 28 j
  have A29 : ∀ j, 0 ≤ σ.2.1 29 j ∧ σ.2.1 29 j ≤ 1499 := fun j => hT.2 29 j
  have A30 : ∀ j, 0 ≤ σ.2.1 30 j ∧ σ.2.1 30 j ≤ 20000 := fun j => hT.2 30 j
  have A31 : ∀ j, 0 ≤ σ.2.1 31 j ∧ σ.2.1 31 j ≤ 20000 := fun j => hT.2 31 j
  have A32 : ∀ j, 0 ≤ σ.2.1 32 j ∧ σ.2.1 32 j ≤ 999999 := fun j => hT.2 32 j
  have A33 : ∀ j, 0 ≤ σ.2.1 33 j ∧ σ.2.1 33 j ≤ 20000 := fun j => hT.2 33 j
  have A34 : ∀ j, 0 ≤ σ.2.1 34 j ∧ σ.2.1 34 j ≤ 20000 := fun j => hT.2 34 j
  have A35 : ∀ j, 0 ≤ σ.2.1 35 j ∧ σ.2.1 35 j ≤ 1499 := fun j => hT.2 35 j
  have A36 : ∀ j, 0 ≤ σ.2.1 36 j ∧ σ.2.1 36 j ≤ 20000 := fun j => hT.2 36 j
  have A37 : ∀ j, 0 ≤ σ.2.1 37 j ∧ σ.2.1 37 j ≤ 19999 := fun j => hT.2 37 j
  have A67 : ∀ j, 0 ≤ σ.2.1 67 j ∧ σ.2.1 67 j ≤ 30000 := fun j => hT.2 67 j
  have A68 : ∀ j, 0 ≤ σ.2.1 68 j ∧ σ.2.1 68 j ≤ 30000 := fun j => hT.2 68 j
  have A69 : ∀ j, (-100) ≤ σ.2.1 69 j ∧ σ.2.1 69 j ≤ 999 := fun j => hT.2 69 j
  have A70 : ∀ j, 0 ≤ σ.2.1 70 j ∧ σ.2.1 70 j ≤ 1499 := fun j => hT.2 70 j
  have A71 : ∀ j, 0 ≤ σ.2.1 71 j ∧ σ.2.1 71 j ≤ 1500 := fun j => hT.2 71 j
  have A72 : ∀ j, 0 ≤ σ.2.1 72 j ∧ σ.2.1 72 j ≤ 1500 := fun j => hT.2 72 j
  have A73 : ∀ j, 0 ≤ σ.2.1 73 j ∧ σ.2.1 73 j ≤ 30000 := fun j => hT.2 73 j
  have A74 : ∀ j, 0 ≤ σ.2.1 74 j ∧ σ.2.1 74 j ≤ 30000 := fun j => hT.2 74 j
  have A75 : ∀ j, 0 ≤ σ.2.1 75 j ∧ σ.2.1 75 j ≤ 1499 := fun j => hT.2 75 j
  have A76 : ∀ j, 0 ≤ σ.2.1 76 j ∧ σ.2.1 76 j ≤ 99 := fun j => hT.2 76 j
  have A77 : ∀ j, 0 ≤ σ.2.1 77 j ∧ σ.2.1 77 j ≤ 999 := fun j => hT.2 77 j
  have A78 : ∀ j, (-1) ≤ σ.2.1 78 j ∧ σ.2.1 78 j ≤ 1499 := fun j => hT.2 78 j
  have A84 : ∀ j, 0 ≤ σ.2.1 84 j ∧ σ.2.1 84 j ≤ 1499 := fun j => hT.2 84 j
  have A87 : ∀ j, 0 ≤ σ.2.1 87 j ∧ σ.2.1 87 j ≤ 1499 := fun j => hT.2 87 j
  have v0 : 0 ≤ σ.1 0 ∧ σ.1 0 ≤ 60000 := hT.1 0
  have v1 : 0 ≤ σ.1 1 ∧ σ.1 1 ≤ 1 := hT.1 1
  have v3 : 0 ≤ σ.1 3 ∧ σ.1 3 ≤ 2500 := hT.1 3
  have v4 : 0 ≤ σ.1 4 ∧ σ.1 4 ≤ 100 := hT.1 4
  have v5 : 0 ≤ σ.1 5 ∧ σ.1 5 ≤ 1000 := hT.1 5
  have v6 : 0 ≤ σ.1 6 ∧ σ.1 6 ≤ 30000 := hT.1 6
  have v7 : 0 ≤ σ.1 7 ∧ σ.1 7 ≤ 1500 := hT.1 7
  have v13 : 0 ≤ σ.1 13 ∧ σ.1 13 ≤ 90000 := hT.1 13
  have v14 : 0 ≤ σ.1 14 ∧ σ.1 14 ≤ 20000 := hT.1 14
  have v15 : 0 ≤ σ.1 15 ∧ σ.1 15 ≤ 20000 := hT.1 15
  have v45 : 1 ≤ σ.1 45 ∧ σ.1 45 ≤ 30001 := hT.1 45
  have v48 : (-1) ≤ σ.1 48 ∧ σ.1 48 ≤ 999 := hT.1 48
  have v49 : (-1) ≤ σ.1 49 ∧ σ.1 49 ≤ 999 := hT.1 49
  have v50 : 0 ≤ σ.1 50 ∧ σ.1 50 ≤ 59 := hT.1 50
  have v51 : 0 ≤ σ.1 51 ∧ σ.1 51 ≤ 1500 := hT.1 51
  have v52 : (-1) ≤ σ.1 52 ∧ σ.1 52 ≤ 99 := hT.1 52
  have v54 : 0 ≤ σ.1 54 ∧ σ.1 54 ≤ 12000 := hT.1 54
  have v55 : 0 ≤ σ.1 55 ∧ σ.1 55 ≤ 12000 := hT.1 55
  have W3 : σ.1 3 = σ.1 3 := rfl
  have W4 : σ.1 4 = σ.1 4 := rfl
  have W5 : σ.1 5 = σ.1 5 := rfl
  have W6 : σ.1 6 = σ.1 6 := rfl
  have W7 : σ.1 7 = σ.1 7 := rfl
  have W13 : σ.1 13 = σ.1 13 := rfl
  have W14 : σ.1 14 = σ.1 14 := rfl
  have W15 : σ.1 15 = σ.1 15 := rfl
  have G2 : σ.2.1 2 = σ.2.1 2 := rfl
  have G3 : σ.2.1 3 = σ.2.1 3 := rfl
  have G4 : σ.2.1 4 = σ.2.1 4 := rfl
  have G5 : σ.2.1 5 = σ.2.1 5 := rfl
  have G6 : σ.2.1 6 = σ.2.1 6 := rfl
  have G8 : σ.2.1 8 = σ.2.1 8 := rfl
  have G9 : σ.2.1 9 = σ.2.1 9 := rfl
  have G10 : σ.2.1 10 = σ.2.1 10 := rfl
  have G11 : σ.2.1 11 = σ.2.1 11 := rfl
  have G13 : σ.2.1 13 = σ.2.1 13 := rfl
  have G14 : σ.2.1 14 = σ.2.1 14 := rfl
  have G15 : σ.2.1 15 = σ.2.1 15 := rfl
  have G16 : σ.2.1 16 = σ.2.1 16 := rfl
  have G27 : σ.2.1 27 = σ.2.1 27 := rfl
  have G28 : σ.2.1 28 = σ.2.1 28 := rfl
  have G29 : σ.2.1 29 = σ.2.1 29 := rfl
  have G30 : σ.2.1 30 = σ.2.1 30 := rfl
  have G31 : σ.2.1 31 = σ.2.1 31 := rfl
  have G32 : σ.2.1 32 = σ.2.1 32 := rfl
  have G33 : σ.2.1 33 = σ.2.1 33 := rfl
  have G34 : σ.2.1 34 = σ.2.1 34 := rfl
  have G35 : σ.2.1 35 = σ.2.1 35 := rfl
  have G36 : σ.2.1 36 = σ.2.1 36 := rfl
  have G37 : σ.2.1 37 = σ.2.1 37 := rfl
  have HT : J_ht (σ.1 3) (σ.2.1 2) (σ.2.1 3) (σ.2.1 5) (σ.2.1 6) := p2
  have MN : J_mn (σ.1 3) (σ.1 5) ((σ.1 7) + 1) (σ.2.1 4) := p3
  have FF : J_ff (σ.1 5) (σ.1 7) (σ.2.1 9) (σ.2.1 13) (σ.2.1 14) (σ.2.1 15) := p6
  have TX : J_vs (σ.1 6) (σ.1 5) (σ.2.1 15) := p5
  have RKS : J_rks (σ.1 5) (σ.1 4) (σ.2.1 10) (σ.2.1 11) := p4
  have CJ : J_all (σ.1 7) (σ.1 6) (σ.1 13) (σ.1 14) (σ.1 15) (σ.2.1 13) (σ.2.1 14) (σ.2.1 15) (σ.2.1 16) (σ.2.1 10) (σ.2.1 27) (σ.2.1 28) (σ.2.1 29) (σ.2.1 30) (σ.2.1 31) (σ.2.1 32) (σ.2.1 33) (σ.2.1 34) (σ.2.1 35) (σ.2.1 36) (σ.2.1 37) := p1
  have CJ_0 := CJ
  have FF_0 := FF
  have HT_0 := HT
  have MN_0 := MN
  have RKS_0 := RKS
  have TX_0 := TX
  unfold W_X12_apply
  refine ⟨_, K_X12_takeRow hT (show J_ht (σ.1 3) (σ.2.1 2) (σ.2.1 3) (σ.2.1 5) (σ.2.1 6) from HT) (show J_mn (σ.1 3) (σ.1 5) ((σ.1 7) + 1) (σ.2.1 4) from MN), ?_⟩
  intro x2 τ3 r_x2 hn_τ3 hf_τ3 hq
  obtain ⟨hT, q1_1, q1_2, q1_3, q1_4⟩ := hq
  replace q1_1 : -1 ≤ x2 ∧ x2 ≤ 60001 := q1_1
  replace q1_2 : ∀ k : Int, 0 ≤ k → k < x2 → k < 60 → τ3.2.1 1 k < (σ.1 5) := q1_2
  replace q1_3 : (τ3.1 0) = 0 := q1_3
  replace q1_4 : (τ3.1 1) = 0 := q1_4
  have w3_τ3 : τ3.1 3 = σ.1 3 := hf_τ3.1 3 (by decide)
  have w4_τ3 : τ3.1 4 = σ.1 4 := hf_τ3.1 4 (by decide)
  have w5_τ3 : τ3.1 5 = σ.1 5 := hf_τ3.1 5 (by decide)
  have w6_τ3 : τ3.1 6 = σ.1 6 := hf_τ3.1 6 (by decide)
  have w7_τ3 : τ3.1 7 = σ.1 7 := hf_τ3.1 7 (by decide)
  have w13_τ3 : τ3.1 13 = σ.1 13 := hf_τ3.1 13 (by decide)
  have w14_τ3 : τ3.1 14 = σ.1 14 := hf_τ3.1 14 (by decide)
  have w15_τ3 : τ3.1 15 = σ.1 15 := hf_τ3.1 15 (by decide)
  have w45_τ3 : τ3.1 45 = σ.1 45 := hf_τ3.1 45 (by decide)
  have w48_τ3 : τ3.1 48 = σ.1 48 := hf_τ3.1 48 (by decide)
  have w49_τ3 : τ3.1 49 = σ.1 49 := hf_τ3.1 49 (by decide)
  have w50_τ3 : τ3.1 50 = σ.1 50 := hf_τ3.1 50 (by decide)
  have w51_τ3 : τ3.1 51 = σ.1 51 := hf_τ3.1 51 (by decide)
  have w52_τ3 : τ3.1 52 = σ.1 52 := hf_τ3.1 52 (by decide)
  have w54_τ3 : τ3.1 54 = σ.1 54 := hf_τ3.1 54 (by decide)
  have w55_τ3 : τ3.1 55 = σ.1 55 := hf_τ3.1 55 (by decide)
  have g2_τ3 : τ3.2.1 2 = σ.2.1 2 := hf_τ3.2.1 2 (by decide)
  have g3_τ3 : τ3.2.1 3 = σ.2.1 3 := hf_τ3.2.1 3 (by decide)
  have g4_τ3 : τ3.2.1 4 = σ.2.1 4 := hf_τ3.2.1 4 (by decide)
  have g5_τ3 : τ3.2.1 5 = σ.2.1 5 := hf_τ3.2.1 5 (by decide)
  have g6_τ3 : τ3.2.1 6 = σ.2.1 6 := hf_τ3.2.1 6 (by decide)
  have g8_τ3 : τ3.2.1 8 = σ.2.1 8 := hf_τ3.2.1 8 (by decide)
  have g9_τ3 : τ3.2.1 9 = σ.2.1 9 := hf_τ3.2.1 9 (by decide)
  have g10_τ3 : τ3.2.1 10 = σ.2.1 10 := hf_τ3.2.1 10 (by decide)
  have g11_τ3 : τ3.2.1 11 = σ.2.1 11 := hf_τ3.2.1 11 (by decide)
  have g13_τ3 : τ3.2.1 13 = σ.2.1 13 := hf_τ3.2.1 13 (by decide)
  have g14_τ3 : τ3.2.1 14 = σ.2.1 14 := hf_τ3.2.1 14 (by decide)
  have g15_τ3 : τ3.2.1 15 = σ.2.1 15 := hf_τ3.2.1 15 (by decide)
  have g16_τ3 : τ3.2.1 16 = σ.2.1 16 := hf_τ3.2.1 16 (by decide)
  have g27_τ3 : τ3.2.1 27 = σ.2.1 27 := hf_τ3.2.1 27 (by decide)
  have g28_τ3 : τ3.2.1 28 = σ.2.1 28 := hf_τ3.2.1 28 (by decide)
  have g29_τ3 : τ3.2.1 29 = σ.2.1 29 := hf_τ3.2.1 29 (by decide)
  have g30_τ3 : τ3.2.1 30 = σ.2.1 30 := hf_τ3.2.1 30 (by decide)
  have g31_τ3 : τ3.2.1 31 = σ.2.1 31 := hf_τ3.2.1 31 (by decide)
  have g32_τ3 : τ3.2.1 32 = σ.2.1 32 := hf_τ3.2.1 32 (by decide)
  have g33_τ3 : τ3.2.1 33 = σ.2.1 33 := hf_τ3.2.1 33 (by decide)
  have g34_τ3 : τ3.2.1 34 = σ.2.1 34 := hf_τ3.2.1 34 (by decide)
  have g35_τ3 : τ3.2.1 35 = σ.2.1 35 := hf_τ3.2.1 35 (by decide)
  have g36_τ3 : τ3.2.1 36 = σ.2.1 36 := hf_τ3.2.1 36 (by decide)
  have g37_τ3 : τ3.2.1 37 = σ.2.1 37 := hf_τ3.2.1 37 (by decide)
  have g67_τ3 : τ3.2.1 67 = σ.2.1 67 := hf_τ3.2.1 67 (by decide)
  have g68_τ3 : τ3.2.1 68 = σ.2.1 68 := hf_τ3.2.1 68 (by decide)
  have g69_τ3 : τ3.2.1 69 = σ.2.1 69 := hf_τ3.2.1 69 (by decide)
  have g70_τ3 : τ3.2.1 70 = σ.2.1 70 := hf_τ3.2.1 70 (by decide)
  have g71_τ3 : τ3.2.1 71 = σ.2.1 71 := hf_τ3.2.1 71 (by decide)
  have g72_τ3 : τ3.2.1 72 = σ.2.1 72 := hf_τ3.2.1 72 (by decide)
  have g73_τ3 : τ3.2.1 73 = σ.2.1 73 := hf_τ3.2.1 73 (by decide)
  have g74_τ3 : τ3.2.1 74 = σ.2.1 74 := hf_τ3.2.1 74 (by decide)
  have g75_τ3 : τ3.2.1 75 = σ.2.1 75 := hf_τ3.2.1 75 (by decide)
  have g76_τ3 : τ3.2.1 76 = σ.2.1 76 := hf_τ3.2.1 76 (by decide)
  have g77_τ3 : τ3.2.1 77 = σ.2.1 77 := hf_τ3.2.1 77 (by decide)
  have g78_τ3 : τ3.2.1 78 = σ.2.1 78 := hf_τ3.2.1 78 (by decide)
  have g84_τ3 : τ3.2.1 84 = σ.2.1 84 := hf_τ3.2.1 84 (by decide)
  have g87_τ3 : τ3.2.1 87 = σ.2.1 87 := hf_τ3.2.1 87 (by decide)
  have W3 : τ3.1 3 = σ.1 3 := by first | exact w3_τ3.trans W3 | omega
  have W4 : τ3.1 4 = σ.1 4 := by first | exact w4_τ3.trans W4 | omega
  have W5 : τ3.1 5 = σ.1 5 := by first | exact w5_τ3.trans W5 | omega
  have W6 : τ3.1 6 = σ.1 6 := by first | exact w6_τ3.trans W6 | omega
  have W7 : τ3.1 7 = σ.1 7 := by first | exact w7_τ3.trans W7 | omega
  have W13 : τ3.1 13 = σ.1 13 := by first | exact w13_τ3.trans W13 | omega
  have W14 : τ3.1 14 = σ.1 14 := by first | exact w14_τ3.trans W14 | omega
  have W15 : τ3.1 15 = σ.1 15 := by first | exact w15_τ3.trans W15 | omega
  have G2 : τ3.2.1 2 = σ.2.1 2 := (g2_τ3).trans G2
  have G3 : τ3.2.1 3 = σ.2.1 3 := (g3_τ3).trans G3
  have G4 : τ3.2.1 4 = σ.2.1 4 := (g4_τ3).trans G4
  have G5 : τ3.2.1 5 = σ.2.1 5 := (g5_τ3).trans G5
  have G6 : τ3.2.1 6 = σ.2.1 6 := (g6_τ3).trans G6
  have G8 : τ3.2.1 8 = σ.2.1 8 := (g8_τ3).trans G8
  have G9 : τ3.2.1 9 = σ.2.1 9 := (g9_τ3).trans G9
  have G10 : τ3.2.1 10 = σ.2.1 10 := (g10_τ3).trans G10
  have G11 : τ3.2.1 11 = σ.2.1 11 := (g11_τ3).trans G11
  have G13 : τ3.2.1 13 = σ.2.1 13 := (g13_τ3).trans G13
  have G14 : τ3.2.1 14 = σ.2.1 14 := (g14_τ3).trans G14
  have G15 : τ3.2.1 15 = σ.2.1 15 := (g15_τ3).trans G15
  have G16 : τ3.2.1 16 = σ.2.1 16 := (g16_τ3).trans G16
  have G27 : τ3.2.1 27 = σ.2.1 27 := (g27_τ3).trans G27
  have G28 : τ3.2.1 28 = σ.2.1 28 := (g28_τ3).trans G28
  have G29 : τ3.2.1 29 = σ.2.1 29 := (g29_τ3).trans G29
  have G30 : τ3.2.1 30 = σ.2.1 30 := (g30_τ3).trans G30
  have G31 : τ3.2.1 31 = σ.2.1 31 := (g31_τ3).trans G31
  have G32 : τ3.2.1 32 = σ.2.1 32 := (g32_τ3).trans G32
  have G33 : τ3.2.1 33 = σ.2.1 33 := (g33_τ3).trans G33
  have G34 : τ3.2.1 34 = σ.2.1 34 := (g34_τ3).trans G34
  have G35 : τ3.2.1 35 = σ.2.1 35 := (g35_τ3).trans G35
  have G36 : τ3.2.1 36 = σ.2.1 36 := (g36_τ3).trans G36
  have G37 : τ3.2.1 37 = σ.2.1 37 := (g37_τ3).trans G37
  have HT : J_ht (τ3.1 3) (τ3.2.1 2) (τ3.2.1 3) (τ3.2.1 5) (τ3.2.1 6) := by rw [show (J_ht (τ3.1 3) (τ3.2.1 2) (τ3.2.1 3) (τ3.2.1 5) (τ3.2.1 6)) = (J_ht (σ.1 3) (σ.2.1 2) (σ.2.1 3) (σ.2.1 5) (σ.2.1 6)) from by rw [w3_τ3, g2_τ3, g3_τ3, g5_τ3, g6_τ3]]; exact HT
  have MN : J_mn (τ3.1 3) (τ3.1 5) ((τ3.1 7) + 1) (τ3.2.1 4) := by rw [show (J_mn (τ3.1 3) (τ3.1 5) ((τ3.1 7) + 1) (τ3.2.1 4)) = (J_mn (σ.1 3) (σ.1 5) ((σ.1 7) + 1) (σ.2.1 4)) from by rw [w3_τ3, w5_τ3, w7_τ3, g4_τ3]]; exact MN
  have FF : J_ff (τ3.1 5) (τ3.1 7) (τ3.2.1 9) (τ3.2.1 13) (τ3.2.1 14) (τ3.2.1 15) := by rw [show (J_ff (τ3.1 5) (τ3.1 7) (τ3.2.1 9) (τ3.2.1 13) (τ3.2.1 14) (τ3.2.1 15)) = (J_ff (σ.1 5) (σ.1 7) (σ.2.1 9) (σ.2.1 13) (σ.2.1 14) (σ.2.1 15)) from by rw [w5_τ3, w7_τ3, g9_τ3, g13_τ3, g14_τ3, g15_τ3]]; exact FF
  have TX : J_vs (τ3.1 6) (τ3.1 5) (τ3.2.1 15) := by rw [show (J_vs (τ3.1 6) (τ3.1 5) (τ3.2.1 15)) = (J_vs (σ.1 6) (σ.1 5) (σ.2.1 15)) from by rw [w5_τ3, w6_τ3, g15_τ3]]; exact TX
  have RKS : J_rks (τ3.1 5) (τ3.1 4) (τ3.2.1 10) (τ3.2.1 11) := by rw [show (J_rks (τ3.1 5) (τ3.1 4) (τ3.2.1 10) (τ3.2.1 11)) = (J_rks (σ.1 5) (σ.1 4) (σ.2.1 10) (σ.2.1 11)) from by rw [w4_τ3, w5_τ3, g10_τ3, g11_τ3]]; exact RKS
  have CJ : J_all (τ3.1 7) (τ3.1 6) (τ3.1 13) (τ3.1 14) (τ3.1 15) (τ3.2.1 13) (τ3.2.1 14) (τ3.2.1 15) (τ3.2.1 16) (τ3.2.1 10) (τ3.2.1 27) (τ3.2.1 28) (τ3.2.1 29) (τ3.2.1 30) (τ3.2.1 31) (τ3.2.1 32) (τ3.2.1 33) (τ3.2.1 34) (τ3.2.1 35) (τ3.2.1 36) (τ3.2.1 37) := by rw [show (J_all (τ3.1 7) (τ3.1 6) (τ3.1 13) (τ3.1 14) (τ3.1 15) (τ3.2.1 13) (τ3.2.1 14) (τ3.2.1 15) (τ3.2.1 16) (τ3.2.1 10) (τ3.2.1 27) (τ3.2.1 28) (τ3.2.1 29) (τ3.2.1 30) (τ3.2.1 31) (τ3.2.1 32) (τ3.2.1 33) (τ3.2.1 34) (τ3.2.1 35) (τ3.2.1 36) (τ3.2.1 37)) = (J_all (σ.1 7) (σ.1 6) (σ.1 13) (σ.1 14) (σ.1 15) (σ.2.1 13) (σ.2.1 14) (σ.2.1 15) (σ.2.1 16) (σ.2.1 10) (σ.2.1 27) (σ.2.1 28) (σ.2.1 29) (σ.2.1 30) (σ.2.1 31) (σ.2.1 32) (σ.2.1 33) (σ.2.1 34) (σ.2.1 35) (σ.2.1 36) (σ.2.1 37)) from by rw [w6_τ3, w7_τ3, w13_τ3, w14_τ3, w15_τ3, g10_τ3, g13_τ3, g14_τ3, g15_τ3, g16_τ3, g27_τ3, g28_τ3, g29_τ3, g30_τ3, g31_τ3, g32_τ3, g33_τ3, g34_τ3, g35_τ3, g36_τ3, g37_τ3]]; exact CJ
  have A1 : ∀ j, 0 ≤ τ3.2.1 1 j ∧ τ3.2.1 1 j ≤ 999 := fun j => hT.2 1 j
  have A2 : ∀ j, 0 ≤ τ3.2.1 2 j ∧ τ3.2.1 2 j ≤ 65535 := fun j => hT.2 2 j
  have A3 : ∀ j, 0 ≤ τ3.2.1 3 j ∧ τ3.2.1 3 j ≤ 30000 := fun j => hT.2 3 j
  have A4 : ∀ j, (-1000) ≤ τ3.2.1 4 j ∧ τ3.2.1 4 j ≤ 1499 := fun j => hT.2 4 j
  have A5 : ∀ j, 0 ≤ τ3.2.1 5 j ∧ τ3.2.1 5 j ≤ 2500 := fun j => hT.2 5 j
  have A6 : ∀ j, 0 ≤ τ3.2.1 6 j ∧ τ3.2.1 6 j ≤ 2500 := fun j => hT.2 6 j
  have A8 : ∀ j, 0 ≤ τ3.2.1 8 j ∧ τ3.2.1 8 j ≤ 1 := fun j => hT.2 8 j
  have A9 : ∀ j, (-1) ≤ τ3.2.1 9 j ∧ τ3.2.1 9 j ≤ 1499 := fun j => hT.2 9 j
  have A10 : ∀ j, (-1) ≤ τ3.2.1 10 j ∧ τ3.2.1 10 j ≤ 99 := fun j => hT.2 10 j
  have A11 : ∀ j, 0 ≤ τ3.2.1 11 j ∧ τ3.2.1 11 j ≤ 999 := fun j => hT.2 11 j
  have A13 : ∀ j, 0 ≤ τ3.2.1 13 j ∧ τ3.2.1 13 j ≤ 4 := fun j => hT.2 13 j
  have A14 : ∀ j, 0 ≤ τ3.2.1 14 j ∧ τ3.2.1 14 j ≤ 30000 := fun j => hT.2 14 j
  have A15 : ∀ j, 0 ≤ τ3.2.1 15 j ∧ τ3.2.1 15 j ≤ 999 := fun j => hT.2 15 j
  have A16 : ∀ j, (-1) ≤ τ3.2.1 16 j ∧ τ3.2.1 16 j ≤ 1499 := fun j => hT.2 16 j
  have A27 : ∀ j, 0 ≤ τ3.2.1 27 j ∧ τ3.2.1 27 j ≤ 90000 := fun j => hT.2 27 j
  have A28 : ∀ j, 0 ≤ τ3.2.1 28 j ∧ τ3.2.1 28 j ≤ 60 := fun j => hT.2 28 j
  have A29 : ∀ j, 0 ≤ τ3.2.1 29 j ∧ τ3.2.1 29 j ≤ 1499 := fun j => hT.2 29 j
  have A30 : ∀ j, 0 ≤ τ3.2.1 30 j ∧ τ3.2.1 30 j ≤ 20000 := fun j => hT.2 30 j
  have A31 : ∀ j, 0 ≤ τ3.2.1 31 j ∧ τ3.2.1 31 j ≤ 20000 := fun j => hT.2 31 j
  have A32 : ∀ j, 0 ≤ τ3.2.1 32 j ∧ τ3.2.1 32 j ≤ 999999 := fun j => hT.2 32 j
  have A33 : ∀ j, 0 ≤ τ3.2.1 33 j ∧ τ3.2.1 33 j ≤ 20000 := fun j => hT.2 33 j
  have A34 : ∀ j, 0 ≤ τ3.2.1 34 j ∧ τ3.2.1 34 j ≤ 20000 := fun j => hT.2 34 j
  have A35 : ∀ j, 0 ≤ τ3.2.1 35 j ∧ τ3.2.1 35 j ≤ 1499 := fun j => hT.2 35 j
  have A36 : ∀ j, 0 ≤ τ3.2.1 36 j ∧ τ3.2.1 36 j ≤ 20000 := fun j => hT.2 36 j
  have A37 : ∀ j, 0 ≤ τ3.2.1 37 j ∧ τ3.2.1 37 j ≤ 19999 := fun j => hT.2 37 j
  have A67 : ∀ j, 0 ≤ τ3.2.1 67 j ∧ τ3.2.1 67 j ≤ 30000 := fun j => hT.2 67 j
  have A68 : ∀ j, 0 ≤ τ3.2.1 68 j ∧ τ3.2.1 68 j ≤ 30000 := fun j => hT.2 68 j
  have A69 : ∀ j, (-100) ≤ τ3.2.1 69 j ∧ τ3.2.1 69 j ≤ 999 := fun j => hT.2 69 j
  have A70 : ∀ j, 0 ≤ τ3.2.1 70 j ∧ τ3.2.1 70 j ≤ 1499 := fun j => hT.2 70 j
  have A71 : ∀ j, 0 ≤ τ3.2.1 71 j ∧ τ3.2.1 71 j ≤ 1500 := fun j => hT.2 71 j
  have A72 : ∀ j, 0 ≤ τ3.2.1 72 j ∧ τ3.2.1 72 j ≤ 1500 := fun j => hT.2 72 j
  have A73 : ∀ j, 0 ≤ τ3.2.1 73 j ∧ τ3.2.1 73 j ≤ 30000 := fun j => hT.2 73 j
  have A74 : ∀ j, 0 ≤ τ3.2.1 74 j ∧ τ3.2.1 74 j ≤ 30000 := fun j => hT.2 74 j
  have A75 : ∀ j, 0 ≤ τ3.2.1 75 j ∧ τ3.2.1 75 j ≤ 1499 := fun j => hT.2 75 j
  have A76 : ∀ j, 0 ≤ τ3.2.1 76 j ∧ τ3.2.1 76 j ≤ 99 := fun j => hT.2 76 j
  have A77 : ∀ j, 0 ≤ τ3.2.1 77 j ∧ τ3.2.1 77 j ≤ 999 := fun j => hT.2 77 j
  have A78 : ∀ j, (-1) ≤ τ3.2.1 78 j ∧ τ3.2.1 78 j ≤ 1499 := fun j => hT.2 78 j
  have A84 : ∀ j, 0 ≤ τ3.2.1 84 j ∧ τ3.2.1 84 j ≤ 1499 := fun j => hT.2 84 j
  have A87 : ∀ j, 0 ≤ τ3.2.1 87 j ∧ τ3.2.1 87 j ≤ 1499 := fun j => hT.2 87 j
  have v0 : 0 ≤ τ3.1 0 ∧ τ3.1 0 ≤ 60000 := hT.1 0
  have v1 : 0 ≤ τ3.1 1 ∧ τ3.1 1 ≤ 1 := hT.1 1
  have v3 : 0 ≤ τ3.1 3 ∧ τ3.1 3 ≤ 2500 := hT.1 3
  have v4 : 0 ≤ τ3.1 4 ∧ τ3.1 4 ≤ 100 := hT.1 4
  have v5 : 0 ≤ τ3.1 5 ∧ τ3.1 5 ≤ 1000 := hT.1 5
  have v6 : 0 ≤ τ3.1 6 ∧ τ3.1 6 ≤ 30000 := hT.1 6
  have v7 : 0 ≤ τ3.1 7 ∧ τ3.1 7 ≤ 1500 := hT.1 7
  have v13 : 0 ≤ τ3.1 13 ∧ τ3.1 13 ≤ 90000 := hT.1 13
  have v14 : 0 ≤ τ3.1 14 ∧ τ3.1 14 ≤ 20000 := hT.1 14
  have v15 : 0 ≤ τ3.1 15 ∧ τ3.1 15 ≤ 20000 := hT.1 15
  have v45 : 1 ≤ τ3.1 45 ∧ τ3.1 45 ≤ 30001 := hT.1 45
  have v48 : (-1) ≤ τ3.1 48 ∧ τ3.1 48 ≤ 999 := hT.1 48
  have v49 : (-1) ≤ τ3.1 49 ∧ τ3.1 49 ≤ 999 := hT.1 49
  have v50 : 0 ≤ τ3.1 50 ∧ τ3.1 50 ≤ 59 := hT.1 50
  have v51 : 0 ≤ τ3.1 51 ∧ τ3.1 51 ≤ 1500 := hT.1 51
  have v52 : (-1) ≤ τ3.1 52 ∧ τ3.1 52 ≤ 99 := hT.1 52
  have v54 : 0 ≤ τ3.1 54 ∧ τ3.1 54 ≤ 12000 := hT.1 54
  have v55 : 0 ≤ τ3.1 55 ∧ τ3.1 55 ≤ 12000 := hT.1 55
  have gm3 := c_GM_h p7 hf_τ3 rfl rfl rfl
  refine ⟨_, K_X3_isAssertion hT, ?_⟩
  intro x5 r_x5 hq
  obtain ⟨q4_1, q4_2⟩ := hq
  replace q4_1 : 0 ≤ x5 ∧ x5 ≤ 1 := q4_1
  replace q4_2 : ¬ x5 = 0 → 0 ≤ n1 ∧ n1 < (τ3.1 7) ∧ 2 ≤ τ3.2.1 13 n1 := q4_2
  refine ⟨fun c7 => ?_, fun c7 => ?_⟩
  ·
    exact ⟨hT, (show c_GM In0 τ3 from by (first | omega | (simp only [st_s] <;> omega) | assumption | omega | fail)), (show (τ3.1 0) = 0 from by (first | omega | (simp only [st_s] <;> omega) | assumption | omega | fail)), (show (τ3.1 1) = 0 from by (first | omega | (simp only [st_s] <;> omega) | assumption | omega | fail))⟩
  ·
    refine ⟨fun c8 => ?_, fun c8 => ?_⟩
    ·
      refine ⟨fun c9 => ?_, fun c9 => ?_⟩
      ·
        exact ⟨hT, (show c_GM In0 τ3 from by (first | omega | (simp only [st_s] <;> omega) | assumption | omega | fail)), (show (τ3.1 0) = 0 from by (first | omega | (simp only [st_s] <;> omega) | assumption | omega | fail)), (show (τ3.1 1) = 0 from by (first | omega | (simp only [st_s] <;> omega) | assumption | omega | fail))⟩
      ·
        have k13 : 2 ≤ σ.2.1 13 n1 := by rw [← G13]; exact (q4_2 (by assumption)).2.2
        have jf := ((p1.1 n1 (by omega) (by omega)).2.1 k13).1
        refine ⟨_, K_X3_lengthOf hT (show 0 ≤ n1 from by (first | omega | (simp only [st_s] <;> omega) | assumption | omega | fail)) (show n1 < 1500 from by (first | omega | (simp only [st_s] <;> omega) | assumption | omega | fail)), ?_⟩
        intro x11 r_x11 hq
        have q10_1 := hq
        replace q10_1 : x11 = τ3.2.1 14 (n1 + 1) - τ3.2.1 14 n1 := q10_1
        refine ⟨fun c13 => ?_, fun c13 => ?_⟩
        ·
          intro x14 r_x14 e_x14
          have b_x14 : 0 ≤ x14 ∧ x14 ≤ 999 := by rw [e_x14]; exact hT.2 1 _
          have jt := (p1.1 n1 (by omega) (by omega)).1.1
          refine ⟨_, K_X3_typeOf hT (show 0 ≤ n1 from by (first | omega | (simp only [st_s] <;> omega) | assumption | omega | fail)) (show n1 ≤ 1500 from by (first | omega | (simp only [st_s] <;> omega) | assumption | omega | fail)) (show τ3.2.1 14 n1 < 30000 from by (rw [G14]; omega)), ?_⟩
          intro x16 r_x16 hq
          obtain ⟨q15_1, q15_2⟩ := hq
          replace q15_1 : x16 = τ3.2.1 15 (τ3.2.1 14 n1) := q15_1
          replace q15_2 : 0 ≤ x16 ∧ x16 ≤ 999 := q15_2
          refine ⟨fun c18 => ?_, fun c18 => ?_⟩
          ·
            exact ⟨hT, (show c_GM In0 τ3 from by (first | omega | (simp only [st_s] <;> omega) | assumption | omega | fail)), (show (τ3.1 0) = 0 from by (first | omega | (simp only [st_s] <;> omega) | assumption | omega | fail)), (show (τ3.1 1) = 0 from by (first | omega | (simp only [st_s] <;> omega) | assumption | omega | fail))⟩
          ·
            refine ⟨_, K_X12_treesOf hT (show 0 ≤ n1 from by (first | omega | (simp only [st_s] <;> omega) | assumption | omega | fail)) (show n1 < (τ3.1 7) from by (first | omega | (simp only [st_s] <;> omega) | assumption | omega | fail)) (show J_all (τ3.1 7) (τ3.1 6) (τ3.1 13) (τ3.1 14) (τ3.1 15) (τ3.2.1 13) (τ3.2.1 14) (τ3.2.1 15) (τ3.2.1 16) (τ3.2.1 10) (τ3.2.1 27) (τ3.2.1 28) (τ3.2.1 29) (τ3.2.1 30) (τ3.2.1 31) (τ3.2.1 32) (τ3.2.1 33) (τ3.2.1 34) (τ3.2.1 35) (τ3.2.1 36) (τ3.2.1 37) from CJ) (show J_ht (τ3.1 3) (τ3.2.1 2) (τ3.2.1 3) (τ3.2.1 5) (τ3.2.1 6) from HT) (show J_mn (τ3.1 3) (τ3.1 5) ((τ3.1 7) + 1) (τ3.2.1 4) from MN) (show J_rks (τ3.1 5) (τ3.1 4) (τ3.2.1 10) (τ3.2.1 11) from RKS) (show J_vs (τ3.1 6) (τ3.1 5) (τ3.2.1 15) from TX) (show c_GM In0 τ3 from by exact gm3), ?_⟩
            intro x20 τ21 r_x20 hn_τ21 hf_τ21 hq
            obtain ⟨hT, q19_1, q19_2, q19_3, q19_4, q19_5⟩ := hq
            replace q19_1 : -2 ≤ x20 ∧ x20 ≤ 2 := q19_1
            replace q19_2 : c_GM In0 τ21 := q19_2
            replace q19_3 : x20 = 1 → ∃ par nof : Int → Int, ∃ In : Int → Prop, (c_Rs τ21 par nof In ∧ ∀ r : Int, In0 r → In r) ∧ c_GR τ21 par nof In := q19_3
            replace q19_4 : x20 = 1 → τ3.2.1 14 (n1 + 1) ≤ τ3.2.1 14 n1 + 60 := q19_4
            replace q19_5 : x20 = 1 → (τ21.1 49) < (τ3.1 5) := q19_5
            have w0_τ21 : τ21.1 0 = τ3.1 0 := hf_τ21.1 0 (by decide)
            have w1_τ21 : τ21.1 1 = τ3.1 1 := hf_τ21.1 1 (by decide)
            have w3_τ21 : τ21.1 3 = τ3.1 3 := hf_τ21.1 3 (by decide)
            have w4_τ21 : τ21.1 4 = τ3.1 4 := hf_τ21.1 4 (by decide)
            have w5_τ21 : τ21.1 5 = τ3.1 5 := hf_τ21.1 5 (by decide)
            have w6_τ21 : τ21.1 6 = τ3.1 6 := hf_τ21.1 6 (by decide)
            have w7_τ21 : τ21.1 7 = τ3.1 7 := hf_τ21.1 7 (by decide)
            have w13_τ21 : τ21.1 13 = τ3.1 13 := hf_τ21.1 13 (by decide)
            have w14_τ21 : τ21.1 14 = τ3.1 14 := hf_τ21.1 14 (by decide)
            have w15_τ21 : τ21.1 15 = τ3.1 15 := hf_τ21.1 15 (by decide)
            have w54_τ21 : τ21.1 54 = τ3.1 54 := hf_τ21.1 54 (by decide)
            have w55_τ21 : τ21.1 55 = τ3.1 55 := hf_τ21.1 55 (by decide)
            have g1_τ21 : τ21.2.1 1 = τ3.2.1 1 := hf_τ21.2.1 1 (by decide)
            have g2_τ21 : τ21.2.1 2 = τ3.2.1 2 := hf_τ21.2.1 2 (by decide)
            have g3_τ21 : τ21.2.1 3 = τ3.2.1 3 := hf_τ21.2.1 3 (by decide)
            have g4_τ21 : τ21.2.1 4 = τ3.2.1 4 := hf_τ21.2.1 4 (by decide)
            have g5_τ21 : τ21.2.1 5 = τ3.2.1 5 := hf_τ21.2.1 5 (by decide)
            have g6_τ21 : τ21.2.1 6 = τ3.2.1 6 := hf_τ21.2.1 6 (by decide)
            have g8_τ21 : τ21.2.1 8 = τ3.2.1 8 := hf_τ21.2.1 8 (by decide)
            have g9_τ21 : τ21.2.1 9 = τ3.2.1 9 := hf_τ21.2.1 9 (by decide)
            have g10_τ21 : τ21.2.1 10 = τ3.2.1 10 := hf_τ21.2.1 10 (by decide)
            have g11_τ21 : τ21.2.1 11 = τ3.2.1 11 := hf_τ21.2.1 11 (by decide)
            have g13_τ21 : τ21.2.1 13 = τ3.2.1 13 := hf_τ21.2.1 13 (by decide)
            have g14_τ21 : τ21.2.1 14 = τ3.2.1 14 := hf_τ21.2.1 14 (by decide)
            have g15_τ21 : τ21.2.1 15 = τ3.2.1 15 := hf_τ21.2.1 15 (by decide)
            have g16_τ21 : τ21.2.1 16 = τ3.2.1 16 := hf_τ21.2.1 16 (by decide)
            have g27_τ21 : τ21.2.1 27 = τ3.2.1 27 := hf_τ21.2.1 27 (by decide)
            have g28_τ21 : τ21.2.1 28 = τ3.2.1 28 := hf_τ21.2.1 28 (by decide)
            have g29_τ21 : τ21.2.1 29 = τ3.2.1 29 := hf_τ21.2.1 29 (by decide)
            have g30_τ21 : τ21.2.1 30 = τ3.2.1 30 := hf_τ21.2.1 30 (by decide)
            have g31_τ21 : τ21.2.1 31 = τ3.2.1 31 := hf_τ21.2.1 31 (by decide)
            have g32_τ21 : τ21.2.1 32 = τ3.2.1 32 := hf_τ21.2.1 32 (by decide)
            have g33_τ21 : τ21.2.1 33 = τ3.2.1 33 := hf_τ21.2.1 33 (by decide)
            have g34_τ21 : τ21.2.1 34 = τ3.2.1 34 := hf_τ21.2.1 34 (by decide)
            have g35_τ21 : τ21.2.1 35 = τ3.2.1 35 := hf_τ21.2.1 35 (by decide)
            have g36_τ21 : τ21.2.1 36 = τ3.2.1 36 := hf_τ21.2.1 36 (by decide)
            have g37_τ21 : τ21.2.1 37 = τ3.2.1 37 := hf_τ21.2.1 37 (by decide)
            have g84_τ21 : τ21.2.1 84 = τ3.2.1 84 := hf_τ21.2.1 84 (by decide)
            have g87_τ21 : τ21.2.1 87 = τ3.2.1 87 := hf_τ21.2.1 87 (by decide)
            have W3 : τ21.1 3 = σ.1 3 := by first | exact w3_τ21.trans W3 | omega
            have W4 : τ21.1 4 = σ.1 4 := by first | exact w4_τ21.trans W4 | omega
            have W5 : τ21.1 5 = σ.1 5 := by first | exact w5_τ21.trans W5 | omega
            have W6 : τ21.1 6 = σ.1 6 := by first | exact w6_τ21.trans W6 | omega
            have W7 : τ21.1 7 = σ.1 7 := by first | exact w7_τ21.trans W7 | omega
            have W13 : τ21.1 13 = σ.1 13 := by first | exact w13_τ21.trans W13 | omega
            have W14 : τ21.1 14 = σ.1 14 := by first | exact w14_τ21.trans W14 | omega
            have W15 : τ21.1 15 = σ.1 15 := by first | exact w15_τ21.trans W15 | omega
            have G2 : τ21.2.1 2 = σ.2.1 2 := (g2_τ21).trans G2
            have G3 : τ21.2.1 3 = σ.2.1 3 := (g3_τ21).trans G3
            have G4 : τ21.2.1 4 = σ.2.1 4 := (g4_τ21).trans G4
            have G5 : τ21.2.1 5 = σ.2.1 5 := (g5_τ21).trans G5
            have G6 : τ21.2.1 6 = σ.2.1 6 := (g6_τ21).trans G6
            have G8 : τ21.2.1 8 = σ.2.1 8 := (g8_τ21).trans G8
            have G9 : τ21.2.1 9 = σ.2.1 9 := (g9_τ21).trans G9
            have G10 : τ21.2.1 10 = σ.2.1 10 := (g10_τ21).trans G10
            have G11 : τ21.2.1 11 = σ.2.1 11 := (g11_τ21).trans G11
            have G13 : τ21.2.1 13 = σ.2.1 13 := (g13_τ21).trans G13
            have G14 : τ21.2.1 14 = σ.2.1 14 := (g14_τ21).trans G14
            have G15 : τ21.2.1 15 = σ.2.1 15 := (g15_τ21).trans G15
            have G16 : τ21.2.1 16 = σ.2.1 16 := (g16_τ21).trans G16
            have G27 : τ21.2.1 27 = σ.2.1 27 := (g27_τ21).trans G27
            have G28 : τ21.2.1 28 = σ.2.1 28 := (g28_τ21).trans G28
            have G29 : τ21.2.1 29 = σ.2.1 29 := (g29_τ21).trans G29
            have G30 : τ21.2.1 30 = σ.2.1 30 := (g30_τ21).trans G30
            have G31 : τ21.2.1 31 = σ.2.1 31 := (g31_τ21).trans G31
            have G32 : τ21.2.1 32 = σ.2.1 32 := (g32_τ21).trans G32
            have G33 : τ21.2.1 33 = σ.2.1 33 := (g33_τ21).trans G33
            have G34 : τ21.2.1 34 = σ.2.1 34 := (g34_τ21).trans G34
            have G35 : τ21.2.1 35 = σ.2.1 35 := (g35_τ21).trans G35
            have G36 : τ21.2.1 36 = σ.2.1 36 := (g36_τ21).trans G36
            have G37 : τ21.2.1 37 = σ.2.1 37 := (g37_τ21).trans G37
            have HT : J_ht (τ21.1 3) (τ21.2.1 2) (τ21.2.1 3) (τ21.2.1 5) (τ21.2.1 6) := by rw [show (J_ht (τ21.1 3) (τ21.2.1 2) (τ21.2.1 3) (τ21.2.1 5) (τ21.2.1 6)) = (J_ht (τ3.1 3) (τ3.2.1 2) (τ3.2.1 3) (τ3.2.1 5) (τ3.2.1 6)) from by rw [w3_τ21, g2_τ21, g3_τ21, g5_τ21, g6_τ21]]; exact HT
            have MN : J_mn (τ21.1 3) (τ21.1 5) ((τ21.1 7) + 1) (τ21.2.1 4) := by rw [show (J_mn (τ21.1 3) (τ21.1 5) ((τ21.1 7) + 1) (τ21.2.1 4)) = (J_mn (τ3.1 3) (τ3.1 5) ((τ3.1 7) + 1) (τ3.2.1 4)) from by rw [w3_τ21, w5_τ21, w7_τ21, g4_τ21]]; exact MN
            have FF : J_ff (τ21.1 5) (τ21.1 7) (τ21.2.1 9) (τ21.2.1 13) (τ21.2.1 14) (τ21.2.1 15) := by rw [show (J_ff (τ21.1 5) (τ21.1 7) (τ21.2.1 9) (τ21.2.1 13) (τ21.2.1 14) (τ21.2.1 15)) = (J_ff (τ3.1 5) (τ3.1 7) (τ3.2.1 9) (τ3.2.1 13) (τ3.2.1 14) (τ3.2.1 15)) from by rw [w5_τ21, w7_τ21, g9_τ21, g13_τ21, g14_τ21, g15_τ21]]; exact FF
            have TX : J_vs (τ21.1 6) (τ21.1 5) (τ21.2.1 15) := by rw [show (J_vs (τ21.1 6) (τ21.1 5) (τ21.2.1 15)) = (J_vs (τ3.1 6) (τ3.1 5) (τ3.2.1 15)) from by rw [w5_τ21, w6_τ21, g15_τ21]]; exact TX
            have RKS : J_rks (τ21.1 5) (τ21.1 4) (τ21.2.1 10) (τ21.2.1 11) := by rw [show (J_rks (τ21.1 5) (τ21.1 4) (τ21.2.1 10) (τ21.2.1 11)) = (J_rks (τ3.1 5) (τ3.1 4) (τ3.2.1 10) (τ3.2.1 11)) from by rw [w4_τ21, w5_τ21, g10_τ21, g11_τ21]]; exact RKS
            have CJ : J_all (τ21.1 7) (τ21.1 6) (τ21.1 13) (τ21.1 14) (τ21.1 15) (τ21.2.1 13) (τ21.2.1 14) (τ21.2.1 15) (τ21.2.1 16) (τ21.2.1 10) (τ21.2.1 27) (τ21.2.1 28) (τ21.2.1 29) (τ21.2.1 30) (τ21.2.1 31) (τ21.2.1 32) (τ21.2.1 33) (τ21.2.1 34) (τ21.2.1 35) (τ21.2.1 36) (τ21.2.1 37) := by rw [show (J_all (τ21.1 7) (τ21.1 6) (τ21.1 13) (τ21.1 14) (τ21.1 15) (τ21.2.1 13) (τ21.2.1 14) (τ21.2.1 15) (τ21.2.1 16) (τ21.2.1 10) (τ21.2.1 27) (τ21.2.1 28) (τ21.2.1 29) (τ21.2.1 30) (τ21.2.1 31) (τ21.2.1 32) (τ21.2.1 33) (τ21.2.1 34) (τ21.2.1 35) (τ21.2.1 36) (τ21.2.1 37)) = (J_all (τ3.1 7) (τ3.1 6) (τ3.1 13) (τ3.1 14) (τ3.1 15) (τ3.2.1 13) (τ3.2.1 14) (τ3.2.1 15) (τ3.2.1 16) (τ3.2.1 10) (τ3.2.1 27) (τ3.2.1 28) (τ3.2.1 29) (τ3.2.1 30) (τ3.2.1 31) (τ3.2.1 32) (τ3.2.1 33) (τ3.2.1 34) (τ3.2.1 35) (τ3.2.1 36) (τ3.2.1 37)) from by rw [w6_τ21, w7_τ21, w13_τ21, w14_τ21, w15_τ21, g10_τ21, g13_τ21, g14_τ21, g15_τ21, g16_τ21, g27_τ21, g28_τ21, g29_τ21, g30_τ21, g31_τ21, g32_τ21, g33_τ21, g34_τ21, g35_τ21, g36_τ21, g37_τ21]]; exact CJ
            have A1 : ∀ j, 0 ≤ τ21.2.1 1 j ∧ τ21.2.1 1 j ≤ 999 := fun j => hT.2 1 j
            have A2 : ∀ j, 0 ≤ τ21.2.1 2 j ∧ τ21.2.1 2 j ≤ 65535 := fun j => hT.2 2 j
            have A3 : ∀ j, 0 ≤ τ21.2.1 3 j ∧ τ21.2.1 3 j ≤ 30000 := fun j => hT.2 3 j
            have A4 : ∀ j, (-1000) ≤ τ21.2.1 4 j ∧ τ21.2.1 4 j ≤ 1499 := fun j => hT.2 4 j
            have A5 : ∀ j, 0 ≤ τ21.2.1 5 j ∧ τ21.2.1 5 j ≤ 2500 := fun j => hT.2 5 j
            have A6 : ∀ j, 0 ≤ τ21.2.1 6 j ∧ τ21.2.1 6 j ≤ 2500 := fun j => hT.2 6 j
            have A8 : ∀ j, 0 ≤ τ21.2.1 8 j ∧ τ21.2.1 8 j ≤ 1 := fun j => hT.2 8 j
            have A9 : ∀ j, (-1) ≤ τ21.2.1 9 j ∧ τ21.2.1 9 j ≤ 1499 := fun j => hT.2 9 j
            have A10 : ∀ j, (-1) ≤ τ21.2.1 10 j ∧ τ21.2.1 10 j ≤ 99 := fun j => hT.2 10 j
            have A11 : ∀ j, 0 ≤ τ21.2.1 11 j ∧ τ21.2.1 11 j ≤ 999 := fun j => hT.2 11 j
            have A13 : ∀ j, 0 ≤ τ21.2.1 13 j ∧ τ21.2.1 13 j ≤ 4 := fun j => hT.2 13 j
            have A14 : ∀ j, 0 ≤ τ21.2.1 14 j ∧ τ21.2.1 14 j ≤ 30000 := fun j => hT.2 14 j
            have A15 : ∀ j, 0 ≤ τ21.2.1 15 j ∧ τ21.2.1 15 j ≤ 999 := fun j => hT.2 15 j
            have A16 : ∀ j, (-1) ≤ τ21.2.1 16 j ∧ τ21.2.1 16 j ≤ 1499 := fun j => hT.2 16 j
            have A27 : ∀ j, 0 ≤ τ21.2.1 27 j ∧ τ21.2.1 27 j ≤ 90000 := fun j => hT.2 27 j
            have A28 : ∀ j, 0 ≤ τ21.2.1 28 j ∧ τ21.2.1 28 j ≤ 60 := fun j => hT.2 28 j
            have A29 : ∀ j, 0 ≤ τ21.2.1 29 j ∧ τ21.2.1 29 j ≤ 1499 := fun j => hT.2 29 j
            have A30 : ∀ j, 0 ≤ τ21.2.1 30 j ∧ τ21.2.1 30 j ≤ 20000 := fun j => hT.2 30 j
            have A31 : ∀ j, 0 ≤ τ21.2.1 31 j ∧ τ21.2.1 31 j ≤ 20000 := fun j => hT.2 31 j
            have A32 : ∀ j, 0 ≤ τ21.2.1 32 j ∧ τ21.2.1 32 j ≤ 999999 := fun j => hT.2 32 j
            have A33 : ∀ j, 0 ≤ τ21.2.1 33 j ∧ τ21.2.1 33 j ≤ 20000 := fun j => hT.2 33 j
            have A34 : ∀ j, 0 ≤ τ21.2.1 34 j ∧ τ21.2.1 34 j ≤ 20000 := fun j => hT.2 34 j
            have A35 : ∀ j, 0 ≤ τ21.2.1 35 j ∧ τ21.2.1 35 j ≤ 1499 := fun j => hT.2 35 j
            have A36 : ∀ j, 0 ≤ τ21.2.1 36 j ∧ τ21.2.1 36 j ≤ 20000 := fun j => hT.2 36 j
            have A37 : ∀ j, 0 ≤ τ21.2.1 37 j ∧ τ21.2.1 37 j ≤ 19999 := fun j => hT.2 37 j
            have A67 : ∀ j, 0 ≤ τ21.2.1 67 j ∧ τ21.2.1 67 j ≤ 30000 := fun j => hT.2 67 j
            have A68 : ∀ j, 0 ≤ τ21.2.1 68 j ∧ τ21.2.1 68 j ≤ 30000 := fun j => hT.2 68 j
            have A69 : ∀ j, (-100) ≤ τ21.2.1 69 j ∧ τ21.2.1 69 j ≤ 999 := fun j => hT.2 69 j
            have A70 : ∀ j, 0 ≤ τ21.2.1 70 j ∧ τ21.2.1 70 j ≤ 1499 := fun j => hT.2 70 j
            have A71 : ∀ j, 0 ≤ τ21.2.1 71 j ∧ τ21.2.1 71 j ≤ 1500 := fun j => hT.2 71 j
            have A72 : ∀ j, 0 ≤ τ21.2.1 72 j ∧ τ21.2.1 72 j ≤ 1500 := fun j => hT.2 72 j
            have A73 : ∀ j, 0 ≤ τ21.2.1 73 j ∧ τ21.2.1 73 j ≤ 30000 := fun j => hT.2 73 j
            have A74 : ∀ j, 0 ≤ τ21.2.1 74 j ∧ τ21.2.1 74 j ≤ 30000 := fun j => hT.2 74 j
            have A75 : ∀ j, 0 ≤ τ21.2.1 75 j ∧ τ21.2.1 75 j ≤ 1499 := fun j => hT.2 75 j
            have A76 : ∀ j, 0 ≤ τ21.2.1 76 j ∧ τ21.2.1 76 j ≤ 99 := fun j => hT.2 76 j
            have A77 : ∀ j, 0 ≤ τ21.2.1 77 j ∧ τ21.2.1 77 j ≤ 999 := fun j => hT.2 77 j
            have A78 : ∀ j, (-1) ≤ τ21.2.1 78 j ∧ τ21.2.1 78 j ≤ 1499 := fun j => hT.2 78 j
            have A84 : ∀ j, 0 ≤ τ21.2.1 84 j ∧ τ21.2.1 84 j ≤ 1499 := fun j => hT.2 84 j
            have A87 : ∀ j, 0 ≤ τ21.2.1 87 j ∧ τ21.2.1 87 j ≤ 1499 := fun j => hT.2 87 j
            have v0 : 0 ≤ τ21.1 0 ∧ τ21.1 0 ≤ 60000 := hT.1 0
            have v1 : 0 ≤ τ21.1 1 ∧ τ21.1 1 ≤ 1 := hT.1 1
            have v3 : 0 ≤ τ21.1 3 ∧ τ21.1 3 ≤ 2500 := hT.1 3
            have v4 : 0 ≤ τ21.1 4 ∧ τ21.1 4 ≤ 100 := hT.1 4
            have v5 : 0 ≤ τ21.1 5 ∧ τ21.1 5 ≤ 1000 := hT.1 5
            have v6 : 0 ≤ τ21.1 6 ∧ τ21.1 6 ≤ 30000 := hT.1 6
            have v7 : 0 ≤ τ21.1 7 ∧ τ21.1 7 ≤ 1500 := hT.1 7
            have v13 : 0 ≤ τ21.1 13 ∧ τ21.1 13 ≤ 90000 := hT.1 13
            have v14 : 0 ≤ τ21.1 14 ∧ τ21.1 14 ≤ 20000 := hT.1 14
            have v15 : 0 ≤ τ21.1 15 ∧ τ21.1 15 ≤ 20000 := hT.1 15
            have v45 : 1 ≤ τ21.1 45 ∧ τ21.1 45 ≤ 30001 := hT.1 45
            have v48 : (-1) ≤ τ21.1 48 ∧ τ21.1 48 ≤ 999 := hT.1 48
            have v49 : (-1) ≤ τ21.1 49 ∧ τ21.1 49 ≤ 999 := hT.1 49
            have v50 : 0 ≤ τ21.1 50 ∧ τ21.1 50 ≤ 59 := hT.1 50
            have v51 : 0 ≤ τ21.1 51 ∧ τ21.1 51 ≤ 1500 := hT.1 51
            have v52 : (-1) ≤ τ21.1 52 ∧ τ21.1 52 ≤ 99 := hT.1 52
            have v54 : 0 ≤ τ21.1 54 ∧ τ21.1 54 ≤ 12000 := hT.1 54
            have v55 : 0 ≤ τ21.1 55 ∧ τ21.1 55 ≤ 12000 := hT.1 55
            have wf21 := q19_5
            refine ⟨fun c22 => ?_, fun c22 => ?_⟩
            ·
              obtain ⟨par, nof, In, ⟨rs, hI⟩, gr⟩ := q19_3 (by assumption)
              refine ⟨_, K_X11_grow hT (show J_all (τ21.1 7) (τ21.1 6) (τ21.1 13) (τ21.1 14) (τ21.1 15) (τ21.2.1 13) (τ21.2.1 14) (τ21.2.1 15) (τ21.2.1 16) (τ21.2.1 10) (τ21.2.1 27) (τ21.2.1 28) (τ21.2.1 29) (τ21.2.1 30) (τ21.2.1 31) (τ21.2.1 32) (τ21.2.1 33) (τ21.2.1 34) (τ21.2.1 35) (τ21.2.1 36) (τ21.2.1 37) from CJ) (show c_Rs τ21 par nof In from by exact rs) (show J_rks (τ21.1 5) (τ21.1 4) (τ21.2.1 10) (τ21.2.1 11) from RKS) (show J_vs (τ21.1 6) (τ21.1 5) (τ21.2.1 15) from TX) (show ∀ i : Int, 0 ≤ i → i < (τ21.1 50) → 0 ≤ τ21.2.1 78 i → τ21.2.1 78 i < (τ21.1 7) ∧ τ21.2.1 13 (τ21.2.1 78 i) = 0 from by exact gr.1) (show ∀ i : Int, 0 ≤ i → i < (τ21.1 50) → g_ok (τ21.1 45) (τ21.1 50) (τ21.1 4) (τ21.1 51) i (τ21.2.1 77) (τ21.2.1 69) par (τ21.2.1 70) nof (g_so (τ21.1 48) (τ21.2.1 14) (τ21.2.1 15) (τ21.2.1 10)) (τ21.2.1 78) In (τ21.2.2 4) (τ21.2.2 5) (τ21.2.1 79) from by exact gr.2.1) (show 0 ≤ (τ21.1 52) ∧ (τ21.1 52) < (τ21.1 4) from by exact gr.2.2.1) (show 0 < (τ21.1 50) from by exact gr.2.2.2.1) (show g_H (τ21.2.2 4) (τ21.1 52) 0 (τ21.1 50) ∧ ¬ g_H (τ21.2.2 5) (τ21.1 52) 0 (τ21.1 50) from by exact gr.2.2.2.2.1) (show g_wu (τ21.1 50) (τ21.2.1 77) (τ21.2.2 3) from by exact gr.2.2.2.2.2.1), ?_⟩
              intro τ25 hn_τ25 hf_τ25 hq
              obtain ⟨hT, q23_1, q23_2⟩ := hq
              replace q23_1 : g_tre (τ25.1 7) (τ25.1 54) (τ25.2.1 13) (τ25.2.1 14) (τ25.2.1 27) (τ25.2.1 28) (τ25.2.1 29) (τ25.2.1 84) := q23_1
              replace q23_2 : g_T (τ21.1 50) (τ21.1 51) (τ21.1 48) (τ21.2.1 77) (τ21.2.1 78) (τ21.2.1 13) (τ21.2.1 14) (τ21.2.1 15) (τ21.2.1 16) (τ21.2.1 10) (τ21.2.1 27) (τ21.2.1 28) (τ21.2.1 29) In (τ21.1 52) 0 (τ21.1 50) (g_pre (τ25.2.1 84) ((τ25.1 54)).toNat) := q23_2
              have w0_τ25 : τ25.1 0 = τ21.1 0 := hf_τ25.1 0 (by decide)
              have w1_τ25 : τ25.1 1 = τ21.1 1 := hf_τ25.1 1 (by decide)
              have w3_τ25 : τ25.1 3 = τ21.1 3 := hf_τ25.1 3 (by decide)
              have w4_τ25 : τ25.1 4 = τ21.1 4 := hf_τ25.1 4 (by decide)
              have w5_τ25 : τ25.1 5 = τ21.1 5 := hf_τ25.1 5 (by decide)
              have w6_τ25 : τ25.1 6 = τ21.1 6 := hf_τ25.1 6 (by decide)
              have w7_τ25 : τ25.1 7 = τ21.1 7 := hf_τ25.1 7 (by decide)
              have w13_τ25 : τ25.1 13 = τ21.1 13 := hf_τ25.1 13 (by decide)
              have w14_τ25 : τ25.1 14 = τ21.1 14 := hf_τ25.1 14 (by decide)
              have w15_τ25 : τ25.1 15 = τ21.1 15 := hf_τ25.1 15 (by decide)
              have w45_τ25 : τ25.1 45 = τ21.1 45 := hf_τ25.1 45 (by decide)
              have w48_τ25 : τ25.1 48 = τ21.1 48 := hf_τ25.1 48 (by decide)
              have w49_τ25 : τ25.1 49 = τ21.1 49 := hf_τ25.1 49 (by decide)
              have w50_τ25 : τ25.1 50 = τ21.1 50 := hf_τ25.1 50 (by decide)
              have w51_τ25 : τ25.1 51 = τ21.1 51 := hf_τ25.1 51 (by decide)
              have w52_τ25 : τ25.1 52 = τ21.1 52 := hf_τ25.1 52 (by decide)
              have w55_τ25 : τ25.1 55 = τ21.1 55 := hf_τ25.1 55 (by decide)
              have g1_τ25 : τ25.2.1 1 = τ21.2.1 1 := hf_τ25.2.1 1 (by decide)
              have g2_τ25 : τ25.2.1 2 = τ21.2.1 2 := hf_τ25.2.1 2 (by decide)
              have g3_τ25 : τ25.2.1 3 = τ21.2.1 3 := hf_τ25.2.1 3 (by decide)
              have g4_τ25 : τ25.2.1 4 = τ21.2.1 4 := hf_τ25.2.1 4 (by decide)
              have g5_τ25 : τ25.2.1 5 = τ21.2.1 5 := hf_τ25.2.1 5 (by decide)
              have g6_τ25 : τ25.2.1 6 = τ21.2.1 6 := hf_τ25.2.1 6 (by decide)
              have g8_τ25 : τ25.2.1 8 = τ21.2.1 8 := hf_τ25.2.1 8 (by decide)
              have g9_τ25 : τ25.2.1 9 = τ21.2.1 9 := hf_τ25.2.1 9 (by decide)
              have g10_τ25 : τ25.2.1 10 = τ21.2.1 10 := hf_τ25.2.1 10 (by decide)
              have g11_τ25 : τ25.2.1 11 = τ21.2.1 11 := hf_τ25.2.1 11 (by decide)
              have g13_τ25 : τ25.2.1 13 = τ21.2.1 13 := hf_τ25.2.1 13 (by decide)
              have g14_τ25 : τ25.2.1 14 = τ21.2.1 14 := hf_τ25.2.1 14 (by decide)
              have g15_τ25 : τ25.2.1 15 = τ21.2.1 15 := hf_τ25.2.1 15 (by decide)
              have g16_τ25 : τ25.2.1 16 = τ21.2.1 16 := hf_τ25.2.1 16 (by decide)
              have g27_τ25 : τ25.2.1 27 = τ21.2.1 27 := hf_τ25.2.1 27 (by decide)
              have g28_τ25 : τ25.2.1 28 = τ21.2.1 28 := hf_τ25.2.1 28 (by decide)
              have g29_τ25 : τ25.2.1 29 = τ21.2.1 29 := hf_τ25.2.1 29 (by decide)
              have g30_τ25 : τ25.2.1 30 = τ21.2.1 30 := hf_τ25.2.1 30 (by decide)
              have g31_τ25 : τ25.2.1 31 = τ21.2.1 31 := hf_τ25.2.1 31 (by decide)
              have g32_τ25 : τ25.2.1 32 = τ21.2.1 32 := hf_τ25.2.1 32 (by decide)
              have g33_τ25 : τ25.2.1 33 = τ21.2.1 33 := hf_τ25.2.1 33 (by decide)
              have g34_τ25 : τ25.2.1 34 = τ21.2.1 34 := hf_τ25.2.1 34 (by decide)
              have g35_τ25 : τ25.2.1 35 = τ21.2.1 35 := hf_τ25.2.1 35 (by decide)
              have g36_τ25 : τ25.2.1 36 = τ21.2.1 36 := hf_τ25.2.1 36 (by decide)
              have g37_τ25 : τ25.2.1 37 = τ21.2.1 37 := hf_τ25.2.1 37 (by decide)
              have g67_τ25 : τ25.2.1 67 = τ21.2.1 67 := hf_τ25.2.1 67 (by decide)
              have g68_τ25 : τ25.2.1 68 = τ21.2.1 68 := hf_τ25.2.1 68 (by decide)
              have g69_τ25 : τ25.2.1 69 = τ21.2.1 69 := hf_τ25.2.1 69 (by decide)
              have g70_τ25 : τ25.2.1 70 = τ21.2.1 70 := hf_τ25.2.1 70 (by decide)
              have g71_τ25 : τ25.2.1 71 = τ21.2.1 71 := hf_τ25.2.1 71 (by decide)
              have g72_τ25 : τ25.2.1 72 = τ21.2.1 72 := hf_τ25.2.1 72 (by decide)
              have g73_τ25 : τ25.2.1 73 = τ21.2.1 73 := hf_τ25.2.1 73 (by decide)
              have g74_τ25 : τ25.2.1 74 = τ21.2.1 74 := hf_τ25.2.1 74 (by decide)
              have g75_τ25 : τ25.2.1 75 = τ21.2.1 75 := hf_τ25.2.1 75 (by decide)
              have g76_τ25 : τ25.2.1 76 = τ21.2.1 76 := hf_τ25.2.1 76 (by decide)
              have g77_τ25 : τ25.2.1 77 = τ21.2.1 77 := hf_τ25.2.1 77 (by decide)
              have g78_τ25 : τ25.2.1 78 = τ21.2.1 78 := hf_τ25.2.1 78 (by decide)
              have g87_τ25 : τ25.2.1 87 = τ21.2.1 87 := hf_τ25.2.1 87 (by decide)
              have W3 : τ25.1 3 = σ.1 3 := by first | exact w3_τ25.trans W3 | omega
              have W4 : τ25.1 4 = σ.1 4 := by first | exact w4_τ25.trans W4 | omega
              have W5 : τ25.1 5 = σ.1 5 := by first | exact w5_τ25.trans W5 | omega
              have W6 : τ25.1 6 = σ.1 6 := by first | exact w6_τ25.trans W6 | omega
              have W7 : τ25.1 7 = σ.1 7 := by first | exact w7_τ25.trans W7 | omega
              have W13 : τ25.1 13 = σ.1 13 := by first | exact w13_τ25.trans W13 | omega
              have W14 : τ25.1 14 = σ.1 14 := by first | exact w14_τ25.trans W14 | omega
              have W15 : τ25.1 15 = σ.1 15 := by first | exact w15_τ25.trans W15 | omega
              have G2 : τ25.2.1 2 = σ.2.1 2 := (g2_τ25).trans G2
              have G3 : τ25.2.1 3 = σ.2.1 3 := (g3_τ25).trans G3
              have G4 : τ25.2.1 4 = σ.2.1 4 := (g4_τ25).trans G4
              have G5 : τ25.2.1 5 = σ.2.1 5 := (g5_τ25).trans G5
              have G6 : τ25.2.1 6 = σ.2.1 6 := (g6_τ25).trans G6
              have G8 : τ25.2.1 8 = σ.2.1 8 := (g8_τ25).trans G8
              have G9 : τ25.2.1 9 = σ.2.1 9 := (g9_τ25).trans G9
              have G10 : τ25.2.1 10 = σ.2.1 10 := (g10_τ25).trans G10
              have G11 : τ25.2.1 11 = σ.2.1 11 := (g11_τ25).trans G11
              have G13 : τ25.2.1 13 = σ.2.1 13 := (g13_τ25).trans G13
              have G14 : τ25.2.1 14 = σ.2.1 14 := (g14_τ25).trans G14
              have G15 : τ25.2.1 15 = σ.2.1 15 := (g15_τ25).trans G15
              have G16 : τ25.2.1 16 = σ.2.1 16 := (g16_τ25).trans G16
              have G27 : τ25.2.1 27 = σ.2.1 27 := (g27_τ25).trans G27
              have G28 : τ25.2.1 28 = σ.2.1 28 := (g28_τ25).trans G28
              have G29 : τ25.2.1 29 = σ.2.1 29 := (g29_τ25).trans G29
              have G30 : τ25.2.1 30 = σ.2.1 30 := (g30_τ25).trans G30
              have G31 : τ25.2.1 31 = σ.2.1 31 := (g31_τ25).trans G31
              have G32 : τ25.2.1 32 = σ.2.1 32 := (g32_τ25).trans G32
              have G33 : τ25.2.1 33 = σ.2.1 33 := (g33_τ25).trans G33
              have G34 : τ25.2.1 34 = σ.2.1 34 := (g34_τ25).trans G34
              have G35 : τ25.2.1 35 = σ.2.1 35 := (g35_τ25).trans G35
              have G36 : τ25.2.1 36 = σ.2.1 36 := (g36_τ25).trans G36
              have G37 : τ25.2.1 37 = σ.2.1 37 := (g37_τ25).trans G37
              have HT : J_ht (τ25.1 3) (τ25.2.1 2) (τ25.2.1 3) (τ25.2.1 5) (τ25.2.1 6) := by rw [show (J_ht (τ25.1 3) (τ25.2.1 2) (τ25.2.1 3) (τ25.2.1 5) (τ25.2.1 6)) = (J_ht (τ21.1 3) (τ21.2.1 2) (τ21.2.1 3) (τ21.2.1 5) (τ21.2.1 6)) from by rw [w3_τ25, g2_τ25, g3_τ25, g5_τ25, g6_τ25]]; exact HT
              have MN : J_mn (τ25.1 3) (τ25.1 5) ((τ25.1 7) + 1) (τ25.2.1 4) := by rw [show (J_mn (τ25.1 3) (τ25.1 5) ((τ25.1 7) + 1) (τ25.2.1 4)) = (J_mn (τ21.1 3) (τ21.1 5) ((τ21.1 7) + 1) (τ21.2.1 4)) from by rw [w3_τ25, w5_τ25, w7_τ25, g4_τ25]]; exact MN
              have FF : J_ff (τ25.1 5) (τ25.1 7) (τ25.2.1 9) (τ25.2.1 13) (τ25.2.1 14) (τ25.2.1 15) := by rw [show (J_ff (τ25.1 5) (τ25.1 7) (τ25.2.1 9) (τ25.2.1 13) (τ25.2.1 14) (τ25.2.1 15)) = (J_ff (τ21.1 5) (τ21.1 7) (τ21.2.1 9) (τ21.2.1 13) (τ21.2.1 14) (τ21.2.1 15)) from by rw [w5_τ25, w7_τ25, g9_τ25, g13_τ25, g14_τ25, g15_τ25]]; exact FF
              have TX : J_vs (τ25.1 6) (τ25.1 5) (τ25.2.1 15) := by rw [show (J_vs (τ25.1 6) (τ25.1 5) (τ25.2.1 15)) = (J_vs (τ21.1 6) (τ21.1 5) (τ21.2.1 15)) from by rw [w5_τ25, w6_τ25, g15_τ25]]; exact TX
              have RKS : J_rks (τ25.1 5) (τ25.1 4) (τ25.2.1 10) (τ25.2.1 11) := by rw [show (J_rks (τ25.1 5) (τ25.1 4) (τ25.2.1 10) (τ25.2.1 11)) = (J_rks (τ21.1 5) (τ21.1 4) (τ21.2.1 10) (τ21.2.1 11)) from by rw [w4_τ25, w5_τ25, g10_τ25, g11_τ25]]; exact RKS
              have CJ : J_all (τ25.1 7) (τ25.1 6) (τ25.1 13) (τ25.1 14) (τ25.1 15) (τ25.2.1 13) (τ25.2.1 14) (τ25.2.1 15) (τ25.2.1 16) (τ25.2.1 10) (τ25.2.1 27) (τ25.2.1 28) (τ25.2.1 29) (τ25.2.1 30) (τ25.2.1 31) (τ25.2.1 32) (τ25.2.1 33) (τ25.2.1 34) (τ25.2.1 35) (τ25.2.1 36) (τ25.2.1 37) := by rw [show (J_all (τ25.1 7) (τ25.1 6) (τ25.1 13) (τ25.1 14) (τ25.1 15) (τ25.2.1 13) (τ25.2.1 14) (τ25.2.1 15) (τ25.2.1 16) (τ25.2.1 10) (τ25.2.1 27) (τ25.2.1 28) (τ25.2.1 29) (τ25.2.1 30) (τ25.2.1 31) (τ25.2.1 32) (τ25.2.1 33) (τ25.2.1 34) (τ25.2.1 35) (τ25.2.1 36) (τ25.2.1 37)) = (J_all (τ21.1 7) (τ21.1 6) (τ21.1 13) (τ21.1 14) (τ21.1 15) (τ21.2.1 13) (τ21.2.1 14) (τ21.2.1 15) (τ21.2.1 16) (τ21.2.1 10) (τ21.2.1 27) (τ21.2.1 28) (τ21.2.1 29) (τ21.2.1 30) (τ21.2.1 31) (τ21.2.1 32) (τ21.2.1 33) (τ21.2.1 34) (τ21.2.1 35) (τ21.2.1 36) (τ21.2.1 37)) from by rw [w6_τ25, w7_τ25, w13_τ25, w14_τ25, w15_τ25, g10_τ25, g13_τ25, g14_τ25, g15_τ25, g16_τ25, g27_τ25, g28_τ25, g29_τ25, g30_τ25, g31_τ25, g32_τ25, g33_τ25, g34_τ25, g35_τ25, g36_τ25, g37_τ25]]; exact CJ
              have A1 : ∀ j, 0 ≤ τ25.2.1 1 j ∧ τ25.2.1 1 j ≤ 999 := fun j => hT.2 1 j
              have A2 : ∀ j, 0 ≤ τ25.2.1 2 j ∧ τ25.2.1 2 j ≤ 65535 := fun j => hT.2 2 j
              have A3 : ∀ j, 0 ≤ τ25.2.1 3 j ∧ τ25.2.1 3 j ≤ 30000 := fun j => hT.2 3 j
              have A4 : ∀ j, (-1000) ≤ τ25.2.1 4 j ∧ τ25.2.1 4 j ≤ 1499 := fun j => hT.2 4 j
              have A5 : ∀ j, 0 ≤ τ25.2.1 5 j ∧ τ25.2.1 5 j ≤ 2500 := fun j => hT.2 5 j
              have A6 : ∀ j, 0 ≤ τ25.2.1 6 j ∧ τ25.2.1 6 j ≤ 2500 := fun j => hT.2 6 j
              have A8 : ∀ j, 0 ≤ τ25.2.1 8 j ∧ τ25.2.1 8 j ≤ 1 := fun j => hT.2 8 j
              have A9 : ∀ j, (-1) ≤ τ25.2.1 9 j ∧ τ25.2.1 9 j ≤ 1499 := fun j => hT.2 9 j
              have A10 : ∀ j, (-1) ≤ τ25.2.1 10 j ∧ τ25.2.1 10 j ≤ 99 := fun j => hT.2 10 j
              have A11 : ∀ j, 0 ≤ τ25.2.1 11 j ∧ τ25.2.1 11 j ≤ 999 := fun j => hT.2 11 j
              have A13 : ∀ j, 0 ≤ τ25.2.1 13 j ∧ τ25.2.1 13 j ≤ 4 := fun j => hT.2 13 j
              have A14 : ∀ j, 0 ≤ τ25.2.1 14 j ∧ τ25.2.1 14 j ≤ 30000 := fun j => hT.2 14 j
              have A15 : ∀ j, 0 ≤ τ25.2.1 15 j ∧ τ25.2.1 15 j ≤ 999 := fun j => hT.2 15 j
              have A16 : ∀ j, (-1) ≤ τ25.2.1 16 j ∧ τ25.2.1 16 j ≤ 1499 := fun j => hT.2 16 j
              have A27 : ∀ j, 0 ≤ τ25.2.1 27 j ∧ τ25.2.1 27 j ≤ 90000 := fun j => hT.2 27 j
              have A28 : ∀ j, 0 ≤ τ25.2.1 28 j ∧ τ25.2.1 28 j ≤ 60 := fun j => hT.2 28 j
              have A29 : ∀ j, 0 ≤ τ25.2.1 29 j ∧ τ25.2.1 29 j ≤ 1499 := fun j => hT.2 29 j
              have A30 : ∀ j, 0 ≤ τ25.2.1 30 j ∧ τ25.2.1 30 j ≤ 20000 := fun j => hT.2 30 j
              have A31 : ∀ j, 0 ≤ τ25.2.1 31 j ∧ τ25.2.1 31 j ≤ 20000 := fun j => hT.2 31 j
              have A32 : ∀ j, 0 ≤ τ25.2.1 32 j ∧ τ25.2.1 32 j ≤ 999999 := fun j => hT.2 32 j
              have A33 : ∀ j, 0 ≤ τ25.2.1 33 j ∧ τ25.2.1 33 j ≤ 20000 := fun j => hT.2 33 j
              have A34 : ∀ j, 0 ≤ τ25.2.1 34 j ∧ τ25.2.1 34 j ≤ 20000 := fun j => hT.2 34 j
              have A35 : ∀ j, 0 ≤ τ25.2.1 35 j ∧ τ25.2.1 35 j ≤ 1499 := fun j => hT.2 35 j
              have A36 : ∀ j, 0 ≤ τ25.2.1 36 j ∧ τ25.2.1 36 j ≤ 20000 := fun j => hT.2 36 j
              have A37 : ∀ j, 0 ≤ τ25.2.1 37 j ∧ τ25.2.1 37 j ≤ 19999 := fun j => hT.2 37 j
              have A67 : ∀ j, 0 ≤ τ25.2.1 67 j ∧ τ25.2.1 67 j ≤ 30000 := fun j => hT.2 67 j
              have A68 : ∀ j, 0 ≤ τ25.2.1 68 j ∧ τ25.2.1 68 j ≤ 30000 := fun j => hT.2 68 j
              have A69 : ∀ j, (-100) ≤ τ25.2.1 69 j ∧ τ25.2.1 69 j ≤ 999 := fun j => hT.2 69 j
              have A70 : ∀ j, 0 ≤ τ25.2.1 70 j ∧ τ25.2.1 70 j ≤ 1499 := fun j => hT.2 70 j
              have A71 : ∀ j, 0 ≤ τ25.2.1 71 j ∧ τ25.2.1 71 j ≤ 1500 := fun j => hT.2 71 j
              have A72 : ∀ j, 0 ≤ τ25.2.1 72 j ∧ τ25.2.1 72 j ≤ 1500 := fun j => hT.2 72 j
              have A73 : ∀ j, 0 ≤ τ25.2.1 73 j ∧ τ25.2.1 73 j ≤ 30000 := fun j => hT.2 73 j
              have A74 : ∀ j, 0 ≤ τ25.2.1 74 j ∧ τ25.2.1 74 j ≤ 30000 := fun j => hT.2 74 j
              have A75 : ∀ j, 0 ≤ τ25.2.1 75 j ∧ τ25.2.1 75 j ≤ 1499 := fun j => hT.2 75 j
              have A76 : ∀ j, 0 ≤ τ25.2.1 76 j ∧ τ25.2.1 76 j ≤ 99 := fun j => hT.2 76 j
              have A77 : ∀ j, 0 ≤ τ25.2.1 77 j ∧ τ25.2.1 77 j ≤ 999 := fun j => hT.2 77 j
              have A78 : ∀ j, (-1) ≤ τ25.2.1 78 j ∧ τ25.2.1 78 j ≤ 1499 := fun j => hT.2 78 j
              have A84 : ∀ j, 0 ≤ τ25.2.1 84 j ∧ τ25.2.1 84 j ≤ 1499 := fun j => hT.2 84 j
              have A87 : ∀ j, 0 ≤ τ25.2.1 87 j ∧ τ25.2.1 87 j ≤ 1499 := fun j => hT.2 87 j
              have v0 : 0 ≤ τ25.1 0 ∧ τ25.1 0 ≤ 60000 := hT.1 0
              have v1 : 0 ≤ τ25.1 1 ∧ τ25.1 1 ≤ 1 := hT.1 1
              have v3 : 0 ≤ τ25.1 3 ∧ τ25.1 3 ≤ 2500 := hT.1 3
              have v4 : 0 ≤ τ25.1 4 ∧ τ25.1 4 ≤ 100 := hT.1 4
              have v5 : 0 ≤ τ25.1 5 ∧ τ25.1 5 ≤ 1000 := hT.1 5
              have v6 : 0 ≤ τ25.1 6 ∧ τ25.1 6 ≤ 30000 := hT.1 6
              have v7 : 0 ≤ τ25.1 7 ∧ τ25.1 7 ≤ 1500 := hT.1 7
              have v13 : 0 ≤ τ25.1 13 ∧ τ25.1 13 ≤ 90000 := hT.1 13
              have v14 : 0 ≤ τ25.1 14 ∧ τ25.1 14 ≤ 20000 := hT.1 14
              have v15 : 0 ≤ τ25.1 15 ∧ τ25.1 15 ≤ 20000 := hT.1 15
              have v45 : 1 ≤ τ25.1 45 ∧ τ25.1 45 ≤ 30001 := hT.1 45
              have v48 : (-1) ≤ τ25.1 48 ∧ τ25.1 48 ≤ 999 := hT.1 48
              have v49 : (-1) ≤ τ25.1 49 ∧ τ25.1 49 ≤ 999 := hT.1 49
              have v50 : 0 ≤ τ25.1 50 ∧ τ25.1 50 ≤ 59 := hT.1 50
              have v51 : 0 ≤ τ25.1 51 ∧ τ25.1 51 ≤ 1500 := hT.1 51
              have v52 : (-1) ≤ τ25.1 52 ∧ τ25.1 52 ≤ 99 := hT.1 52
              have v54 : 0 ≤ τ25.1 54 ∧ τ25.1 54 ≤ 12000 := hT.1 54
              have v55 : 0 ≤ τ25.1 55 ∧ τ25.1 55 ≤ 12000 := hT.1 55
              have gm25 := c_GM_h q19_2 hf_τ25 rfl rfl rfl
              have rs25 := c_Rs_h rs hf_τ25 rfl
              refine ⟨_, K_X11_keepPattern hT, ?_⟩
              intro τ28 hn_τ28 hf_τ28 hq
              obtain ⟨hT, q26_1, q26_2⟩ := hq
              replace q26_1 : (τ28.1 55) = (τ25.1 54) := q26_1
              replace q26_2 : ∀ k : Int, 0 ≤ k → k < (τ25.1 54) → τ28.2.1 87 k = τ25.2.1 84 k := q26_2
              have w0_τ28 : τ28.1 0 = τ25.1 0 := hf_τ28.1 0 (by decide)
              have w1_τ28 : τ28.1 1 = τ25.1 1 := hf_τ28.1 1 (by decide)
              have w3_τ28 : τ28.1 3 = τ25.1 3 := hf_τ28.1 3 (by decide)
              have w4_τ28 : τ28.1 4 = τ25.1 4 := hf_τ28.1 4 (by decide)
              have w5_τ28 : τ28.1 5 = τ25.1 5 := hf_τ28.1 5 (by decide)
              have w6_τ28 : τ28.1 6 = τ25.1 6 := hf_τ28.1 6 (by decide)
              have w7_τ28 : τ28.1 7 = τ25.1 7 := hf_τ28.1 7 (by decide)
              have w13_τ28 : τ28.1 13 = τ25.1 13 := hf_τ28.1 13 (by decide)
              have w14_τ28 : τ28.1 14 = τ25.1 14 := hf_τ28.1 14 (by decide)
              have w15_τ28 : τ28.1 15 = τ25.1 15 := hf_τ28.1 15 (by decide)
              have w45_τ28 : τ28.1 45 = τ25.1 45 := hf_τ28.1 45 (by decide)
              have w48_τ28 : τ28.1 48 = τ25.1 48 := hf_τ28.1 48 (by decide)
              have w49_τ28 : τ28.1 49 = τ25.1 49 := hf_τ28.1 49 (by decide)
              have w50_τ28 : τ28.1 50 = τ25.1 50 := hf_τ28.1 50 (by decide)
              have w51_τ28 : τ28.1 51 = τ25.1 51 := hf_τ28.1 51 (by decide)
              have w52_τ28 : τ28.1 52 = τ25.1 52 := hf_τ28.1 52 (by decide)
              have w54_τ28 : τ28.1 54 = τ25.1 54 := hf_τ28.1 54 (by decide)
              have g1_τ28 : τ28.2.1 1 = τ25.2.1 1 := hf_τ28.2.1 1 (by decide)
              have g2_τ28 : τ28.2.1 2 = τ25.2.1 2 := hf_τ28.2.1 2 (by decide)
              have g3_τ28 : τ28.2.1 3 = τ25.2.1 3 := hf_τ28.2.1 3 (by decide)
              have g4_τ28 : τ28.2.1 4 = τ25.2.1 4 := hf_τ28.2.1 4 (by decide)
              have g5_τ28 : τ28.2.1 5 = τ25.2.1 5 := hf_τ28.2.1 5 (by decide)
              have g6_τ28 : τ28.2.1 6 = τ25.2.1 6 := hf_τ28.2.1 6 (by decide)
              have g8_τ28 : τ28.2.1 8 = τ25.2.1 8 := hf_τ28.2.1 8 (by decide)
              have g9_τ28 : τ28.2.1 9 = τ25.2.1 9 := hf_τ28.2.1 9 (by decide)
              have g10_τ28 : τ28.2.1 10 = τ25.2.1 10 := hf_τ28.2.1 10 (by decide)
              have g11_τ28 : τ28.2.1 11 = τ25.2.1 11 := hf_τ28.2.1 11 (by decide)
              have g13_τ28 : τ28.2.1 13 = τ25.2.1 13 := hf_τ28.2.1 13 (by decide)
              have g14_τ28 : τ28.2.1 14 = τ25.2.1 14 := hf_τ28.2.1 14 (by decide)
              have g15_τ28 : τ28.2.1 15 = τ25.2.1 15 := hf_τ28.2.1 15 (by decide)
              have g16_τ28 : τ28.2.1 16 = τ25.2.1 16 := hf_τ28.2.1 16 (by decide)
              have g27_τ28 : τ28.2.1 27 = τ25.2.1 27 := hf_τ28.2.1 27 (by decide)
              have g28_τ28 : τ28.2.1 28 = τ25.2.1 28 := hf_τ28.2.1 28 (by decide)
              have g29_τ28 : τ28.2.1 29 = τ25.2.1 29 := hf_τ28.2.1 29 (by decide)
              have g30_τ28 : τ28.2.1 30 = τ25.2.1 30 := hf_τ28.2.1 30 (by decide)
              have g31_τ28 : τ28.2.1 31 = τ25.2.1 31 := hf_τ28.2.1 31 (by decide)
              have g32_τ28 : τ28.2.1 32 = τ25.2.1 32 := hf_τ28.2.1 32 (by decide)
              have g33_τ28 : τ28.2.1 33 = τ25.2.1 33 := hf_τ28.2.1 33 (by decide)
              have g34_τ28 : τ28.2.1 34 = τ25.2.1 34 := hf_τ28.2.1 34 (by decide)
              have g35_τ28 : τ28.2.1 35 = τ25.2.1 35 := hf_τ28.2.1 35 (by decide)
              have g36_τ28 : τ28.2.1 36 = τ25.2.1 36 := hf_τ28.2.1 36 (by decide)
              have g37_τ28 : τ28.2.1 37 = τ25.2.1 37 := hf_τ28.2.1 37 (by decide)
              have g67_τ28 : τ28.2.1 67 = τ25.2.1 67 := hf_τ28.2.1 67 (by decide)
              have g68_τ28 : τ28.2.1 68 = τ25.2.1 68 := hf_τ28.2.1 68 (by decide)
              have g69_τ28 : τ28.2.1 69 = τ25.2.1 69 := hf_τ28.2.1 69 (by decide)
              have g70_τ28 : τ28.2.1 70 = τ25.2.1 70 := hf_τ28.2.1 70 (by decide)
              have g71_τ28 : τ28.2.1 71 = τ25.2.1 71 := hf_τ28.2.1 71 (by decide)
              have g72_τ28 : τ28.2.1 72 = τ25.2.1 72 := hf_τ28.2.1 72 (by decide)
              have g73_τ28 : τ28.2.1 73 = τ25.2.1 73 := hf_τ28.2.1 73 (by decide)
              have g74_τ28 : τ28.2.1 74 = τ25.2.1 74 := hf_τ28.2.1 74 (by decide)
              have g75_τ28 : τ28.2.1 75 = τ25.2.1 75 := hf_τ28.2.1 75 (by decide)
              have g76_τ28 : τ28.2.1 76 = τ25.2.1 76 := hf_τ28.2.1 76 (by decide)
              have g77_τ28 : τ28.2.1 77 = τ25.2.1 77 := hf_τ28.2.1 77 (by decide)
              have g78_τ28 : τ28.2.1 78 = τ25.2.1 78 := hf_τ28.2.1 78 (by decide)
              have g84_τ28 : τ28.2.1 84 = τ25.2.1 84 := hf_τ28.2.1 84 (by decide)
              have W3 : τ28.1 3 = σ.1 3 := by first | exact w3_τ28.trans W3 | omega
              have W4 : τ28.1 4 = σ.1 4 := by first | exact w4_τ28.trans W4 | omega
              have W5 : τ28.1 5 = σ.1 5 := by first | exact w5_τ28.trans W5 | omega
              have W6 : τ28.1 6 = σ.1 6 := by first | exact w6_τ28.trans W6 | omega
              have W7 : τ28.1 7 = σ.1 7 := by first | exact w7_τ28.trans W7 | omega
              have W13 : τ28.1 13 = σ.1 13 := by first | exact w13_τ28.trans W13 | omega
              have W14 : τ28.1 14 = σ.1 14 := by first | exact w14_τ28.trans W14 | omega
              have W15 : τ28.1 15 = σ.1 15 := by first | exact w15_τ28.trans W15 | omega
              have G2 : τ28.2.1 2 = σ.2.1 2 := (g2_τ28).trans G2
              have G3 : τ28.2.1 3 = σ.2.1 3 := (g3_τ28).trans G3
              have G4 : τ28.2.1 4 = σ.2.1 4 := (g4_τ28).trans G4
              have G5 : τ28.2.1 5 = σ.2.1 5 := (g5_τ28).trans G5
              have G6 : τ28.2.1 6 = σ.2.1 6 := (g6_τ28).trans G6
              have G8 : τ28.2.1 8 = σ.2.1 8 := (g8_τ28).trans G8
              have G9 : τ28.2.1 9 = σ.2.1 9 := (g9_τ28).trans G9
              have G10 : τ28.2.1 10 = σ.2.1 10 := (g10_τ28).trans G10
              have G11 : τ28.2.1 11 = σ.2.1 11 := (g11_τ28).trans G11
              have G13 : τ28.2.1 13 = σ.2.1 13 := (g13_τ28).trans G13
              have G14 : τ28.2.1 14 = σ.2.1 14 := (g14_τ28).trans G14
              have G15 : τ28.2.1 15 = σ.2.1 15 := (g15_τ28).trans G15
              have G16 : τ28.2.1 16 = σ.2.1 16 := (g16_τ28).trans G16
              have G27 : τ28.2.1 27 = σ.2.1 27 := (g27_τ28).trans G27
              have G28 : τ28.2.1 28 = σ.2.1 28 := (g28_τ28).trans G28
              have G29 : τ28.2.1 29 = σ.2.1 29 := (g29_τ28).trans G29
              have G30 : τ28.2.1 30 = σ.2.1 30 := (g30_τ28).trans G30
              have G31 : τ28.2.1 31 = σ.2.1 31 := (g31_τ28).trans G31
              have G32 : τ28.2.1 32 = σ.2.1 32 := (g32_τ28).trans G32
              have G33 : τ28.2.1 33 = σ.2.1 33 := (g33_τ28).trans G33
              have G34 : τ28.2.1 34 = σ.2.1 34 := (g34_τ28).trans G34
              have G35 : τ28.2.1 35 = σ.2.1 35 := (g35_τ28).trans G35
              have G36 : τ28.2.1 36 = σ.2.1 36 := (g36_τ28).trans G36
              have G37 : τ28.2.1 37 = σ.2.1 37 := (g37_τ28).trans G37
              have HT : J_ht (τ28.1 3) (τ28.2.1 2) (τ28.2.1 3) (τ28.2.1 5) (τ28.2.1 6) := by rw [show (J_ht (τ28.1 3) (τ28.2.1 2) (τ28.2.1 3) (τ28.2.1 5) (τ28.2.1 6)) = (J_ht (τ25.1 3) (τ25.2.1 2) (τ25.2.1 3) (τ25.2.1 5) (τ25.2.1 6)) from by rw [w3_τ28, g2_τ28, g3_τ28, g5_τ28, g6_τ28]]; exact HT
              have MN : J_mn (τ28.1 3) (τ28.1 5) ((τ28.1 7) + 1) (τ28.2.1 4) := by rw [show (J_mn (τ28.1 3) (τ28.1 5) ((τ28.1 7) + 1) (τ28.2.1 4)) = (J_mn (τ25.1 3) (τ25.1 5) ((τ25.1 7) + 1) (τ25.2.1 4)) from by rw [w3_τ28, w5_τ28, w7_τ28, g4_τ28]]; exact MN
              have FF : J_ff (τ28.1 5) (τ28.1 7) (τ28.2.1 9) (τ28.2.1 13) (τ28.2.1 14) (τ28.2.1 15) := by rw [show (J_ff (τ28.1 5) (τ28.1 7) (τ28.2.1 9) (τ28.2.1 13) (τ28.2.1 14) (τ28.2.1 15)) = (J_ff (τ25.1 5) (τ25.1 7) (τ25.2.1 9) (τ25.2.1 13) (τ25.2.1 14) (τ25.2.1 15)) from by rw [w5_τ28, w7_τ28, g9_τ28, g13_τ28, g14_τ28, g15_τ28]]; exact FF
              have TX : J_vs (τ28.1 6) (τ28.1 5) (τ28.2.1 15) := by rw [show (J_vs (τ28.1 6) (τ28.1 5) (τ28.2.1 15)) = (J_vs (τ25.1 6) (τ25.1 5) (τ25.2.1 15)) from by rw [w5_τ28, w6_τ28, g15_τ28]]; exact TX
              have RKS : J_rks (τ28.1 5) (τ28.1 4) (τ28.2.1 10) (τ28.2.1 11) := by rw [show (J_rks (τ28.1 5) (τ28.1 4) (τ28.2.1 10) (τ28.2.1 11)) = (J_rks (τ25.1 5) (τ25.1 4) (τ25.2.1 10) (τ25.2.1 11)) from by rw [w4_τ28, w5_τ28, g10_τ28, g11_τ28]]; exact RKS
              have CJ : J_all (τ28.1 7) (τ28.1 6) (τ28.1 13) (τ28.1 14) (τ28.1 15) (τ28.2.1 13) (τ28.2.1 14) (τ28.2.1 15) (τ28.2.1 16) (τ28.2.1 10) (τ28.2.1 27) (τ28.2.1 28) (τ28.2.1 29) (τ28.2.1 30) (τ28.2.1 31) (τ28.2.1 32) (τ28.2.1 33) (τ28.2.1 34) (τ28.2.1 35) (τ28.2.1 36) (τ28.2.1 37) := by rw [show (J_all (τ28.1 7) (τ28.1 6) (τ28.1 13) (τ28.1 14) (τ28.1 15) (τ28.2.1 13) (τ28.2.1 14) (τ28.2.1 15) (τ28.2.1 16) (τ28.2.1 10) (τ28.2.1 27) (τ28.2.1 28) (τ28.2.1 29) (τ28.2.1 30) (τ28.2.1 31) (τ28.2.1 32) (τ28.2.1 33) (τ28.2.1 34) (τ28.2.1 35) (τ28.2.1 36) (τ28.2.1 37)) = (J_all (τ25.1 7) (τ25.1 6) (τ25.1 13) (τ25.1 14) (τ25.1 15) (τ25.2.1 13) (τ25.2.1 14) (τ25.2.1 15) (τ25.2.1 16) (τ25.2.1 10) (τ25.2.1 27) (τ25.2.1 28) (τ25.2.1 29) (τ25.2.1 30) (τ25.2.1 31) (τ25.2.1 32) (τ25.2.1 33) (τ25.2.1 34) (τ25.2.1 35) (τ25.2.1 36) (τ25.2.1 37)) from by rw [w6_τ28, w7_τ28, w13_τ28, w14_τ28, w15_τ28, g10_τ28, g13_τ28, g14_τ28, g15_τ28, g16_τ28, g27_τ28, g28_τ28, g29_τ28, g30_τ28, g31_τ28, g32_τ28, g33_τ28, g34_τ28, g35_τ28, g36_τ28, g37_τ28]]; exact CJ
              have A1 : ∀ j, 0 ≤ τ28.2.1 1 j ∧ τ28.2.1 1 j ≤ 999 := fun j => hT.2 1 j
              have A2 : ∀ j, 0 ≤ τ28.2.1 2 j ∧ τ28.2.1 2 j ≤ 65535 := fun j => hT.2 2 j
              have A3 : ∀ j, 0 ≤ τ28.2.1 3 j ∧ τ28.2.1 3 j ≤ 30000 := fun j => hT.2 3 j
              have A4 : ∀ j, (-1000) ≤ τ28.2.1 4 j ∧ τ28.2.1 4 j ≤ 1499 := fun j => hT.2 4 j
              have A5 : ∀ j, 0 ≤ τ28.2.1 5 j ∧ τ28.2.1 5 j ≤ 2500 := fun j => hT.2 5 j
              have A6 : ∀ j, 0 ≤ τ28.2.1 6 j ∧ τ28.2.1 6 j ≤ 2500 := fun j => hT.2 6 j
              have A8 : ∀ j, 0 ≤ τ28.2.1 8 j ∧ τ28.2.1 8 j ≤ 1 := fun j => hT.2 8 j
              have A9 : ∀ j, (-1) ≤ τ28.2.1 9 j ∧ τ28.2.1 9 j ≤ 1499 := fun j => hT.2 9 j
              have A10 : ∀ j, (-1) ≤ τ28.2.1 10 j ∧ τ28.2.1 10 j ≤ 99 := fun j => hT.2 10 j
              have A11 : ∀ j, 0 ≤ τ28.2.1 11 j ∧ τ28.2.1 11 j ≤ 999 := fun j => hT.2 11 j
              have A13 : ∀ j, 0 ≤ τ28.2.1 13 j ∧ τ28.2.1 13 j ≤ 4 := fun j => hT.2 13 j
              have A14 : ∀ j, 0 ≤ τ28.2.1 14 j ∧ τ28.2.1 14 j ≤ 30000 := fun j => hT.2 14 j
              have A15 : ∀ j, 0 ≤ τ28.2.1 15 j ∧ τ28.2.1 15 j ≤ 999 := fun j => hT.2 15 j
              have A16 : ∀ j, (-1) ≤ τ28.2.1 16 j ∧ τ28.2.1 16 j ≤ 1499 := fun j => hT.2 16 j
              have A27 : ∀ j, 0 ≤ τ28.2.1 27 j ∧ τ28.2.1 27 j ≤ 90000 := fun j => hT.2 27 j
              have A28 : ∀ j, 0 ≤ τ28.2.1 28 j ∧ τ28.2.1 28 j ≤ 60 := fun j => hT.2 28 j
              have A29 : ∀ j, 0 ≤ τ28.2.1 29 j ∧ τ28.2.1 29 j ≤ 1499 := fun j => hT.2 29 j
              have A30 : ∀ j, 0 ≤ τ28.2.1 30 j ∧ τ28.2.1 30 j ≤ 20000 := fun j => hT.2 30 j
              have A31 : ∀ j, 0 ≤ τ28.2.1 31 j ∧ τ28.2.1 31 j ≤ 20000 := fun j => hT.2 31 j
              have A32 : ∀ j, 0 ≤ τ28.2.1 32 j ∧ τ28.2.1 32 j ≤ 999999 := fun j => hT.2 32 j
              have A33 : ∀ j, 0 ≤ τ28.2.1 33 j ∧ τ28.2.1 33 j ≤ 20000 := fun j => hT.2 33 j
              have A34 : ∀ j, 0 ≤ τ28.2.1 34 j ∧ τ28.2.1 34 j ≤ 20000 := fun j => hT.2 34 j
              have A35 : ∀ j, 0 ≤ τ28.2.1 35 j ∧ τ28.2.1 35 j ≤ 1499 := fun j => hT.2 35 j
              have A36 : ∀ j, 0 ≤ τ28.2.1 36 j ∧ τ28.2.1 36 j ≤ 20000 := fun j => hT.2 36 j
              have A37 : ∀ j, 0 ≤ τ28.2.1 37 j ∧ τ28.2.1 37 j ≤ 19999 := fun j => hT.2 37 j
              have A67 : ∀ j, 0 ≤ τ28.2.1 67 j ∧ τ28.2.1 67 j ≤ 30000 := fun j => hT.2 67 j
              have A68 : ∀ j, 0 ≤ τ28.2.1 68 j ∧ τ28.2.1 68 j ≤ 30000 := fun j => hT.2 68 j
              have A69 : ∀ j, (-100) ≤ τ28.2.1 69 j ∧ τ28.2.1 69 j ≤ 999 := fun j => hT.2 69 j
              have A70 : ∀ j, 0 ≤ τ28.2.1 70 j ∧ τ28.2.1 70 j ≤ 1499 := fun j => hT.2 70 j
              have A71 : ∀ j, 0 ≤ τ28.2.1 71 j ∧ τ28.2.1 71 j ≤ 1500 := fun j => hT.2 71 j
              have A72 : ∀ j, 0 ≤ τ28.2.1 72 j ∧ τ28.2.1 72 j ≤ 1500 := fun j => hT.2 72 j
              have A73 : ∀ j, 0 ≤ τ28.2.1 73 j ∧ τ28.2.1 73 j ≤ 30000 := fun j => hT.2 73 j
              have A74 : ∀ j, 0 ≤ τ28.2.1 74 j ∧ τ28.2.1 74 j ≤ 30000 := fun j => hT.2 74 j
              have A75 : ∀ j, 0 ≤ τ28.2.1 75 j ∧ τ28.2.1 75 j ≤ 1499 := fun j => hT.2 75 j
              have A76 : ∀ j, 0 ≤ τ28.2.1 76 j ∧ τ28.2.1 76 j ≤ 99 := fun j => hT.2 76 j
              have A77 : ∀ j, 0 ≤ τ28.2.1 77 j ∧ τ28.2.1 77 j ≤ 999 := fun j => hT.2 77 j
              have A78 : ∀ j, (-1) ≤ τ28.2.1 78 j ∧ τ28.2.1 78 j ≤ 1499 := fun j => hT.2 78 j
              have A84 : ∀ j, 0 ≤ τ28.2.1 84 j ∧ τ28.2.1 84 j ≤ 1499 := fun j => hT.2 84 j
              have A87 : ∀ j, 0 ≤ τ28.2.1 87 j ∧ τ28.2.1 87 j ≤ 1499 := fun j => hT.2 87 j
              have v0 : 0 ≤ τ28.1 0 ∧ τ28.1 0 ≤ 60000 := hT.1 0
              have v1 : 0 ≤ τ28.1 1 ∧ τ28.1 1 ≤ 1 := hT.1 1
              have v3 : 0 ≤ τ28.1 3 ∧ τ28.1 3 ≤ 2500 := hT.1 3
              have v4 : 0 ≤ τ28.1 4 ∧ τ28.1 4 ≤ 100 := hT.1 4
              have v5 : 0 ≤ τ28.1 5 ∧ τ28.1 5 ≤ 1000 := hT.1 5
              have v6 : 0 ≤ τ28.1 6 ∧ τ28.1 6 ≤ 30000 := hT.1 6
              have v7 : 0 ≤ τ28.1 7 ∧ τ28.1 7 ≤ 1500 := hT.1 7
              have v13 : 0 ≤ τ28.1 13 ∧ τ28.1 13 ≤ 90000 := hT.1 13
              have v14 : 0 ≤ τ28.1 14 ∧ τ28.1 14 ≤ 20000 := hT.1 14
              have v15 : 0 ≤ τ28.1 15 ∧ τ28.1 15 ≤ 20000 := hT.1 15
              have v45 : 1 ≤ τ28.1 45 ∧ τ28.1 45 ≤ 30001 := hT.1 45
              have v48 : (-1) ≤ τ28.1 48 ∧ τ28.1 48 ≤ 999 := hT.1 48
              have v49 : (-1) ≤ τ28.1 49 ∧ τ28.1 49 ≤ 999 := hT.1 49
              have v50 : 0 ≤ τ28.1 50 ∧ τ28.1 50 ≤ 59 := hT.1 50
              have v51 : 0 ≤ τ28.1 51 ∧ τ28.1 51 ≤ 1500 := hT.1 51
              have v52 : (-1) ≤ τ28.1 52 ∧ τ28.1 52 ≤ 99 := hT.1 52
              have v54 : 0 ≤ τ28.1 54 ∧ τ28.1 54 ≤ 12000 := hT.1 54
              have v55 : 0 ≤ τ28.1 55 ∧ τ28.1 55 ≤ 12000 := hT.1 55
              have PTN : ∀ k : Int, 0 ≤ k → k < τ28.1 55 → τ28.2.1 87 k < τ28.1 7 := fun k a b => by (rw [q26_2 k a (by omega)]; have w := (q23_1.2.1 k a (by omega)).1; omega)
              have gm28 := c_GM_h gm25 hf_τ28 rfl rfl rfl
              have rs28 := c_Rs_h rs25 hf_τ28 rfl
              have ask28 : ∀ k : Int, 0 ≤ k → k < x2 → τ28.2.1 1 k < τ28.1 5 := fun k a b => by (have w := q1_2 k a b (by omega); rw [g1_τ28, g1_τ25, g1_τ21, w5_τ28, w5_τ25, w5_τ21, w5_τ3]; exact w)
              refine ⟨_, K_X1_takeRow_q14 hT (show 1 ≤ x2 from by (first | omega | (simp only [st_s] <;> omega) | assumption | omega | fail)) (show x2 ≤ 60 from by (first | omega | (simp only [st_s] <;> omega) | assumption | omega | fail)) (show ∀ k : Int, 0 ≤ k → k < x2 → τ28.2.1 1 k < (τ28.1 5) from by exact ask28) (show J_rks (τ28.1 5) (τ28.1 4) (τ28.2.1 10) (τ28.2.1 11) from RKS) (show J_ff (τ28.1 5) (τ28.1 7) (τ28.2.1 9) (τ28.2.1 13) (τ28.2.1 14) (τ28.2.1 15) from FF) (show ∀ s : Int, 0 ≤ s → s < 1000 → (∀ i : Int, 0 ≤ i → i < (τ28.1 50) → τ28.2.1 77 i ≠ s) → τ28.2.2 3 s = 0 from by exact gm28.2) (show (τ28.1 49) < (τ28.1 5) from by (have w := q19_5 (by assumption); omega)), ?_⟩
              intro τ31 hn_τ31 hf_τ31 hq
              obtain ⟨hT, q29_1, q29_2, q29_3, q29_4, q29_5⟩ := hq
              replace q29_1 : ∀ s : Int, 0 ≤ s → s < 1000 → τ31.2.2 3 s = 0 := q29_1
              replace q29_2 : (τ31.1 52) < (τ28.1 4) := q29_2
              replace q29_3 : (τ31.1 50) = x2 - 1 := q29_3
              replace q29_4 : (τ31.1 51) = (τ28.1 7) := q29_4
              replace q29_5 : ∀ i : Int, 0 ≤ i → i < (τ31.1 50) → 0 ≤ τ31.2.1 78 i → τ31.2.1 78 i < (τ28.1 7) ∧ τ28.2.1 13 (τ31.2.1 78 i) = 0 := q29_5
              have w0_τ31 : τ31.1 0 = τ28.1 0 := hf_τ31.1 0 (by decide)
              have w1_τ31 : τ31.1 1 = τ28.1 1 := hf_τ31.1 1 (by decide)
              have w3_τ31 : τ31.1 3 = τ28.1 3 := hf_τ31.1 3 (by decide)
              have w4_τ31 : τ31.1 4 = τ28.1 4 := hf_τ31.1 4 (by decide)
              have w5_τ31 : τ31.1 5 = τ28.1 5 := hf_τ31.1 5 (by decide)
              have w6_τ31 : τ31.1 6 = τ28.1 6 := hf_τ31.1 6 (by decide)
              have w7_τ31 : τ31.1 7 = τ28.1 7 := hf_τ31.1 7 (by decide)
              have w13_τ31 : τ31.1 13 = τ28.1 13 := hf_τ31.1 13 (by decide)
              have w14_τ31 : τ31.1 14 = τ28.1 14 := hf_τ31.1 14 (by decide)
              have w15_τ31 : τ31.1 15 = τ28.1 15 := hf_τ31.1 15 (by decide)
              have w45_τ31 : τ31.1 45 = τ28.1 45 := hf_τ31.1 45 (by decide)
              have w48_τ31 : τ31.1 48 = τ28.1 48 := hf_τ31.1 48 (by decide)
              have w49_τ31 : τ31.1 49 = τ28.1 49 := hf_τ31.1 49 (by decide)
              have w54_τ31 : τ31.1 54 = τ28.1 54 := hf_τ31.1 54 (by decide)
              have w55_τ31 : τ31.1 55 = τ28.1 55 := hf_τ31.1 55 (by decide)
              have g1_τ31 : τ31.2.1 1 = τ28.2.1 1 := hf_τ31.2.1 1 (by decide)
              have g2_τ31 : τ31.2.1 2 = τ28.2.1 2 := hf_τ31.2.1 2 (by decide)
              have g3_τ31 : τ31.2.1 3 = τ28.2.1 3 := hf_τ31.2.1 3 (by decide)
              have g4_τ31 : τ31.2.1 4 = τ28.2.1 4 := hf_τ31.2.1 4 (by decide)
              have g5_τ31 : τ31.2.1 5 = τ28.2.1 5 := hf_τ31.2.1 5 (by decide)
              have g6_τ31 : τ31.2.1 6 = τ28.2.1 6 := hf_τ31.2.1 6 (by decide)
              have g8_τ31 : τ31.2.1 8 = τ28.2.1 8 := hf_τ31.2.1 8 (by decide)
              have g9_τ31 : τ31.2.1 9 = τ28.2.1 9 := hf_τ31.2.1 9 (by decide)
              have g10_τ31 : τ31.2.1 10 = τ28.2.1 10 := hf_τ31.2.1 10 (by decide)
              have g11_τ31 : τ31.2.1 11 = τ28.2.1 11 := hf_τ31.2.1 11 (by decide)
              have g13_τ31 : τ31.2.1 13 = τ28.2.1 13 := hf_τ31.2.1 13 (by decide)
              have g14_τ31 : τ31.2.1 14 = τ28.2.1 14 := hf_τ31.2.1 14 (by decide)
              have g15_τ31 : τ31.2.1 15 = τ28.2.1 15 := hf_τ31.2.1 15 (by decide)
              have g16_τ31 : τ31.2.1 16 = τ28.2.1 16 := hf_τ31.2.1 16 (by decide)
              have g27_τ31 : τ31.2.1 27 = τ28.2.1 27 := hf_τ31.2.1 27 (by decide)
              have g28_τ31 : τ31.2.1 28 = τ28.2.1 28 := hf_τ31.2.1 28 (by decide)
              have g29_τ31 : τ31.2.1 29 = τ28.2.1 29 := hf_τ31.2.1 29 (by decide)
              have g30_τ31 : τ31.2.1 30 = τ28.2.1 30 := hf_τ31.2.1 30 (by decide)
              have g31_τ31 : τ31.2.1 31 = τ28.2.1 31 := hf_τ31.2.1 31 (by decide)
              have g32_τ31 : τ31.2.1 32 = τ28.2.1 32 := hf_τ31.2.1 32 (by decide)
              have g33_τ31 : τ31.2.1 33 = τ28.2.1 33 := hf_τ31.2.1 33 (by decide)
              have g34_τ31 : τ31.2.1 34 = τ28.2.1 34 := hf_τ31.2.1 34 (by decide)
              have g35_τ31 : τ31.2.1 35 = τ28.2.1 35 := hf_τ31.2.1 35 (by decide)
              have g36_τ31 : τ31.2.1 36 = τ28.2.1 36 := hf_τ31.2.1 36 (by decide)
              have g37_τ31 : τ31.2.1 37 = τ28.2.1 37 := hf_τ31.2.1 37 (by decide)
              have g67_τ31 : τ31.2.1 67 = τ28.2.1 67 := hf_τ31.2.1 67 (by decide)
              have g68_τ31 : τ31.2.1 68 = τ28.2.1 68 := hf_τ31.2.1 68 (by decide)
              have g69_τ31 : τ31.2.1 69 = τ28.2.1 69 := hf_τ31.2.1 69 (by decide)
              have g70_τ31 : τ31.2.1 70 = τ28.2.1 70 := hf_τ31.2.1 70 (by decide)
              have g71_τ31 : τ31.2.1 71 = τ28.2.1 71 := hf_τ31.2.1 71 (by decide)
              have g72_τ31 : τ31.2.1 72 = τ28.2.1 72 := hf_τ31.2.1 72 (by decide)
              have g73_τ31 : τ31.2.1 73 = τ28.2.1 73 := hf_τ31.2.1 73 (by decide)
              have g74_τ31 : τ31.2.1 74 = τ28.2.1 74 := hf_τ31.2.1 74 (by decide)
              have g75_τ31 : τ31.2.1 75 = τ28.2.1 75 := hf_τ31.2.1 75 (by decide)
              have g76_τ31 : τ31.2.1 76 = τ28.2.1 76 := hf_τ31.2.1 76 (by decide)
              have g84_τ31 : τ31.2.1 84 = τ28.2.1 84 := hf_τ31.2.1 84 (by decide)
              have g87_τ31 : τ31.2.1 87 = τ28.2.1 87 := hf_τ31.2.1 87 (by decide)
              have W3 : τ31.1 3 = σ.1 3 := by first | exact w3_τ31.trans W3 | omega
              have W4 : τ31.1 4 = σ.1 4 := by first | exact w4_τ31.trans W4 | omega
              have W5 : τ31.1 5 = σ.1 5 := by first | exact w5_τ31.trans W5 | omega
              have W6 : τ31.1 6 = σ.1 6 := by first | exact w6_τ31.trans W6 | omega
              have W7 : τ31.1 7 = σ.1 7 := by first | exact w7_τ31.trans W7 | omega
              have W13 : τ31.1 13 = σ.1 13 := by first | exact w13_τ31.trans W13 | omega
              have W14 : τ31.1 14 = σ.1 14 := by first | exact w14_τ31.trans W14 | omega
              have W15 : τ31.1 15 = σ.1 15 := by first | exact w15_τ31.trans W15 | omega
              have G2 : τ31.2.1 2 = σ.2.1 2 := (g2_τ31).trans G2
              have G3 : τ31.2.1 3 = σ.2.1 3 := (g3_τ31).trans G3
              have G4 : τ31.2.1 4 = σ.2.1 4 := (g4_τ31).trans G4
              have G5 : τ31.2.1 5 = σ.2.1 5 := (g5_τ31).trans G5
              have G6 : τ31.2.1 6 = σ.2.1 6 := (g6_τ31).trans G6
              have G8 : τ31.2.1 8 = σ.2.1 8 := (g8_τ31).trans G8
              have G9 : τ31.2.1 9 = σ.2.1 9 := (g9_τ31).trans G9
              have G10 : τ31.2.1 10 = σ.2.1 10 := (g10_τ31).trans G10
              have G11 : τ31.2.1 11 = σ.2.1 11 := (g11_τ31).trans G11
              have G13 : τ31.2.1 13 = σ.2.1 13 := (g13_τ31).trans G13
              have G14 : τ31.2.1 14 = σ.2.1 14 := (g14_τ31).trans G14
              have G15 : τ31.2.1 15 = σ.2.1 15 := (g15_τ31).trans G15
              have G16 : τ31.2.1 16 = σ.2.1 16 := (g16_τ31).trans G16
              have G27 : τ31.2.1 27 = σ.2.1 27 := (g27_τ31).trans G27
              have G28 : τ31.2.1 28 = σ.2.1 28 := (g28_τ31).trans G28
              have G29 : τ31.2.1 29 = σ.2.1 29 := (g29_τ31).trans G29
              have G30 : τ31.2.1 30 = σ.2.1 30 := (g30_τ31).trans G30
              have G31 : τ31.2.1 31 = σ.2.1 31 := (g31_τ31).trans G31
              have G32 : τ31.2.1 32 = σ.2.1 32 := (g32_τ31).trans G32
              have G33 : τ31.2.1 33 = σ.2.1 33 := (g33_τ31).trans G33
              have G34 : τ31.2.1 34 = σ.2.1 34 := (g34_τ31).trans G34
              have G35 : τ31.2.1 35 = σ.2.1 35 := (g35_τ31).trans G35
              have G36 : τ31.2.1 36 = σ.2.1 36 := (g36_τ31).trans G36
              have G37 : τ31.2.1 37 = σ.2.1 37 := (g37_τ31).trans G37
              have HT : J_ht (τ31.1 3) (τ31.2.1 2) (τ31.2.1 3) (τ31.2.1 5) (τ31.2.1 6) := by rw [show (J_ht (τ31.1 3) (τ31.2.1 2) (τ31.2.1 3) (τ31.2.1 5) (τ31.2.1 6)) = (J_ht (τ28.1 3) (τ28.2.1 2) (τ28.2.1 3) (τ28.2.1 5) (τ28.2.1 6)) from by rw [w3_τ31, g2_τ31, g3_τ31, g5_τ31, g6_τ31]]; exact HT
              have MN : J_mn (τ31.1 3) (τ31.1 5) ((τ31.1 7) + 1) (τ31.2.1 4) := by rw [show (J_mn (τ31.1 3) (τ31.1 5) ((τ31.1 7) + 1) (τ31.2.1 4)) = (J_mn (τ28.1 3) (τ28.1 5) ((τ28.1 7) + 1) (τ28.2.1 4)) from by rw [w3_τ31, w5_τ31, w7_τ31, g4_τ31]]; exact MN
              have FF : J_ff (τ31.1 5) (τ31.1 7) (τ31.2.1 9) (τ31.2.1 13) (τ31.2.1 14) (τ31.2.1 15) := by rw [show (J_ff (τ31.1 5) (τ31.1 7) (τ31.2.1 9) (τ31.2.1 13) (τ31.2.1 14) (τ31.2.1 15)) = (J_ff (τ28.1 5) (τ28.1 7) (τ28.2.1 9) (τ28.2.1 13) (τ28.2.1 14) (τ28.2.1 15)) from by rw [w5_τ31, w7_τ31, g9_τ31, g13_τ31, g14_τ31, g15_τ31]]; exact FF
              have TX : J_vs (τ31.1 6) (τ31.1 5) (τ31.2.1 15) := by rw [show (J_vs (τ31.1 6) (τ31.1 5) (τ31.2.1 15)) = (J_vs (τ28.1 6) (τ28.1 5) (τ28.2.1 15)) from by rw [w5_τ31, w6_τ31, g15_τ31]]; exact TX
              have RKS : J_rks (τ31.1 5) (τ31.1 4) (τ31.2.1 10) (τ31.2.1 11) := by rw [show (J_rks (τ31.1 5) (τ31.1 4) (τ31.2.1 10) (τ31.2.1 11)) = (J_rks (τ28.1 5) (τ28.1 4) (τ28.2.1 10) (τ28.2.1 11)) from by rw [w4_τ31, w5_τ31, g10_τ31, g11_τ31]]; exact RKS
              have CJ : J_all (τ31.1 7) (τ31.1 6) (τ31.1 13) (τ31.1 14) (τ31.1 15) (τ31.2.1 13) (τ31.2.1 14) (τ31.2.1 15) (τ31.2.1 16) (τ31.2.1 10) (τ31.2.1 27) (τ31.2.1 28) (τ31.2.1 29) (τ31.2.1 30) (τ31.2.1 31) (τ31.2.1 32) (τ31.2.1 33) (τ31.2.1 34) (τ31.2.1 35) (τ31.2.1 36) (τ31.2.1 37) := by rw [show (J_all (τ31.1 7) (τ31.1 6) (τ31.1 13) (τ31.1 14) (τ31.1 15) (τ31.2.1 13) (τ31.2.1 14) (τ31.2.1 15) (τ31.2.1 16) (τ31.2.1 10) (τ31.2.1 27) (τ31.2.1 28) (τ31.2.1 29) (τ31.2.1 30) (τ31.2.1 31) (τ31.2.1 32) (τ31.2.1 33) (τ31.2.1 34) (τ31.2.1 35) (τ31.2.1 36) (τ31.2.1 37)) = (J_all (τ28.1 7) (τ28.1 6) (τ28.1 13) (τ28.1 14) (τ28.1 15) (τ28.2.1 13) (τ28.2.1 14) (τ28.2.1 15) (τ28.2.1 16) (τ28.2.1 10) (τ28.2.1 27) (τ28.2.1 28) (τ28.2.1 29) (τ28.2.1 30) (τ28.2.1 31) (τ28.2.1 32) (τ28.2.1 33) (τ28.2.1 34) (τ28.2.1 35) (τ28.2.1 36) (τ28.2.1 37)) from by rw [w6_τ31, w7_τ31, w13_τ31, w14_τ31, w15_τ31, g10_τ31, g13_τ31, g14_τ31, g15_τ31, g16_τ31, g27_τ31, g28_τ31, g29_τ31, g30_τ31, g31_τ31, g32_τ31, g33_τ31, g34_τ31, g35_τ31, g36_τ31, g37_τ31]]; exact CJ
              have PTN : ∀ k : Int, 0 ≤ k → k < (τ31.1 55) → τ31.2.1 87 k < (τ31.1 7) := by rw [show (∀ k : Int, 0 ≤ k → k < (τ31.1 55) → τ31.2.1 87 k < (τ31.1 7)) = (∀ k : Int, 0 ≤ k → k < (τ28.1 55) → τ28.2.1 87 k < (τ28.1 7)) from by rw [w7_τ31, w55_τ31, g87_τ31]]; exact PTN
              have A1 : ∀ j, 0 ≤ τ31.2.1 1 j ∧ τ31.2.1 1 j ≤ 999 := fun j => hT.2 1 j
              have A2 : ∀ j, 0 ≤ τ31.2.1 2 j ∧ τ31.2.1 2 j ≤ 65535 := fun j => hT.2 2 j
              have A3 : ∀ j, 0 ≤ τ31.2.1 3 j ∧ τ31.2.1 3 j ≤ 30000 := fun j => hT.2 3 j
              have A4 : ∀ j, (-1000) ≤ τ31.2.1 4 j ∧ τ31.2.1 4 j ≤ 1499 := fun j => hT.2 4 j
              have A5 : ∀ j, 0 ≤ τ31.2.1 5 j ∧ τ31.2.1 5 j ≤ 2500 := fun j => hT.2 5 j
              have A6 : ∀ j, 0 ≤ τ31.2.1 6 j ∧ τ31.2.1 6 j ≤ 2500 := fun j => hT.2 6 j
              have A8 : ∀ j, 0 ≤ τ31.2.1 8 j ∧ τ31.2.1 8 j ≤ 1 := fun j => hT.2 8 j
              have A9 : ∀ j, (-1) ≤ τ31.2.1 9 j ∧ τ31.2.1 9 j ≤ 1499 := fun j => hT.2 9 j
              have A10 : ∀ j, (-1) ≤ τ31.2.1 10 j ∧ τ31.2.1 10 j ≤ 99 := fun j => hT.2 10 j
              have A11 : ∀ j, 0 ≤ τ31.2.1 11 j ∧ τ31.2.1 11 j ≤ 999 := fun j => hT.2 11 j
              have A13 : ∀ j, 0 ≤ τ31.2.1 13 j ∧ τ31.2.1 13 j ≤ 4 := fun j => hT.2 13 j
              have A14 : ∀ j, 0 ≤ τ31.2.1 14 j ∧ τ31.2.1 14 j ≤ 30000 := fun j => hT.2 14 j
              have A15 : ∀ j, 0 ≤ τ31.2.1 15 j ∧ τ31.2.1 15 j ≤ 999 := fun j => hT.2 15 j
              have A16 : ∀ j, (-1) ≤ τ31.2.1 16 j ∧ τ31.2.1 16 j ≤ 1499 := fun j => hT.2 16 j
              have A27 : ∀ j, 0 ≤ τ31.2.1 27 j ∧ τ31.2.1 27 j ≤ 90000 := fun j => hT.2 27 j
              have A28 : ∀ j, 0 ≤ τ31.2.1 28 j ∧ τ31.2.1 28 j ≤ 60 := fun j => hT.2 28 j
              have A29 : ∀ j, 0 ≤ τ31.2.1 29 j ∧ τ31.2.1 29 j ≤ 1499 := fun j => hT.2 29 j
              have A30 : ∀ j, 0 ≤ τ31.2.1 30 j ∧ τ31.2.1 30 j ≤ 20000 := fun j => hT.2 30 j
              have A31 : ∀ j, 0 ≤ τ31.2.1 31 j ∧ τ31.2.1 31 j ≤ 20000 := fun j => hT.2 31 j
              have A32 : ∀ j, 0 ≤ τ31.2.1 32 j ∧ τ31.2.1 32 j ≤ 999999 := fun j => hT.2 32 j
              have A33 : ∀ j, 0 ≤ τ31.2.1 33 j ∧ τ31.2.1 33 j ≤ 20000 := fun j => hT.2 33 j
              have A34 : ∀ j, 0 ≤ τ31.2.1 34 j ∧ τ31.2.1 34 j ≤ 20000 := fun j => hT.2 34 j
              have A35 : ∀ j, 0 ≤ τ31.2.1 35 j ∧ τ31.2.1 35 j ≤ 1499 := fun j => hT.2 35 j
              have A36 : ∀ j, 0 ≤ τ31.2.1 36 j ∧ τ31.2.1 36 j ≤ 20000 := fun j => hT.2 36 j
              have A37 : ∀ j, 0 ≤ τ31.2.1 37 j ∧ τ31.2.1 37 j ≤ 19999 := fun j => hT.2 37 j
              have A67 : ∀ j, 0 ≤ τ31.2.1 67 j ∧ τ31.2.1 67 j ≤ 30000 := fun j => hT.2 67 j
              have A68 : ∀ j, 0 ≤ τ31.2.1 68 j ∧ τ31.2.1 68 j ≤ 30000 := fun j => hT.2 68 j
              have A69 : ∀ j, (-100) ≤ τ31.2.1 69 j ∧ τ31.2.1 69 j ≤ 999 := fun j => hT.2 69 j
              have A70 : ∀ j, 0 ≤ τ31.2.1 70 j ∧ τ31.2.1 70 j ≤ 1499 := fun j => hT.2 70 j
              have A71 : ∀ j, 0 ≤ τ31.2.1 71 j ∧ τ31.2.1 71 j ≤ 1500 := fun j => hT.2 71 j
              have A72 : ∀ j, 0 ≤ τ31.2.1 72 j ∧ τ31.2.1 72 j ≤ 1500 := fun j => hT.2 72 j
              have A73 : ∀ j, 0 ≤ τ31.2.1 73 j ∧ τ31.2.1 73 j ≤ 30000 := fun j => hT.2 73 j
              have A74 : ∀ j, 0 ≤ τ31.2.1 74 j ∧ τ31.2.1 74 j ≤ 30000 := fun j => hT.2 74 j
              have A75 : ∀ j, 0 ≤ τ31.2.1 75 j ∧ τ31.2.1 75 j ≤ 1499 := fun j => hT.2 75 j
              have A76 : ∀ j, 0 ≤ τ31.2.1 76 j ∧ τ31.2.1 76 j ≤ 99 := fun j => hT.2 76 j
              have A77 : ∀ j, 0 ≤ τ31.2.1 77 j ∧ τ31.2.1 77 j ≤ 999 := fun j => hT.2 77 j
              have A78 : ∀ j, (-1) ≤ τ31.2.1 78 j ∧ τ31.2.1 78 j ≤ 1499 := fun j => hT.2 78 j
              have A84 : ∀ j, 0 ≤ τ31.2.1 84 j ∧ τ31.2.1 84 j ≤ 1499 := fun j => hT.2 84 j
              have A87 : ∀ j, 0 ≤ τ31.2.1 87 j ∧ τ31.2.1 87 j ≤ 1499 := fun j => hT.2 87 j
              have v0 : 0 ≤ τ31.1 0 ∧ τ31.1 0 ≤ 60000 := hT.1 0
              have v1 : 0 ≤ τ31.1 1 ∧ τ31.1 1 ≤ 1 := hT.1 1
              have v3 : 0 ≤ τ31.1 3 ∧ τ31.1 3 ≤ 2500 := hT.1 3
              have v4 : 0 ≤ τ31.1 4 ∧ τ31.1 4 ≤ 100 := hT.1 4
              have v5 : 0 ≤ τ31.1 5 ∧ τ31.1 5 ≤ 1000 := hT.1 5
              have v6 : 0 ≤ τ31.1 6 ∧ τ31.1 6 ≤ 30000 := hT.1 6
              have v7 : 0 ≤ τ31.1 7 ∧ τ31.1 7 ≤ 1500 := hT.1 7
              have v13 : 0 ≤ τ31.1 13 ∧ τ31.1 13 ≤ 90000 := hT.1 13
              have v14 : 0 ≤ τ31.1 14 ∧ τ31.1 14 ≤ 20000 := hT.1 14
              have v15 : 0 ≤ τ31.1 15 ∧ τ31.1 15 ≤ 20000 := hT.1 15
              have v45 : 1 ≤ τ31.1 45 ∧ τ31.1 45 ≤ 30001 := hT.1 45
              have v48 : (-1) ≤ τ31.1 48 ∧ τ31.1 48 ≤ 999 := hT.1 48
              have v49 : (-1) ≤ τ31.1 49 ∧ τ31.1 49 ≤ 999 := hT.1 49
              have v50 : 0 ≤ τ31.1 50 ∧ τ31.1 50 ≤ 59 := hT.1 50
              have v51 : 0 ≤ τ31.1 51 ∧ τ31.1 51 ≤ 1500 := hT.1 51
              have v52 : (-1) ≤ τ31.1 52 ∧ τ31.1 52 ≤ 99 := hT.1 52
              have v54 : 0 ≤ τ31.1 54 ∧ τ31.1 54 ≤ 12000 := hT.1 54
              have v55 : 0 ≤ τ31.1 55 ∧ τ31.1 55 ≤ 12000 := hT.1 55
              have rs31 := c_Rs_h rs28 hf_τ31 rfl
              refine ⟨_, K_X1_countTrees hT (show J_all (τ31.1 7) (τ31.1 6) (τ31.1 13) (τ31.1 14) (τ31.1 15) (τ31.2.1 13) (τ31.2.1 14) (τ31.2.1 15) (τ31.2.1 16) (τ31.2.1 10) (τ31.2.1 27) (τ31.2.1 28) (τ31.2.1 29) (τ31.2.1 30) (τ31.2.1 31) (τ31.2.1 32) (τ31.2.1 33) (τ31.2.1 34) (τ31.2.1 35) (τ31.2.1 36) (τ31.2.1 37) from CJ) (show c_Rs τ31 par nof In from by exact rs31) (show ∀ s : Int, 0 ≤ s → s < 1000 → τ31.2.2 3 s = 0 from by exact q29_1) (show J_rks (τ31.1 5) (τ31.1 4) (τ31.2.1 10) (τ31.2.1 11) from RKS) (show J_vs (τ31.1 6) (τ31.1 5) (τ31.2.1 15) from TX) (show ∀ i : Int, 0 ≤ i → i < (τ31.1 50) → 0 ≤ τ31.2.1 78 i → τ31.2.1 78 i < (τ31.1 7) from by (rw [w7_τ31]; exact fun i a b c => (q29_5 i a b c).1)) (show (τ31.1 52) < (τ31.1 4) from by (first | omega | (simp only [st_s] <;> omega) | assumption | omega | fail)), ?_⟩
              intro x33 τ34 r_x33 hn_τ34 hf_τ34 hq
              obtain ⟨hT, q32_1, q32_2, q32_3, q32_4, q32_5⟩ := hq
              replace q32_1 : 0 ≤ x33 ∧ x33 ≤ 2 := q32_1
              replace q32_2 : ∀ s : Int, 0 ≤ s → s < 1000 → (∀ i : Int, 0 ≤ i → i < (τ34.1 50) → τ34.2.1 77 i ≠ s) → τ34.2.2 3 s = 0 := q32_2
              replace q32_3 : c_Rs τ34 par nof In := q32_3
              replace q32_4 : x33 = 1 → (∀ i : Int, 0 ≤ i → i < (τ31.1 50) → g_ok (τ31.1 45) (τ31.1 50) (τ31.1 4) (τ31.1 51) i (τ31.2.1 77) (τ31.2.1 69) par (τ31.2.1 70) nof (g_so (τ31.1 48) (τ31.2.1 14) (τ31.2.1 15) (τ31.2.1 10)) (τ31.2.1 78) In (τ34.2.2 4) (τ34.2.2 5) (τ34.2.1 79)) ∧ 0 ≤ (τ31.1 52) ∧ 0 < (τ31.1 50) ∧ g_H (τ34.2.2 4) (τ31.1 52) 0 (τ31.1 50) ∧ ¬ g_H (τ34.2.2 5) (τ31.1 52) 0 (τ31.1 50) ∧ g_wu (τ31.1 50) (τ31.2.1 77) (τ34.2.2 3) := q32_4
              replace q32_5 : x33 = 1 → ∀ i : Int, 0 ≤ i → i < (τ31.1 50) → g_uq (τ31.1 45) (τ31.1 50) (τ31.1 51) i (0 ≤ τ31.2.1 78 i ∧ ¬ τ31.2.1 15 (τ31.2.1 14 (τ31.2.1 78 i)) = (τ31.1 48)) (τ31.2.1 77) (τ31.2.1 69) par (τ31.2.1 70) nof (g_so (τ31.1 48) (τ31.2.1 14) (τ31.2.1 15) (τ31.2.1 10)) (τ31.2.1 78) In (τ34.2.2 4) (τ34.2.2 5) (τ34.2.1 79) := q32_5
              have w0_τ34 : τ34.1 0 = τ31.1 0 := hf_τ34.1 0 (by decide)
              have w1_τ34 : τ34.1 1 = τ31.1 1 := hf_τ34.1 1 (by decide)
              have w3_τ34 : τ34.1 3 = τ31.1 3 := hf_τ34.1 3 (by decide)
              have w4_τ34 : τ34.1 4 = τ31.1 4 := hf_τ34.1 4 (by decide)
              have w5_τ34 : τ34.1 5 = τ31.1 5 := hf_τ34.1 5 (by decide)
              have w6_τ34 : τ34.1 6 = τ31.1 6 := hf_τ34.1 6 (by decide)
              have w7_τ34 : τ34.1 7 = τ31.1 7 := hf_τ34.1 7 (by decide)
              have w13_τ34 : τ34.1 13 = τ31.1 13 := hf_τ34.1 13 (by decide)
              have w14_τ34 : τ34.1 14 = τ31.1 14 := hf_τ34.1 14 (by decide)
              have w15_τ34 : τ34.1 15 = τ31.1 15 := hf_τ34.1 15 (by decide)
              have w45_τ34 : τ34.1 45 = τ31.1 45 := hf_τ34.1 45 (by decide)
              have w48_τ34 : τ34.1 48 = τ31.1 48 := hf_τ34.1 48 (by decide)
              have w49_τ34 : τ34.1 49 = τ31.1 49 := hf_τ34.1 49 (by decide)
              have w50_τ34 : τ34.1 50 = τ31.1 50 := hf_τ34.1 50 (by decide)
              have w51_τ34 : τ34.1 51 = τ31.1 51 := hf_τ34.1 51 (by decide)
              have w52_τ34 : τ34.1 52 = τ31.1 52 := hf_τ34.1 52 (by decide)
              have w54_τ34 : τ34.1 54 = τ31.1 54 := hf_τ34.1 54 (by decide)
              have w55_τ34 : τ34.1 55 = τ31.1 55 := hf_τ34.1 55 (by decide)
              have g1_τ34 : τ34.2.1 1 = τ31.2.1 1 := hf_τ34.2.1 1 (by decide)
              have g2_τ34 : τ34.2.1 2 = τ31.2.1 2 := hf_τ34.2.1 2 (by decide)
              have g3_τ34 : τ34.2.1 3 = τ31.2.1 3 := hf_τ34.2.1 3 (by decide)
              have g4_τ34 : τ34.2.1 4 = τ31.2.1 4 := hf_τ34.2.1 4 (by decide)
              have g5_τ34 : τ34.2.1 5 = τ31.2.1 5 := hf_τ34.2.1 5 (by decide)
              have g6_τ34 : τ34.2.1 6 = τ31.2.1 6 := hf_τ34.2.1 6 (by decide)
              have g8_τ34 : τ34.2.1 8 = τ31.2.1 8 := hf_τ34.2.1 8 (by decide)
              have g9_τ34 : τ34.2.1 9 = τ31.2.1 9 := hf_τ34.2.1 9 (by decide)
              have g10_τ34 : τ34.2.1 10 = τ31.2.1 10 := hf_τ34.2.1 10 (by decide)
              have g11_τ34 : τ34.2.1 11 = τ31.2.1 11 := hf_τ34.2.1 11 (by decide)
              have g13_τ34 : τ34.2.1 13 = τ31.2.1 13 := hf_τ34.2.1 13 (by decide)
              have g14_τ34 : τ34.2.1 14 = τ31.2.1 14 := hf_τ34.2.1 14 (by decide)
              have g15_τ34 : τ34.2.1 15 = τ31.2.1 15 := hf_τ34.2.1 15 (by decide)
              have g16_τ34 : τ34.2.1 16 = τ31.2.1 16 := hf_τ34.2.1 16 (by decide)
              have g27_τ34 : τ34.2.1 27 = τ31.2.1 27 := hf_τ34.2.1 27 (by decide)
              have g28_τ34 : τ34.2.1 28 = τ31.2.1 28 := hf_τ34.2.1 28 (by decide)
              have g29_τ34 : τ34.2.1 29 = τ31.2.1 29 := hf_τ34.2.1 29 (by decide)
              have g30_τ34 : τ34.2.1 30 = τ31.2.1 30 := hf_τ34.2.1 30 (by decide)
              have g31_τ34 : τ34.2.1 31 = τ31.2.1 31 := hf_τ34.2.1 31 (by decide)
              have g32_τ34 : τ34.2.1 32 = τ31.2.1 32 := hf_τ34.2.1 32 (by decide)
              have g33_τ34 : τ34.2.1 33 = τ31.2.1 33 := hf_τ34.2.1 33 (by decide)
              have g34_τ34 : τ34.2.1 34 = τ31.2.1 34 := hf_τ34.2.1 34 (by decide)
              have g35_τ34 : τ34.2.1 35 = τ31.2.1 35 := hf_τ34.2.1 35 (by decide)
              have g36_τ34 : τ34.2.1 36 = τ31.2.1 36 := hf_τ34.2.1 36 (by decide)
              have g37_τ34 : τ34.2.1 37 = τ31.2.1 37 := hf_τ34.2.1 37 (by decide)
              have g67_τ34 : τ34.2.1 67 = τ31.2.1 67 := hf_τ34.2.1 67 (by decide)
              have g68_τ34 : τ34.2.1 68 = τ31.2.1 68 := hf_τ34.2.1 68 (by decide)
              have g69_τ34 : τ34.2.1 69 = τ31.2.1 69 := hf_τ34.2.1 69 (by decide)
              have g70_τ34 : τ34.2.1 70 = τ31.2.1 70 := hf_τ34.2.1 70 (by decide)
              have g71_τ34 : τ34.2.1 71 = τ31.2.1 71 := hf_τ34.2.1 71 (by decide)
              have g72_τ34 : τ34.2.1 72 = τ31.2.1 72 := hf_τ34.2.1 72 (by decide)
              have g73_τ34 : τ34.2.1 73 = τ31.2.1 73 := hf_τ34.2.1 73 (by decide)
              have g74_τ34 : τ34.2.1 74 = τ31.2.1 74 := hf_τ34.2.1 74 (by decide)
              have g75_τ34 : τ34.2.1 75 = τ31.2.1 75 := hf_τ34.2.1 75 (by decide)
              have g76_τ34 : τ34.2.1 76 = τ31.2.1 76 := hf_τ34.2.1 76 (by decide)
              have g77_τ34 : τ34.2.1 77 = τ31.2.1 77 := hf_τ34.2.1 77 (by decide)
              have g78_τ34 : τ34.2.1 78 = τ31.2.1 78 := hf_τ34.2.1 78 (by decide)
              have g84_τ34 : τ34.2.1 84 = τ31.2.1 84 := hf_τ34.2.1 84 (by decide)
              have g87_τ34 : τ34.2.1 87 = τ31.2.1 87 := hf_τ34.2.1 87 (by decide)
              have W3 : τ34.1 3 = σ.1 3 := by first | exact w3_τ34.trans W3 | omega
              have W4 : τ34.1 4 = σ.1 4 := by first | exact w4_τ34.trans W4 | omega
              have W5 : τ34.1 5 = σ.1 5 := by first | exact w5_τ34.trans W5 | omega
              have W6 : τ34.1 6 = σ.1 6 := by first | exact w6_τ34.trans W6 | omega
              have W7 : τ34.1 7 = σ.1 7 := by first | exact w7_τ34.trans W7 | omega
              have W13 : τ34.1 13 = σ.1 13 := by first | exact w13_τ34.trans W13 | omega
              have W14 : τ34.1 14 = σ.1 14 := by first | exact w14_τ34.trans W14 | omega
              have W15 : τ34.1 15 = σ.1 15 := by first | exact w15_τ34.trans W15 | omega
              have G2 : τ34.2.1 2 = σ.2.1 2 := (g2_τ34).trans G2
              have G3 : τ34.2.1 3 = σ.2.1 3 := (g3_τ34).trans G3
              have G4 : τ34.2.1 4 = σ.2.1 4 := (g4_τ34).trans G4
              have G5 : τ34.2.1 5 = σ.2.1 5 := (g5_τ34).trans G5
              have G6 : τ34.2.1 6 = σ.2.1 6 := (g6_τ34).trans G6
              have G8 : τ34.2.1 8 = σ.2.1 8 := (g8_τ34).trans G8
              have G9 : τ34.2.1 9 = σ.2.1 9 := (g9_τ34).trans G9
              have G10 : τ34.2.1 10 = σ.2.1 10 := (g10_τ34).trans G10
              have G11 : τ34.2.1 11 = σ.2.1 11 := (g11_τ34).trans G11
              have G13 : τ34.2.1 13 = σ.2.1 13 := (g13_τ34).trans G13
              have G14 : τ34.2.1 14 = σ.2.1 14 := (g14_τ34).trans G14
              have G15 : τ34.2.1 15 = σ.2.1 15 := (g15_τ34).trans G15
              have G16 : τ34.2.1 16 = σ.2.1 16 := (g16_τ34).trans G16
              have G27 : τ34.2.1 27 = σ.2.1 27 := (g27_τ34).trans G27
              have G28 : τ34.2.1 28 = σ.2.1 28 := (g28_τ34).trans G28
              have G29 : τ34.2.1 29 = σ.2.1 29 := (g29_τ34).trans G29
              have G30 : τ34.2.1 30 = σ.2.1 30 := (g30_τ34).trans G30
              have G31 : τ34.2.1 31 = σ.2.1 31 := (g31_τ34).trans G31
              have G32 : τ34.2.1 32 = σ.2.1 32 := (g32_τ34).trans G32
              have G33 : τ34.2.1 33 = σ.2.1 33 := (g33_τ34).trans G33
              have G34 : τ34.2.1 34 = σ.2.1 34 := (g34_τ34).trans G34
              have G35 : τ34.2.1 35 = σ.2.1 35 := (g35_τ34).trans G35
              have G36 : τ34.2.1 36 = σ.2.1 36 := (g36_τ34).trans G36
              have G37 : τ34.2.1 37 = σ.2.1 37 := (g37_τ34).trans G37
              have HT : J_ht (τ34.1 3) (τ34.2.1 2) (τ34.2.1 3) (τ34.2.1 5) (τ34.2.1 6) := by rw [show (J_ht (τ34.1 3) (τ34.2.1 2) (τ34.2.1 3) (τ34.2.1 5) (τ34.2.1 6)) = (J_ht (τ31.1 3) (τ31.2.1 2) (τ31.2.1 3) (τ31.2.1 5) (τ31.2.1 6)) from by rw [w3_τ34, g2_τ34, g3_τ34, g5_τ34, g6_τ34]]; exact HT
              have MN : J_mn (τ34.1 3) (τ34.1 5) ((τ34.1 7) + 1) (τ34.2.1 4) := by rw [show (J_mn (τ34.1 3) (τ34.1 5) ((τ34.1 7) + 1) (τ34.2.1 4)) = (J_mn (τ31.1 3) (τ31.1 5) ((τ31.1 7) + 1) (τ31.2.1 4)) from by rw [w3_τ34, w5_τ34, w7_τ34, g4_τ34]]; exact MN
              have FF : J_ff (τ34.1 5) (τ34.1 7) (τ34.2.1 9) (τ34.2.1 13) (τ34.2.1 14) (τ34.2.1 15) := by rw [show (J_ff (τ34.1 5) (τ34.1 7) (τ34.2.1 9) (τ34.2.1 13) (τ34.2.1 14) (τ34.2.1 15)) = (J_ff (τ31.1 5) (τ31.1 7) (τ31.2.1 9) (τ31.2.1 13) (τ31.2.1 14) (τ31.2.1 15)) from by rw [w5_τ34, w7_τ34, g9_τ34, g13_τ34, g14_τ34, g15_τ34]]; exact FF
              have TX : J_vs (τ34.1 6) (τ34.1 5) (τ34.2.1 15) := by rw [show (J_vs (τ34.1 6) (τ34.1 5) (τ34.2.1 15)) = (J_vs (τ31.1 6) (τ31.1 5) (τ31.2.1 15)) from by rw [w5_τ34, w6_τ34, g15_τ34]]; exact TX
              have RKS : J_rks (τ34.1 5) (τ34.1 4) (τ34.2.1 10) (τ34.2.1 11) := by rw [show (J_rks (τ34.1 5) (τ34.1 4) (τ34.2.1 10) (τ34.2.1 11)) = (J_rks (τ31.1 5) (τ31.1 4) (τ31.2.1 10) (τ31.2.1 11)) from by rw [w4_τ34, w5_τ34, g10_τ34, g11_τ34]]; exact RKS
              have CJ : J_all (τ34.1 7) (τ34.1 6) (τ34.1 13) (τ34.1 14) (τ34.1 15) (τ34.2.1 13) (τ34.2.1 14) (τ34.2.1 15) (τ34.2.1 16) (τ34.2.1 10) (τ34.2.1 27) (τ34.2.1 28) (τ34.2.1 29) (τ34.2.1 30) (τ34.2.1 31) (τ34.2.1 32) (τ34.2.1 33) (τ34.2.1 34) (τ34.2.1 35) (τ34.2.1 36) (τ34.2.1 37) := by rw [show (J_all (τ34.1 7) (τ34.1 6) (τ34.1 13) (τ34.1 14) (τ34.1 15) (τ34.2.1 13) (τ34.2.1 14) (τ34.2.1 15) (τ34.2.1 16) (τ34.2.1 10) (τ34.2.1 27) (τ34.2.1 28) (τ34.2.1 29) (τ34.2.1 30) (τ34.2.1 31) (τ34.2.1 32) (τ34.2.1 33) (τ34.2.1 34) (τ34.2.1 35) (τ34.2.1 36) (τ34.2.1 37)) = (J_all (τ31.1 7) (τ31.1 6) (τ31.1 13) (τ31.1 14) (τ31.1 15) (τ31.2.1 13) (τ31.2.1 14) (τ31.2.1 15) (τ31.2.1 16) (τ31.2.1 10) (τ31.2.1 27) (τ31.2.1 28) (τ31.2.1 29) (τ31.2.1 30) (τ31.2.1 31) (τ31.2.1 32) (τ31.2.1 33) (τ31.2.1 34) (τ31.2.1 35) (τ31.2.1 36) (τ31.2.1 37)) from by rw [w6_τ34, w7_τ34, w13_τ34, w14_τ34, w15_τ34, g10_τ34, g13_τ34, g14_τ34, g15_τ34, g16_τ34, g27_τ34, g28_τ34, g29_τ34, g30_τ34, g31_τ34, g32_τ34, g33_τ34, g34_τ34, g35_τ34, g36_τ34, g37_τ34]]; exact CJ
              have PTN : ∀ k : Int, 0 ≤ k → k < (τ34.1 55) → τ34.2.1 87 k < (τ34.1 7) := by rw [show (∀ k : Int, 0 ≤ k → k < (τ34.1 55) → τ34.2.1 87 k < (τ34.1 7)) = (∀ k : Int, 0 ≤ k → k < (τ31.1 55) → τ31.2.1 87 k < (τ31.1 7)) from by rw [w7_τ34, w55_τ34, g87_τ34]]; exact PTN
              have A1 : ∀ j, 0 ≤ τ34.2.1 1 j ∧ τ34.2.1 1 j ≤ 999 := fun j => hT.2 1 j
              have A2 : ∀ j, 0 ≤ τ34.2.1 2 j ∧ τ34.2.1 2 j ≤ 65535 := fun j => hT.2 2 j
              have A3 : ∀ j, 0 ≤ τ34.2.1 3 j ∧ τ34.2.1 3 j ≤ 30000 := fun j => hT.2 3 j
              have A4 : ∀ j, (-1000) ≤ τ34.2.1 4 j ∧ τ34.2.1 4 j ≤ 1499 := fun j => hT.2 4 j
              have A5 : ∀ j, 0 ≤ τ34.2.1 5 j ∧ τ34.2.1 5 j ≤ 2500 := fun j => hT.2 5 j
              have A6 : ∀ j, 0 ≤ τ34.2.1 6 j ∧ τ34.2.1 6 j ≤ 2500 := fun j => hT.2 6 j
              have A8 : ∀ j, 0 ≤ τ34.2.1 8 j ∧ τ34.2.1 8 j ≤ 1 := fun j => hT.2 8 j
              have A9 : ∀ j, (-1) ≤ τ34.2.1 9 j ∧ τ34.2.1 9 j ≤ 1499 := fun j => hT.2 9 j
              have A10 : ∀ j, (-1) ≤ τ34.2.1 10 j ∧ τ34.2.1 10 j ≤ 99 := fun j => hT.2 10 j
              have A11 : ∀ j, 0 ≤ τ34.2.1 11 j ∧ τ34.2.1 11 j ≤ 999 := fun j => hT.2 11 j
              have A13 : ∀ j, 0 ≤ τ34.2.1 13 j ∧ τ34.2.1 13 j ≤ 4 := fun j => hT.2 13 j
              have A14 : ∀ j, 0 ≤ τ34.2.1 14 j ∧ τ34.2.1 14 j ≤ 30000 := fun j => hT.2 14 j
              have A15 : ∀ j, 0 ≤ τ34.2.1 15 j ∧ τ34.2.1 15 j ≤ 999 := fun j => hT.2 15 j
              have A16 : ∀ j, (-1) ≤ τ34.2.1 16 j ∧ τ34.2.1 16 j ≤ 1499 := fun j => hT.2 16 j
              have A27 : ∀ j, 0 ≤ τ34.2.1 27 j ∧ τ34.2.1 27 j ≤ 90000 := fun j => hT.2 27 j
              have A28 : ∀ j, 0 ≤ τ34.2.1 28 j ∧ τ34.2.1 28 j ≤ 60 := fun j => hT.2 28 j
              have A29 : ∀ j, 0 ≤ τ34.2.1 29 j ∧ τ34.2.1 29 j ≤ 1499 := fun j => hT.2 29 j
              have A30 : ∀ j, 0 ≤ τ34.2.1 30 j ∧ τ34.2.1 30 j ≤ 20000 := fun j => hT.2 30 j
              have A31 : ∀ j, 0 ≤ τ34.2.1 31 j ∧ τ34.2.1 31 j ≤ 20000 := fun j => hT.2 31 j
              have A32 : ∀ j, 0 ≤ τ34.2.1 32 j ∧ τ34.2.1 32 j ≤ 999999 := fun j => hT.2 32 j
              have A33 : ∀ j, 0 ≤ τ34.2.1 33 j ∧ τ34.2.1 33 j ≤ 20000 := fun j => hT.2 33 j
              have A34 : ∀ j, 0 ≤ τ34.2.1 34 j ∧ τ34.2.1 34 j ≤ 20000 := fun j => hT.2 34 j
              have A35 : ∀ j, 0 ≤ τ34.2.1 35 j ∧ τ34.2.1 35 j ≤ 1499 := fun j => hT.2 35 j
              have A36 : ∀ j, 0 ≤ τ34.2.1 36 j ∧ τ34.2.1 36 j ≤ 20000 := fun j => hT.2 36 j
              have A37 : ∀ j, 0 ≤ τ34.2.1 37 j ∧ τ34.2.1 37 j ≤ 19999 := fun j => hT.2 37 j
              have A67 : ∀ j, 0 ≤ τ34.2.1 67 j ∧ τ34.2.1 67 j ≤ 30000 := fun j => hT.2 67 j
              have A68 : ∀ j, 0 ≤ τ34.2.1 68 j ∧ τ34.2.1 68 j ≤ 30000 := fun j => hT.2 68 j
              have A69 : ∀ j, (-100) ≤ τ34.2.1 69 j ∧ τ34.2.1 69 j ≤ 999 := fun j => hT.2 69 j
              have A70 : ∀ j, 0 ≤ τ34.2.1 70 j ∧ τ34.2.1 70 j ≤ 1499 := fun j => hT.2 70 j
              have A71 : ∀ j, 0 ≤ τ34.2.1 71 j ∧ τ34.2.1 71 j ≤ 1500 := fun j => hT.2 71 j
              have A72 : ∀ j, 0 ≤ τ34.2.1 72 j ∧ τ34.2.1 72 j ≤ 1500 := fun j => hT.2 72 j
              have A73 : ∀ j, 0 ≤ τ34.2.1 73 j ∧ τ34.2.1 73 j ≤ 30000 := fun j => hT.2 73 j
              have A74 : ∀ j, 0 ≤ τ34.2.1 74 j ∧ τ34.2.1 74 j ≤ 30000 := fun j => hT.2 74 j
              have A75 : ∀ j, 0 ≤ τ34.2.1 75 j ∧ τ34.2.1 75 j ≤ 1499 := fun j => hT.2 75 j
              have A76 : ∀ j, 0 ≤ τ34.2.1 76 j ∧ τ34.2.1 76 j ≤ 99 := fun j => hT.2 76 j
              have A77 : ∀ j, 0 ≤ τ34.2.1 77 j ∧ τ34.2.1 77 j ≤ 999 := fun j => hT.2 77 j
              have A78 : ∀ j, (-1) ≤ τ34.2.1 78 j ∧ τ34.2.1 78 j ≤ 1499 := fun j => hT.2 78 j
              have A84 : ∀ j, 0 ≤ τ34.2.1 84 j ∧ τ34.2.1 84 j ≤ 1499 := fun j => hT.2 84 j
              have A87 : ∀ j, 0 ≤ τ34.2.1 87 j ∧ τ34.2.1 87 j ≤ 1499 := fun j => hT.2 87 j
              have v0 : 0 ≤ τ34.1 0 ∧ τ34.1 0 ≤ 60000 := hT.1 0
              have v1 : 0 ≤ τ34.1 1 ∧ τ34.1 1 ≤ 1 := hT.1 1
              have v3 : 0 ≤ τ34.1 3 ∧ τ34.1 3 ≤ 2500 := hT.1 3
              have v4 : 0 ≤ τ34.1 4 ∧ τ34.1 4 ≤ 100 := hT.1 4
              have v5 : 0 ≤ τ34.1 5 ∧ τ34.1 5 ≤ 1000 := hT.1 5
              have v6 : 0 ≤ τ34.1 6 ∧ τ34.1 6 ≤ 30000 := hT.1 6
              have v7 : 0 ≤ τ34.1 7 ∧ τ34.1 7 ≤ 1500 := hT.1 7
              have v13 : 0 ≤ τ34.1 13 ∧ τ34.1 13 ≤ 90000 := hT.1 13
              have v14 : 0 ≤ τ34.1 14 ∧ τ34.1 14 ≤ 20000 := hT.1 14
              have v15 : 0 ≤ τ34.1 15 ∧ τ34.1 15 ≤ 20000 := hT.1 15
              have v45 : 1 ≤ τ34.1 45 ∧ τ34.1 45 ≤ 30001 := hT.1 45
              have v48 : (-1) ≤ τ34.1 48 ∧ τ34.1 48 ≤ 999 := hT.1 48
              have v49 : (-1) ≤ τ34.1 49 ∧ τ34.1 49 ≤ 999 := hT.1 49
              have v50 : 0 ≤ τ34.1 50 ∧ τ34.1 50 ≤ 59 := hT.1 50
              have v51 : 0 ≤ τ34.1 51 ∧ τ34.1 51 ≤ 1500 := hT.1 51
              have v52 : (-1) ≤ τ34.1 52 ∧ τ34.1 52 ≤ 99 := hT.1 52
              have v54 : 0 ≤ τ34.1 54 ∧ τ34.1 54 ≤ 12000 := hT.1 54
              have v55 : 0 ≤ τ34.1 55 ∧ τ34.1 55 ≤ 12000 := hT.1 55
              have gm34 : c_GM In0 τ34 := ⟨c_LR_h (c_LR_h gm28.1 hf_τ31 rfl rfl) hf_τ34 rfl rfl, q32_2⟩
              refine ⟨fun c35 => ?_, fun c35 => ?_⟩
              ·
                have lk31 : ∀ i : Int, 0 ≤ i → i < τ31.1 50 → 0 ≤ τ31.2.1 78 i → τ31.2.1 78 i < τ31.1 7 ∧ τ31.2.1 13 (τ31.2.1 78 i) = 0 := by (rw [w7_τ31, g13_τ31]; exact q29_5)
                have gr34 := c_GR_c hf_τ34 rfl rfl lk31 (by omega) (q32_4 (by assumption)) (q32_5 (by assumption))
                refine ⟨_, K_X11_grow hT (show J_all (τ34.1 7) (τ34.1 6) (τ34.1 13) (τ34.1 14) (τ34.1 15) (τ34.2.1 13) (τ34.2.1 14) (τ34.2.1 15) (τ34.2.1 16) (τ34.2.1 10) (τ34.2.1 27) (τ34.2.1 28) (τ34.2.1 29) (τ34.2.1 30) (τ34.2.1 31) (τ34.2.1 32) (τ34.2.1 33) (τ34.2.1 34) (τ34.2.1 35) (τ34.2.1 36) (τ34.2.1 37) from CJ) (show c_Rs τ34 par nof In from by exact q32_3) (show J_rks (τ34.1 5) (τ34.1 4) (τ34.2.1 10) (τ34.2.1 11) from RKS) (show J_vs (τ34.1 6) (τ34.1 5) (τ34.2.1 15) from TX) (show ∀ i : Int, 0 ≤ i → i < (τ34.1 50) → 0 ≤ τ34.2.1 78 i → τ34.2.1 78 i < (τ34.1 7) ∧ τ34.2.1 13 (τ34.2.1 78 i) = 0 from by exact gr34.1) (show ∀ i : Int, 0 ≤ i → i < (τ34.1 50) → g_ok (τ34.1 45) (τ34.1 50) (τ34.1 4) (τ34.1 51) i (τ34.2.1 77) (τ34.2.1 69) par (τ34.2.1 70) nof (g_so (τ34.1 48) (τ34.2.1 14) (τ34.2.1 15) (τ34.2.1 10)) (τ34.2.1 78) In (τ34.2.2 4) (τ34.2.2 5) (τ34.2.1 79) from by exact gr34.2.1) (show 0 ≤ (τ34.1 52) ∧ (τ34.1 52) < (τ34.1 4) from by exact gr34.2.2.1) (show 0 < (τ34.1 50) from by exact gr34.2.2.2.1) (show g_H (τ34.2.2 4) (τ34.1 52) 0 (τ34.1 50) ∧ ¬ g_H (τ34.2.2 5) (τ34.1 52) 0 (τ34.1 50) from by exact gr34.2.2.2.2.1) (show g_wu (τ34.1 50) (τ34.2.1 77) (τ34.2.2 3) from by exact gr34.2.2.2.2.2.1), ?_⟩
                intro τ38 hn_τ38 hf_τ38 hq
                obtain ⟨hT, q36_1, q36_2⟩ := hq
                replace q36_1 : g_tre (τ38.1 7) (τ38.1 54) (τ38.2.1 13) (τ38.2.1 14) (τ38.2.1 27) (τ38.2.1 28) (τ38.2.1 29) (τ38.2.1 84) := q36_1
                replace q36_2 : g_T (τ34.1 50) (τ34.1 51) (τ34.1 48) (τ34.2.1 77) (τ34.2.1 78) (τ34.2.1 13) (τ34.2.1 14) (τ34.2.1 15) (τ34.2.1 16) (τ34.2.1 10) (τ34.2.1 27) (τ34.2.1 28) (τ34.2.1 29) In (τ34.1 52) 0 (τ34.1 50) (g_pre (τ38.2.1 84) ((τ38.1 54)).toNat) := q36_2
                have w0_τ38 : τ38.1 0 = τ34.1 0 := hf_τ38.1 0 (by decide)
                have w1_τ38 : τ38.1 1 = τ34.1 1 := hf_τ38.1 1 (by decide)
                have w3_τ38 : τ38.1 3 = τ34.1 3 := hf_τ38.1 3 (by decide)
                have w4_τ38 : τ38.1 4 = τ34.1 4 := hf_τ38.1 4 (by decide)
                have w5_τ38 : τ38.1 5 = τ34.1 5 := hf_τ38.1 5 (by decide)
                have w6_τ38 : τ38.1 6 = τ34.1 6 := hf_τ38.1 6 (by decide)
                have w7_τ38 : τ38.1 7 = τ34.1 7 := hf_τ38.1 7 (by decide)
                have w13_τ38 : τ38.1 13 = τ34.1 13 := hf_τ38.1 13 (by decide)
                have w14_τ38 : τ38.1 14 = τ34.1 14 := hf_τ38.1 14 (by decide)
                have w15_τ38 : τ38.1 15 = τ34.1 15 := hf_τ38.1 15 (by decide)
                have w45_τ38 : τ38.1 45 = τ34.1 45 := hf_τ38.1 45 (by decide)
                have w48_τ38 : τ38.1 48 = τ34.1 48 := hf_τ38.1 48 (by decide)
                have w49_τ38 : τ38.1 49 = τ34.1 49 := hf_τ38.1 49 (by decide)
                have w50_τ38 : τ38.1 50 = τ34.1 50 := hf_τ38.1 50 (by decide)
                have w51_τ38 : τ38.1 51 = τ34.1 51 := hf_τ38.1 51 (by decide)
                have w52_τ38 : τ38.1 52 = τ34.1 52 := hf_τ38.1 52 (by decide)
                have w55_τ38 : τ38.1 55 = τ34.1 55 := hf_τ38.1 55 (by decide)
                have g1_τ38 : τ38.2.1 1 = τ34.2.1 1 := hf_τ38.2.1 1 (by decide)
                have g2_τ38 : τ38.2.1 2 = τ34.2.1 2 := hf_τ38.2.1 2 (by decide)
                have g3_τ38 : τ38.2.1 3 = τ34.2.1 3 := hf_τ38.2.1 3 (by decide)
                have g4_τ38 : τ38.2.1 4 = τ34.2.1 4 := hf_τ38.2.1 4 (by decide)
                have g5_τ38 : τ38.2.1 5 = τ34.2.1 5 := hf_τ38.2.1 5 (by decide)
                have g6_τ38 : τ38.2.1 6 = τ34.2.1 6 := hf_τ38.2.1 6 (by decide)
                have g8_τ38 : τ38.2.1 8 = τ34.2.1 8 := hf_τ38.2.1 8 (by decide)
                have g9_τ38 : τ38.2.1 9 = τ34.2.1 9 := hf_τ38.2.1 9 (by decide)
                have g10_τ38 : τ38.2.1 10 = τ34.2.1 10 := hf_τ38.2.1 10 (by decide)
                have g11_τ38 : τ38.2.1 11 = τ34.2.1 11 := hf_τ38.2.1 11 (by decide)
                have g13_τ38 : τ38.2.1 13 = τ34.2.1 13 := hf_τ38.2.1 13 (by decide)
                have g14_τ38 : τ38.2.1 14 = τ34.2.1 14 := hf_τ38.2.1 14 (by decide)
                have g15_τ38 : τ38.2.1 15 = τ34.2.1 15 := hf_τ38.2.1 15 (by decide)
                have g16_τ38 : τ38.2.1 16 = τ34.2.1 16 := hf_τ38.2.1 16 (by decide)
                have g27_τ38 : τ38.2.1 27 = τ34.2.1 27 := hf_τ38.2.1 27 (by decide)
                have g28_τ38 : τ38.2.1 28 = τ34.2.1 28 := hf_τ38.2.1 28 (by decide)
                have g29_τ38 : τ38.2.1 29 = τ34.2.1 29 := hf_τ38.2.1 29 (by decide)
                have g30_τ38 : τ38.2.1 30 = τ34.2.1 30 := hf_τ38.2.1 30 (by decide)
                have g31_τ38 : τ38.2.1 31 = τ34.2.1 31 := hf_τ38.2.1 31 (by decide)
                have g32_τ38 : τ38.2.1 32 = τ34.2.1 32 := hf_τ38.2.1 32 (by decide)
                have g33_τ38 : τ38.2.1 33 = τ34.2.1 33 := hf_τ38.2.1 33 (by decide)
                have g34_τ38 : τ38.2.1 34 = τ34.2.1 34 := hf_τ38.2.1 34 (by decide)
                have g35_τ38 : τ38.2.1 35 = τ34.2.1 35 := hf_τ38.2.1 35 (by decide)
                have g36_τ38 : τ38.2.1 36 = τ34.2.1 36 := hf_τ38.2.1 36 (by decide)
                have g37_τ38 : τ38.2.1 37 = τ34.2.1 37 := hf_τ38.2.1 37 (by decide)
                have g67_τ38 : τ38.2.1 67 = τ34.2.1 67 := hf_τ38.2.1 67 (by decide)
                have g68_τ38 : τ38.2.1 68 = τ34.2.1 68 := hf_τ38.2.1 68 (by decide)
                have g69_τ38 : τ38.2.1 69 = τ34.2.1 69 := hf_τ38.2.1 69 (by decide)
                have g70_τ38 : τ38.2.1 70 = τ34.2.1 70 := hf_τ38.2.1 70 (by decide)
                have g71_τ38 : τ38.2.1 71 = τ34.2.1 71 := hf_τ38.2.1 71 (by decide)
                have g72_τ38 : τ38.2.1 72 = τ34.2.1 72 := hf_τ38.2.1 72 (by decide)
                have g73_τ38 : τ38.2.1 73 = τ34.2.1 73 := hf_τ38.2.1 73 (by decide)
                have g74_τ38 : τ38.2.1 74 = τ34.2.1 74 := hf_τ38.2.1 74 (by decide)
                have g75_τ38 : τ38.2.1 75 = τ34.2.1 75 := hf_τ38.2.1 75 (by decide)
                have g76_τ38 : τ38.2.1 76 = τ34.2.1 76 := hf_τ38.2.1 76 (by decide)
                have g77_τ38 : τ38.2.1 77 = τ34.2.1 77 := hf_τ38.2.1 77 (by decide)
                have g78_τ38 : τ38.2.1 78 = τ34.2.1 78 := hf_τ38.2.1 78 (by decide)
                have g87_τ38 : τ38.2.1 87 = τ34.2.1 87 := hf_τ38.2.1 87 (by decide)
                have W3 : τ38.1 3 = σ.1 3 := by first | exact w3_τ38.trans W3 | omega
                have W4 : τ38.1 4 = σ.1 4 := by first | exact w4_τ38.trans W4 | omega
                have W5 : τ38.1 5 = σ.1 5 := by first | exact w5_τ38.trans W5 | omega
                have W6 : τ38.1 6 = σ.1 6 := by first | exact w6_τ38.trans W6 | omega
                have W7 : τ38.1 7 = σ.1 7 := by first | exact w7_τ38.trans W7 | omega
                have W13 : τ38.1 13 = σ.1 13 := by first | exact w13_τ38.trans W13 | omega
                have W14 : τ38.1 14 = σ.1 14 := by first | exact w14_τ38.trans W14 | omega
                have W15 : τ38.1 15 = σ.1 15 := by first | exact w15_τ38.trans W15 | omega
                have G2 : τ38.2.1 2 = σ.2.1 2 := (g2_τ38).trans G2
                have G3 : τ38.2.1 3 = σ.2.1 3 := (g3_τ38).trans G3
                have G4 : τ38.2.1 4 = σ.2.1 4 := (g4_τ38).trans G4
                have G5 : τ38.2.1 5 = σ.2.1 5 := (g5_τ38).trans G5
                have G6 : τ38.2.1 6 = σ.2.1 6 := (g6_τ38).trans G6
                have G8 : τ38.2.1 8 = σ.2.1 8 := (g8_τ38).trans G8
                have G9 : τ38.2.1 9 = σ.2.1 9 := (g9_τ38).trans G9
                have G10 : τ38.2.1 10 = σ.2.1 10 := (g10_τ38).trans G10
                have G11 : τ38.2.1 11 = σ.2.1 11 := (g11_τ38).trans G11
                have G13 : τ38.2.1 13 = σ.2.1 13 := (g13_τ38).trans G13
                have G14 : τ38.2.1 14 = σ.2.1 14 := (g14_τ38).trans G14
                have G15 : τ38.2.1 15 = σ.2.1 15 := (g15_τ38).trans G15
                have G16 : τ38.2.1 16 = σ.2.1 16 := (g16_τ38).trans G16
                have G27 : τ38.2.1 27 = σ.2.1 27 := (g27_τ38).trans G27
                have G28 : τ38.2.1 28 = σ.2.1 28 := (g28_τ38).trans G28
                have G29 : τ38.2.1 29 = σ.2.1 29 := (g29_τ38).trans G29
                have G30 : τ38.2.1 30 = σ.2.1 30 := (g30_τ38).trans G30
                have G31 : τ38.2.1 31 = σ.2.1 31 := (g31_τ38).trans G31
                have G32 : τ38.2.1 32 = σ.2.1 32 := (g32_τ38).trans G32
                have G33 : τ38.2.1 33 = σ.2.1 33 := (g33_τ38).trans G33
                have G34 : τ38.2.1 34 = σ.2.1 34 := (g34_τ38).trans G34
                have G35 : τ38.2.1 35 = σ.2.1 35 := (g35_τ38).trans G35
                have G36 : τ38.2.1 36 = σ.2.1 36 := (g36_τ38).trans G36
                have G37 : τ38.2.1 37 = σ.2.1 37 := (g37_τ38).trans G37
                have HT : J_ht (τ38.1 3) (τ38.2.1 2) (τ38.2.1 3) (τ38.2.1 5) (τ38.2.1 6) := by rw [show (J_ht (τ38.1 3) (τ38.2.1 2) (τ38.2.1 3) (τ38.2.1 5) (τ38.2.1 6)) = (J_ht (τ34.1 3) (τ34.2.1 2) (τ34.2.1 3) (τ34.2.1 5) (τ34.2.1 6)) from by rw [w3_τ38, g2_τ38, g3_τ38, g5_τ38, g6_τ38]]; exact HT
                have MN : J_mn (τ38.1 3) (τ38.1 5) ((τ38.1 7) + 1) (τ38.2.1 4) := by rw [show (J_mn (τ38.1 3) (τ38.1 5) ((τ38.1 7) + 1) (τ38.2.1 4)) = (J_mn (τ34.1 3) (τ34.1 5) ((τ34.1 7) + 1) (τ34.2.1 4)) from by rw [w3_τ38, w5_τ38, w7_τ38, g4_τ38]]; exact MN
                have FF : J_ff (τ38.1 5) (τ38.1 7) (τ38.2.1 9) (τ38.2.1 13) (τ38.2.1 14) (τ38.2.1 15) := by rw [show (J_ff (τ38.1 5) (τ38.1 7) (τ38.2.1 9) (τ38.2.1 13) (τ38.2.1 14) (τ38.2.1 15)) = (J_ff (τ34.1 5) (τ34.1 7) (τ34.2.1 9) (τ34.2.1 13) (τ34.2.1 14) (τ34.2.1 15)) from by rw [w5_τ38, w7_τ38, g9_τ38, g13_τ38, g14_τ38, g15_τ38]]; exact FF
                have TX : J_vs (τ38.1 6) (τ38.1 5) (τ38.2.1 15) := by rw [show (J_vs (τ38.1 6) (τ38.1 5) (τ38.2.1 15)) = (J_vs (τ34.1 6) (τ34.1 5) (τ34.2.1 15)) from by rw [w5_τ38, w6_τ38, g15_τ38]]; exact TX
                have RKS : J_rks (τ38.1 5) (τ38.1 4) (τ38.2.1 10) (τ38.2.1 11) := by rw [show (J_rks (τ38.1 5) (τ38.1 4) (τ38.2.1 10) (τ38.2.1 11)) = (J_rks (τ34.1 5) (τ34.1 4) (τ34.2.1 10) (τ34.2.1 11)) from by rw [w4_τ38, w5_τ38, g10_τ38, g11_τ38]]; exact RKS
                have CJ : J_all (τ38.1 7) (τ38.1 6) (τ38.1 13) (τ38.1 14) (τ38.1 15) (τ38.2.1 13) (τ38.2.1 14) (τ38.2.1 15) (τ38.2.1 16) (τ38.2.1 10) (τ38.2.1 27) (τ38.2.1 28) (τ38.2.1 29) (τ38.2.1 30) (τ38.2.1 31) (τ38.2.1 32) (τ38.2.1 33) (τ38.2.1 34) (τ38.2.1 35) (τ38.2.1 36) (τ38.2.1 37) := by rw [show (J_all (τ38.1 7) (τ38.1 6) (τ38.1 13) (τ38.1 14) (τ38.1 15) (τ38.2.1 13) (τ38.2.1 14) (τ38.2.1 15) (τ38.2.1 16) (τ38.2.1 10) (τ38.2.1 27) (τ38.2.1 28) (τ38.2.1 29) (τ38.2.1 30) (τ38.2.1 31) (τ38.2.1 32) (τ38.2.1 33) (τ38.2.1 34) (τ38.2.1 35) (τ38.2.1 36) (τ38.2.1 37)) = (J_all (τ34.1 7) (τ34.1 6) (τ34.1 13) (τ34.1 14) (τ34.1 15) (τ34.2.1 13) (τ34.2.1 14) (τ34.2.1 15) (τ34.2.1 16) (τ34.2.1 10) (τ34.2.1 27) (τ34.2.1 28) (τ34.2.1 29) (τ34.2.1 30) (τ34.2.1 31) (τ34.2.1 32) (τ34.2.1 33) (τ34.2.1 34) (τ34.2.1 35) (τ34.2.1 36) (τ34.2.1 37)) from by rw [w6_τ38, w7_τ38, w13_τ38, w14_τ38, w15_τ38, g10_τ38, g13_τ38, g14_τ38, g15_τ38, g16_τ38, g27_τ38, g28_τ38, g29_τ38, g30_τ38, g31_τ38, g32_τ38, g33_τ38, g34_τ38, g35_τ38, g36_τ38, g37_τ38]]; exact CJ
                have PTN : ∀ k : Int, 0 ≤ k → k < (τ38.1 55) → τ38.2.1 87 k < (τ38.1 7) := by rw [show (∀ k : Int, 0 ≤ k → k < (τ38.1 55) → τ38.2.1 87 k < (τ38.1 7)) = (∀ k : Int, 0 ≤ k → k < (τ34.1 55) → τ34.2.1 87 k < (τ34.1 7)) from by rw [w7_τ38, w55_τ38, g87_τ38]]; exact PTN
                have A1 : ∀ j, 0 ≤ τ38.2.1 1 j ∧ τ38.2.1 1 j ≤ 999 := fun j => hT.2 1 j
                have A2 : ∀ j, 0 ≤ τ38.2.1 2 j ∧ τ38.2.1 2 j ≤ 65535 := fun j => hT.2 2 j
                have A3 : ∀ j, 0 ≤ τ38.2.1 3 j ∧ τ38.2.1 3 j ≤ 30000 := fun j => hT.2 3 j
                have A4 : ∀ j, (-1000) ≤ τ38.2.1 4 j ∧ τ38.2.1 4 j ≤ 1499 := fun j => hT.2 4 j
                have A5 : ∀ j, 0 ≤ τ38.2.1 5 j ∧ τ38.2.1 5 j ≤ 2500 := fun j => hT.2 5 j
                have A6 : ∀ j, 0 ≤ τ38.2.1 6 j ∧ τ38.2.1 6 j ≤ 2500 := fun j => hT.2 6 j
                have A8 : ∀ j, 0 ≤ τ38.2.1 8 j ∧ τ38.2.1 8 j ≤ 1 := fun j => hT.2 8 j
                have A9 : ∀ j, (-1) ≤ τ38.2.1 9 j ∧ τ38.2.1 9 j ≤ 1499 := fun j => hT.2 9 j
                have A10 : ∀ j, (-1) ≤ τ38.2.1 10 j ∧ τ38.2.1 10 j ≤ 99 := fun j => hT.2 10 j
                have A11 : ∀ j, 0 ≤ τ38.2.1 11 j ∧ τ38.2.1 11 j ≤ 999 := fun j => hT.2 11 j
                have A13 : ∀ j, 0 ≤ τ38.2.1 13 j ∧ τ38.2.1 13 j ≤ 4 := fun j => hT.2 13 j
                have A14 : ∀ j, 0 ≤ τ38.2.1 14 j ∧ τ38.2.1 14 j ≤ 30000 := fun j => hT.2 14 j
                have A15 : ∀ j, 0 ≤ τ38.2.1 15 j ∧ τ38.2.1 15 j ≤ 999 := fun j => hT.2 15 j
                have A16 : ∀ j, (-1) ≤ τ38.2.1 16 j ∧ τ38.2.1 16 j ≤ 1499 := fun j => hT.2 16 j
                have A27 : ∀ j, 0 ≤ τ38.2.1 27 j ∧ τ38.2.1 27 j ≤ 90000 := fun j => hT.2 27 j
                have A28 : ∀ j, 0 ≤ τ38.2.1 28 j ∧ τ38.2.1 28 j ≤ 60 := fun j => hT.2 28 j
                have A29 : ∀ j, 0 ≤ τ38.2.1 29 j ∧ τ38.2.1 29 j ≤ 1499 := fun j => hT.2 29 j
                have A30 : ∀ j, 0 ≤ τ38.2.1 30 j ∧ τ38.2.1 30 j ≤ 20000 := fun j => hT.2 30 j
                have A31 : ∀ j, 0 ≤ τ38.2.1 31 j ∧ τ38.2.1 31 j ≤ 20000 := fun j => hT.2 31 j
                have A32 : ∀ j, 0 ≤ τ38.2.1 32 j ∧ τ38.2.1 32 j ≤ 999999 := fun j => hT.2 32 j
                have A33 : ∀ j, 0 ≤ τ38.2.1 33 j ∧ τ38.2.1 33 j ≤ 20000 := fun j => hT.2 33 j
                have A34 : ∀ j, 0 ≤ τ38.2.1 34 j ∧ τ38.2.1 34 j ≤ 20000 := fun j => hT.2 34 j
                have A35 : ∀ j, 0 ≤ τ38.2.1 35 j ∧ τ38.2.1 35 j ≤ 1499 := fun j => hT.2 35 j
                have A36 : ∀ j, 0 ≤ τ38.2.1 36 j ∧ τ38.2.1 36 j ≤ 20000 := fun j => hT.2 36 j
                have A37 : ∀ j, 0 ≤ τ38.2.1 37 j ∧ τ38.2.1 37 j ≤ 19999 := fun j => hT.2 37 j
                have A67 : ∀ j, 0 ≤ τ38.2.1 67 j ∧ τ38.2.1 67 j ≤ 30000 := fun j => hT.2 67 j
                have A68 : ∀ j, 0 ≤ τ38.2.1 68 j ∧ τ38.2.1 68 j ≤ 30000 := fun j => hT.2 68 j
                have A69 : ∀ j, (-100) ≤ τ38.2.1 69 j ∧ τ38.2.1 69 j ≤ 999 := fun j => hT.2 69 j
                have A70 : ∀ j, 0 ≤ τ38.2.1 70 j ∧ τ38.2.1 70 j ≤ 1499 := fun j => hT.2 70 j
                have A71 : ∀ j, 0 ≤ τ38.2.1 71 j ∧ τ38.2.1 71 j ≤ 1500 := fun j => hT.2 71 j
                have A72 : ∀ j, 0 ≤ τ38.2.1 72 j ∧ τ38.2.1 72 j ≤ 1500 := fun j => hT.2 72 j
                have A73 : ∀ j, 0 ≤ τ38.2.1 73 j ∧ τ38.2.1 73 j ≤ 30000 := fun j => hT.2 73 j
                have A74 : ∀ j, 0 ≤ τ38.2.1 74 j ∧ τ38.2.1 74 j ≤ 30000 := fun j => hT.2 74 j
                have A75 : ∀ j, 0 ≤ τ38.2.1 75 j ∧ τ38.2.1 75 j ≤ 1499 := fun j => hT.2 75 j
                have A76 : ∀ j, 0 ≤ τ38.2.1 76 j ∧ τ38.2.1 76 j ≤ 99 := fun j => hT.2 76 j
                have A77 : ∀ j, 0 ≤ τ38.2.1 77 j ∧ τ38.2.1 77 j ≤ 999 := fun j => hT.2 77 j
                have A78 : ∀ j, (-1) ≤ τ38.2.1 78 j ∧ τ38.2.1 78 j ≤ 1499 := fun j => hT.2 78 j
                have A84 : ∀ j, 0 ≤ τ38.2.1 84 j ∧ τ38.2.1 84 j ≤ 1499 := fun j => hT.2 84 j
                have A87 : ∀ j, 0 ≤ τ38.2.1 87 j ∧ τ38.2.1 87 j ≤ 1499 := fun j => hT.2 87 j
                have v0 : 0 ≤ τ38.1 0 ∧ τ38.1 0 ≤ 60000 := hT.1 0
                have v1 : 0 ≤ τ38.1 1 ∧ τ38.1 1 ≤ 1 := hT.1 1
                have v3 : 0 ≤ τ38.1 3 ∧ τ38.1 3 ≤ 2500 := hT.1 3
                have v4 : 0 ≤ τ38.1 4 ∧ τ38.1 4 ≤ 100 := hT.1 4
                have v5 : 0 ≤ τ38.1 5 ∧ τ38.1 5 ≤ 1000 := hT.1 5
                have v6 : 0 ≤ τ38.1 6 ∧ τ38.1 6 ≤ 30000 := hT.1 6
                have v7 : 0 ≤ τ38.1 7 ∧ τ38.1 7 ≤ 1500 := hT.1 7
                have v13 : 0 ≤ τ38.1 13 ∧ τ38.1 13 ≤ 90000 := hT.1 13
                have v14 : 0 ≤ τ38.1 14 ∧ τ38.1 14 ≤ 20000 := hT.1 14
                have v15 : 0 ≤ τ38.1 15 ∧ τ38.1 15 ≤ 20000 := hT.1 15
                have v45 : 1 ≤ τ38.1 45 ∧ τ38.1 45 ≤ 30001 := hT.1 45
                have v48 : (-1) ≤ τ38.1 48 ∧ τ38.1 48 ≤ 999 := hT.1 48
                have v49 : (-1) ≤ τ38.1 49 ∧ τ38.1 49 ≤ 999 := hT.1 49
                have v50 : 0 ≤ τ38.1 50 ∧ τ38.1 50 ≤ 59 := hT.1 50
                have v51 : 0 ≤ τ38.1 51 ∧ τ38.1 51 ≤ 1500 := hT.1 51
                have v52 : (-1) ≤ τ38.1 52 ∧ τ38.1 52 ≤ 99 := hT.1 52
                have v54 : 0 ≤ τ38.1 54 ∧ τ38.1 54 ≤ 12000 := hT.1 54
                have v55 : 0 ≤ τ38.1 55 ∧ τ38.1 55 ≤ 12000 := hT.1 55
                have gm38 := c_GM_h gm34 hf_τ38 rfl rfl rfl
                have sz38 := q36_1.1
                refine ⟨_, K_X11_fitsPattern hT (show J_all (τ38.1 7) (τ38.1 6) (τ38.1 13) (τ38.1 14) (τ38.1 15) (τ38.2.1 13) (τ38.2.1 14) (τ38.2.1 15) (τ38.2.1 16) (τ38.2.1 10) (τ38.2.1 27) (τ38.2.1 28) (τ38.2.1 29) (τ38.2.1 30) (τ38.2.1 31) (τ38.2.1 32) (τ38.2.1 33) (τ38.2.1 34) (τ38.2.1 35) (τ38.2.1 36) (τ38.2.1 37) from CJ) (show ∀ k : Int, 0 ≤ k → k < (τ38.1 55) → τ38.2.1 87 k < (τ38.1 7) from PTN) (show (τ38.1 54) ≤ 11700 from by (first | omega | (simp only [st_s] <;> omega) | assumption | omega | fail)), ?_⟩
                intro x40 τ41 r_x40 hn_τ41 hf_τ41 hq
                obtain ⟨hT, q39_1⟩ := hq
                replace q39_1 : 0 ≤ x40 ∧ x40 ≤ 1 := q39_1
                have w0_τ41 : τ41.1 0 = τ38.1 0 := hf_τ41.1 0 (by decide)
                have w1_τ41 : τ41.1 1 = τ38.1 1 := hf_τ41.1 1 (by decide)
                have w3_τ41 : τ41.1 3 = τ38.1 3 := hf_τ41.1 3 (by decide)
                have w4_τ41 : τ41.1 4 = τ38.1 4 := hf_τ41.1 4 (by decide)
                have w5_τ41 : τ41.1 5 = τ38.1 5 := hf_τ41.1 5 (by decide)
                have w6_τ41 : τ41.1 6 = τ38.1 6 := hf_τ41.1 6 (by decide)
                have w7_τ41 : τ41.1 7 = τ38.1 7 := hf_τ41.1 7 (by decide)
                have w13_τ41 : τ41.1 13 = τ38.1 13 := hf_τ41.1 13 (by decide)
                have w14_τ41 : τ41.1 14 = τ38.1 14 := hf_τ41.1 14 (by decide)
                have w15_τ41 : τ41.1 15 = τ38.1 15 := hf_τ41.1 15 (by decide)
                have w45_τ41 : τ41.1 45 = τ38.1 45 := hf_τ41.1 45 (by decide)
                have w48_τ41 : τ41.1 48 = τ38.1 48 := hf_τ41.1 48 (by decide)
                have w49_τ41 : τ41.1 49 = τ38.1 49 := hf_τ41.1 49 (by decide)
                have w50_τ41 : τ41.1 50 = τ38.1 50 := hf_τ41.1 50 (by decide)
                have w51_τ41 : τ41.1 51 = τ38.1 51 := hf_τ41.1 51 (by decide)
                have w52_τ41 : τ41.1 52 = τ38.1 52 := hf_τ41.1 52 (by decide)
                have w54_τ41 : τ41.1 54 = τ38.1 54 := hf_τ41.1 54 (by decide)
                have w55_τ41 : τ41.1 55 = τ38.1 55 := hf_τ41.1 55 (by decide)
                have g1_τ41 : τ41.2.1 1 = τ38.2.1 1 := hf_τ41.2.1 1 (by decide)
                have g2_τ41 : τ41.2.1 2 = τ38.2.1 2 := hf_τ41.2.1 2 (by decide)
                have g3_τ41 : τ41.2.1 3 = τ38.2.1 3 := hf_τ41.2.1 3 (by decide)
                have g4_τ41 : τ41.2.1 4 = τ38.2.1 4 := hf_τ41.2.1 4 (by decide)
                have g5_τ41 : τ41.2.1 5 = τ38.2.1 5 := hf_τ41.2.1 5 (by decide)
                have g6_τ41 : τ41.2.1 6 = τ38.2.1 6 := hf_τ41.2.1 6 (by decide)
                have g8_τ41 : τ41.2.1 8 = τ38.2.1 8 := hf_τ41.2.1 8 (by decide)
                have g9_τ41 : τ41.2.1 9 = τ38.2.1 9 := hf_τ41.2.1 9 (by decide)
                have g10_τ41 : τ41.2.1 10 = τ38.2.1 10 := hf_τ41.2.1 10 (by decide)
                have g11_τ41 : τ41.2.1 11 = τ38.2.1 11 := hf_τ41.2.1 11 (by decide)
                have g13_τ41 : τ41.2.1 13 = τ38.2.1 13 := hf_τ41.2.1 13 (by decide)
                have g14_τ41 : τ41.2.1 14 = τ38.2.1 14 := hf_τ41.2.1 14 (by decide)
                have g15_τ41 : τ41.2.1 15 = τ38.2.1 15 := hf_τ41.2.1 15 (by decide)
                have g16_τ41 : τ41.2.1 16 = τ38.2.1 16 := hf_τ41.2.1 16 (by decide)
                have g27_τ41 : τ41.2.1 27 = τ38.2.1 27 := hf_τ41.2.1 27 (by decide)
                have g28_τ41 : τ41.2.1 28 = τ38.2.1 28 := hf_τ41.2.1 28 (by decide)
                have g29_τ41 : τ41.2.1 29 = τ38.2.1 29 := hf_τ41.2.1 29 (by decide)
                have g30_τ41 : τ41.2.1 30 = τ38.2.1 30 := hf_τ41.2.1 30 (by decide)
                have g31_τ41 : τ41.2.1 31 = τ38.2.1 31 := hf_τ41.2.1 31 (by decide)
                have g32_τ41 : τ41.2.1 32 = τ38.2.1 32 := hf_τ41.2.1 32 (by decide)
                have g33_τ41 : τ41.2.1 33 = τ38.2.1 33 := hf_τ41.2.1 33 (by decide)
                have g34_τ41 : τ41.2.1 34 = τ38.2.1 34 := hf_τ41.2.1 34 (by decide)
                have g35_τ41 : τ41.2.1 35 = τ38.2.1 35 := hf_τ41.2.1 35 (by decide)
                have g36_τ41 : τ41.2.1 36 = τ38.2.1 36 := hf_τ41.2.1 36 (by decide)
                have g37_τ41 : τ41.2.1 37 = τ38.2.1 37 := hf_τ41.2.1 37 (by decide)
                have g67_τ41 : τ41.2.1 67 = τ38.2.1 67 := hf_τ41.2.1 67 (by decide)
                have g68_τ41 : τ41.2.1 68 = τ38.2.1 68 := hf_τ41.2.1 68 (by decide)
                have g69_τ41 : τ41.2.1 69 = τ38.2.1 69 := hf_τ41.2.1 69 (by decide)
                have g70_τ41 : τ41.2.1 70 = τ38.2.1 70 := hf_τ41.2.1 70 (by decide)
                have g71_τ41 : τ41.2.1 71 = τ38.2.1 71 := hf_τ41.2.1 71 (by decide)
                have g72_τ41 : τ41.2.1 72 = τ38.2.1 72 := hf_τ41.2.1 72 (by decide)
                have g73_τ41 : τ41.2.1 73 = τ38.2.1 73 := hf_τ41.2.1 73 (by decide)
                have g74_τ41 : τ41.2.1 74 = τ38.2.1 74 := hf_τ41.2.1 74 (by decide)
                have g75_τ41 : τ41.2.1 75 = τ38.2.1 75 := hf_τ41.2.1 75 (by decide)
                have g76_τ41 : τ41.2.1 76 = τ38.2.1 76 := hf_τ41.2.1 76 (by decide)
                have g77_τ41 : τ41.2.1 77 = τ38.2.1 77 := hf_τ41.2.1 77 (by decide)
                have g78_τ41 : τ41.2.1 78 = τ38.2.1 78 := hf_τ41.2.1 78 (by decide)
                have g84_τ41 : τ41.2.1 84 = τ38.2.1 84 := hf_τ41.2.1 84 (by decide)
                have g87_τ41 : τ41.2.1 87 = τ38.2.1 87 := hf_τ41.2.1 87 (by decide)
                have W3 : τ41.1 3 = σ.1 3 := by first | exact w3_τ41.trans W3 | omega
                have W4 : τ41.1 4 = σ.1 4 := by first | exact w4_τ41.trans W4 | omega
                have W5 : τ41.1 5 = σ.1 5 := by first | exact w5_τ41.trans W5 | omega
                have W6 : τ41.1 6 = σ.1 6 := by first | exact w6_τ41.trans W6 | omega
                have W7 : τ41.1 7 = σ.1 7 := by first | exact w7_τ41.trans W7 | omega
                have W13 : τ41.1 13 = σ.1 13 := by first | exact w13_τ41.trans W13 | omega
                have W14 : τ41.1 14 = σ.1 14 := by first | exact w14_τ41.trans W14 | omega
                have W15 : τ41.1 15 = σ.1 15 := by first | exact w15_τ41.trans W15 | omega
                have G2 : τ41.2.1 2 = σ.2.1 2 := (g2_τ41).trans G2
                have G3 : τ41.2.1 3 = σ.2.1 3 := (g3_τ41).trans G3
                have G4 : τ41.2.1 4 = σ.2.1 4 := (g4_τ41).trans G4
                have G5 : τ41.2.1 5 = σ.2.1 5 := (g5_τ41).trans G5
                have G6 : τ41.2.1 6 = σ.2.1 6 := (g6_τ41).trans G6
                have G8 : τ41.2.1 8 = σ.2.1 8 := (g8_τ41).trans G8
                have G9 : τ41.2.1 9 = σ.2.1 9 := (g9_τ41).trans G9
                have G10 : τ41.2.1 10 = σ.2.1 10 := (g10_τ41).trans G10
                have G11 : τ41.2.1 11 = σ.2.1 11 := (g11_τ41).trans G11
                have G13 : τ41.2.1 13 = σ.2.1 13 := (g13_τ41).trans G13
                have G14 : τ41.2.1 14 = σ.2.1 14 := (g14_τ41).trans G14
                have G15 : τ41.2.1 15 = σ.2.1 15 := (g15_τ41).trans G15
                have G16 : τ41.2.1 16 = σ.2.1 16 := (g16_τ41).trans G16
                have G27 : τ41.2.1 27 = σ.2.1 27 := (g27_τ41).trans G27
                have G28 : τ41.2.1 28 = σ.2.1 28 := (g28_τ41).trans G28
                have G29 : τ41.2.1 29 = σ.2.1 29 := (g29_τ41).trans G29
                have G30 : τ41.2.1 30 = σ.2.1 30 := (g30_τ41).trans G30
                have G31 : τ41.2.1 31 = σ.2.1 31 := (g31_τ41).trans G31
                have G32 : τ41.2.1 32 = σ.2.1 32 := (g32_τ41).trans G32
                have G33 : τ41.2.1 33 = σ.2.1 33 := (g33_τ41).trans G33
                have G34 : τ41.2.1 34 = σ.2.1 34 := (g34_τ41).trans G34
                have G35 : τ41.2.1 35 = σ.2.1 35 := (g35_τ41).trans G35
                have G36 : τ41.2.1 36 = σ.2.1 36 := (g36_τ41).trans G36
                have G37 : τ41.2.1 37 = σ.2.1 37 := (g37_τ41).trans G37
                have HT : J_ht (τ41.1 3) (τ41.2.1 2) (τ41.2.1 3) (τ41.2.1 5) (τ41.2.1 6) := by rw [show (J_ht (τ41.1 3) (τ41.2.1 2) (τ41.2.1 3) (τ41.2.1 5) (τ41.2.1 6)) = (J_ht (τ38.1 3) (τ38.2.1 2) (τ38.2.1 3) (τ38.2.1 5) (τ38.2.1 6)) from by rw [w3_τ41, g2_τ41, g3_τ41, g5_τ41, g6_τ41]]; exact HT
                have MN : J_mn (τ41.1 3) (τ41.1 5) ((τ41.1 7) + 1) (τ41.2.1 4) := by rw [show (J_mn (τ41.1 3) (τ41.1 5) ((τ41.1 7) + 1) (τ41.2.1 4)) = (J_mn (τ38.1 3) (τ38.1 5) ((τ38.1 7) + 1) (τ38.2.1 4)) from by rw [w3_τ41, w5_τ41, w7_τ41, g4_τ41]]; exact MN
                have FF : J_ff (τ41.1 5) (τ41.1 7) (τ41.2.1 9) (τ41.2.1 13) (τ41.2.1 14) (τ41.2.1 15) := by rw [show (J_ff (τ41.1 5) (τ41.1 7) (τ41.2.1 9) (τ41.2.1 13) (τ41.2.1 14) (τ41.2.1 15)) = (J_ff (τ38.1 5) (τ38.1 7) (τ38.2.1 9) (τ38.2.1 13) (τ38.2.1 14) (τ38.2.1 15)) from by rw [w5_τ41, w7_τ41, g9_τ41, g13_τ41, g14_τ41, g15_τ41]]; exact FF
                have TX : J_vs (τ41.1 6) (τ41.1 5) (τ41.2.1 15) := by rw [show (J_vs (τ41.1 6) (τ41.1 5) (τ41.2.1 15)) = (J_vs (τ38.1 6) (τ38.1 5) (τ38.2.1 15)) from by rw [w5_τ41, w6_τ41, g15_τ41]]; exact TX
                have RKS : J_rks (τ41.1 5) (τ41.1 4) (τ41.2.1 10) (τ41.2.1 11) := by rw [show (J_rks (τ41.1 5) (τ41.1 4) (τ41.2.1 10) (τ41.2.1 11)) = (J_rks (τ38.1 5) (τ38.1 4) (τ38.2.1 10) (τ38.2.1 11)) from by rw [w4_τ41, w5_τ41, g10_τ41, g11_τ41]]; exact RKS
                have CJ : J_all (τ41.1 7) (τ41.1 6) (τ41.1 13) (τ41.1 14) (τ41.1 15) (τ41.2.1 13) (τ41.2.1 14) (τ41.2.1 15) (τ41.2.1 16) (τ41.2.1 10) (τ41.2.1 27) (τ41.2.1 28) (τ41.2.1 29) (τ41.2.1 30) (τ41.2.1 31) (τ41.2.1 32) (τ41.2.1 33) (τ41.2.1 34) (τ41.2.1 35) (τ41.2.1 36) (τ41.2.1 37) := by rw [show (J_all (τ41.1 7) (τ41.1 6) (τ41.1 13) (τ41.1 14) (τ41.1 15) (τ41.2.1 13) (τ41.2.1 14) (τ41.2.1 15) (τ41.2.1 16) (τ41.2.1 10) (τ41.2.1 27) (τ41.2.1 28) (τ41.2.1 29) (τ41.2.1 30) (τ41.2.1 31) (τ41.2.1 32) (τ41.2.1 33) (τ41.2.1 34) (τ41.2.1 35) (τ41.2.1 36) (τ41.2.1 37)) = (J_all (τ38.1 7) (τ38.1 6) (τ38.1 13) (τ38.1 14) (τ38.1 15) (τ38.2.1 13) (τ38.2.1 14) (τ38.2.1 15) (τ38.2.1 16) (τ38.2.1 10) (τ38.2.1 27) (τ38.2.1 28) (τ38.2.1 29) (τ38.2.1 30) (τ38.2.1 31) (τ38.2.1 32) (τ38.2.1 33) (τ38.2.1 34) (τ38.2.1 35) (τ38.2.1 36) (τ38.2.1 37)) from by rw [w6_τ41, w7_τ41, w13_τ41, w14_τ41, w15_τ41, g10_τ41, g13_τ41, g14_τ41, g15_τ41, g16_τ41, g27_τ41, g28_τ41, g29_τ41, g30_τ41, g31_τ41, g32_τ41, g33_τ41, g34_τ41, g35_τ41, g36_τ41, g37_τ41]]; exact CJ
                have PTN : ∀ k : Int, 0 ≤ k → k < (τ41.1 55) → τ41.2.1 87 k < (τ41.1 7) := by rw [show (∀ k : Int, 0 ≤ k → k < (τ41.1 55) → τ41.2.1 87 k < (τ41.1 7)) = (∀ k : Int, 0 ≤ k → k < (τ38.1 55) → τ38.2.1 87 k < (τ38.1 7)) from by rw [w7_τ41, w55_τ41, g87_τ41]]; exact PTN
                have A1 : ∀ j, 0 ≤ τ41.2.1 1 j ∧ τ41.2.1 1 j ≤ 999 := fun j => hT.2 1 j
                have A2 : ∀ j, 0 ≤ τ41.2.1 2 j ∧ τ41.2.1 2 j ≤ 65535 := fun j => hT.2 2 j
                have A3 : ∀ j, 0 ≤ τ41.2.1 3 j ∧ τ41.2.1 3 j ≤ 30000 := fun j => hT.2 3 j
                have A4 : ∀ j, (-1000) ≤ τ41.2.1 4 j ∧ τ41.2.1 4 j ≤ 1499 := fun j => hT.2 4 j
                have A5 : ∀ j, 0 ≤ τ41.2.1 5 j ∧ τ41.2.1 5 j ≤ 2500 := fun j => hT.2 5 j
                have A6 : ∀ j, 0 ≤ τ41.2.1 6 j ∧ τ41.2.1 6 j ≤ 2500 := fun j => hT.2 6 j
                have A8 : ∀ j, 0 ≤ τ41.2.1 8 j ∧ τ41.2.1 8 j ≤ 1 := fun j => hT.2 8 j
                have A9 : ∀ j, (-1) ≤ τ41.2.1 9 j ∧ τ41.2.1 9 j ≤ 1499 := fun j => hT.2 9 j
                have A10 : ∀ j, (-1) ≤ τ41.2.1 10 j ∧ τ41.2.1 10 j ≤ 99 := fun j => hT.2 10 j
                have A11 : ∀ j, 0 ≤ τ41.2.1 11 j ∧ τ41.2.1 11 j ≤ 999 := fun j => hT.2 11 j
                have A13 : ∀ j, 0 ≤ τ41.2.1 13 j ∧ τ41.2.1 13 j ≤ 4 := fun j => hT.2 13 j
                have A14 : ∀ j, 0 ≤ τ41.2.1 14 j ∧ τ41.2.1 14 j ≤ 30000 := fun j => hT.2 14 j
                have A15 : ∀ j, 0 ≤ τ41.2.1 15 j ∧ τ41.2.1 15 j ≤ 999 := fun j => hT.2 15 j
                have A16 : ∀ j, (-1) ≤ τ41.2.1 16 j ∧ τ41.2.1 16 j ≤ 1499 := fun j => hT.2 16 j
                have A27 : ∀ j, 0 ≤ τ41.2.1 27 j ∧ τ41.2.1 27 j ≤ 90000 := fun j => hT.2 27 j
                have A28 : ∀ j, 0 ≤ τ41.2.1 28 j ∧ τ41.2.1 28 j ≤ 60 := fun j => hT.2 28 j
                have A29 : ∀ j, 0 ≤ τ41.2.1 29 j ∧ τ41.2.1 29 j ≤ 1499 := fun j => hT.2 29 j
                have A30 : ∀ j, 0 ≤ τ41.2.1 30 j ∧ τ41.2.1 30 j ≤ 20000 := fun j => hT.2 30 j
                have A31 : ∀ j, 0 ≤ τ41.2.1 31 j ∧ τ41.2.1 31 j ≤ 20000 := fun j => hT.2 31 j
                have A32 : ∀ j, 0 ≤ τ41.2.1 32 j ∧ τ41.2.1 32 j ≤ 999999 := fun j => hT.2 32 j
                have A33 : ∀ j, 0 ≤ τ41.2.1 33 j ∧ τ41.2.1 33 j ≤ 20000 := fun j => hT.2 33 j
                have A34 : ∀ j, 0 ≤ τ41.2.1 34 j ∧ τ41.2.1 34 j ≤ 20000 := fun j => hT.2 34 j
                have A35 : ∀ j, 0 ≤ τ41.2.1 35 j ∧ τ41.2.1 35 j ≤ 1499 := fun j => hT.2 35 j
                have A36 : ∀ j, 0 ≤ τ41.2.1 36 j ∧ τ41.2.1 36 j ≤ 20000 := fun j => hT.2 36 j
                have A37 : ∀ j, 0 ≤ τ41.2.1 37 j ∧ τ41.2.1 37 j ≤ 19999 := fun j => hT.2 37 j
                have A67 : ∀ j, 0 ≤ τ41.2.1 67 j ∧ τ41.2.1 67 j ≤ 30000 := fun j => hT.2 67 j
                have A68 : ∀ j, 0 ≤ τ41.2.1 68 j ∧ τ41.2.1 68 j ≤ 30000 := fun j => hT.2 68 j
                have A69 : ∀ j, (-100) ≤ τ41.2.1 69 j ∧ τ41.2.1 69 j ≤ 999 := fun j => hT.2 69 j
                have A70 : ∀ j, 0 ≤ τ41.2.1 70 j ∧ τ41.2.1 70 j ≤ 1499 := fun j => hT.2 70 j
                have A71 : ∀ j, 0 ≤ τ41.2.1 71 j ∧ τ41.2.1 71 j ≤ 1500 := fun j => hT.2 71 j
                have A72 : ∀ j, 0 ≤ τ41.2.1 72 j ∧ τ41.2.1 72 j ≤ 1500 := fun j => hT.2 72 j
                have A73 : ∀ j, 0 ≤ τ41.2.1 73 j ∧ τ41.2.1 73 j ≤ 30000 := fun j => hT.2 73 j
                have A74 : ∀ j, 0 ≤ τ41.2.1 74 j ∧ τ41.2.1 74 j ≤ 30000 := fun j => hT.2 74 j
                have A75 : ∀ j, 0 ≤ τ41.2.1 75 j ∧ τ41.2.1 75 j ≤ 1499 := fun j => hT.2 75 j
                have A76 : ∀ j, 0 ≤ τ41.2.1 76 j ∧ τ41.2.1 76 j ≤ 99 := fun j => hT.2 76 j
                have A77 : ∀ j, 0 ≤ τ41.2.1 77 j ∧ τ41.2.1 77 j ≤ 999 := fun j => hT.2 77 j
                have A78 : ∀ j, (-1) ≤ τ41.2.1 78 j ∧ τ41.2.1 78 j ≤ 1499 := fun j => hT.2 78 j
                have A84 : ∀ j, 0 ≤ τ41.2.1 84 j ∧ τ41.2.1 84 j ≤ 1499 := fun j => hT.2 84 j
                have A87 : ∀ j, 0 ≤ τ41.2.1 87 j ∧ τ41.2.1 87 j ≤ 1499 := fun j => hT.2 87 j
                have v0 : 0 ≤ τ41.1 0 ∧ τ41.1 0 ≤ 60000 := hT.1 0
                have v1 : 0 ≤ τ41.1 1 ∧ τ41.1 1 ≤ 1 := hT.1 1
                have v3 : 0 ≤ τ41.1 3 ∧ τ41.1 3 ≤ 2500 := hT.1 3
                have v4 : 0 ≤ τ41.1 4 ∧ τ41.1 4 ≤ 100 := hT.1 4
                have v5 : 0 ≤ τ41.1 5 ∧ τ41.1 5 ≤ 1000 := hT.1 5
                have v6 : 0 ≤ τ41.1 6 ∧ τ41.1 6 ≤ 30000 := hT.1 6
                have v7 : 0 ≤ τ41.1 7 ∧ τ41.1 7 ≤ 1500 := hT.1 7
                have v13 : 0 ≤ τ41.1 13 ∧ τ41.1 13 ≤ 90000 := hT.1 13
                have v14 : 0 ≤ τ41.1 14 ∧ τ41.1 14 ≤ 20000 := hT.1 14
                have v15 : 0 ≤ τ41.1 15 ∧ τ41.1 15 ≤ 20000 := hT.1 15
                have v45 : 1 ≤ τ41.1 45 ∧ τ41.1 45 ≤ 30001 := hT.1 45
                have v48 : (-1) ≤ τ41.1 48 ∧ τ41.1 48 ≤ 999 := hT.1 48
                have v49 : (-1) ≤ τ41.1 49 ∧ τ41.1 49 ≤ 999 := hT.1 49
                have v50 : 0 ≤ τ41.1 50 ∧ τ41.1 50 ≤ 59 := hT.1 50
                have v51 : 0 ≤ τ41.1 51 ∧ τ41.1 51 ≤ 1500 := hT.1 51
                have v52 : (-1) ≤ τ41.1 52 ∧ τ41.1 52 ≤ 99 := hT.1 52
                have v54 : 0 ≤ τ41.1 54 ∧ τ41.1 54 ≤ 12000 := hT.1 54
                have v55 : 0 ≤ τ41.1 55 ∧ τ41.1 55 ≤ 12000 := hT.1 55
                have gm41 := c_GM_h gm38 hf_τ41 rfl rfl rfl
                refine ⟨fun c42 => ?_, fun c42 => ?_⟩
                ·
                  exact ⟨hT, (show c_GM In0 τ41 from by (first | omega | (simp only [st_s] <;> omega) | assumption | omega | fail)), (show (τ41.1 0) = 0 from by (first | omega | (simp only [st_s] <;> omega) | assumption | omega | fail)), (show (τ41.1 1) = 0 from by (first | omega | (simp only [st_s] <;> omega) | assumption | omega | fail))⟩
                ·
                  refine ⟨_, K_X11_bindsEssentials hT (show 0 ≤ n1 from by (first | omega | (simp only [st_s] <;> omega) | assumption | omega | fail)) (show n1 < (τ41.1 7) from by (first | omega | (simp only [st_s] <;> omega) | assumption | omega | fail)) (show 2 ≤ τ41.2.1 13 n1 from by (rw [G13]; exact k13)) (show J_all (τ41.1 7) (τ41.1 6) (τ41.1 13) (τ41.1 14) (τ41.1 15) (τ41.2.1 13) (τ41.2.1 14) (τ41.2.1 15) (τ41.2.1 16) (τ41.2.1 10) (τ41.2.1 27) (τ41.2.1 28) (τ41.2.1 29) (τ41.2.1 30) (τ41.2.1 31) (τ41.2.1 32) (τ41.2.1 33) (τ41.2.1 34) (τ41.2.1 35) (τ41.2.1 36) (τ41.2.1 37) from CJ), ?_⟩
                  intro x44 r_x44 hq
                  have q43_1 := hq
                  replace q43_1 : 0 ≤ x44 ∧ x44 ≤ 1 := q43_1
                  refine ⟨fun c46 => ?_, fun c46 => ?_⟩
                  ·
                    refine ⟨_, K_X12_printEssentials hT (show 0 ≤ n1 from by (first | omega | (simp only [st_s] <;> omega) | assumption | omega | fail)) (show n1 < 1500 from by (first | omega | (simp only [st_s] <;> omega) | assumption | omega | fail)) (show τ41.2.1 27 n1 + τ41.2.1 28 n1 ≤ 90000 from by (rw [G27, G28]; have := jf.1; omega)), ?_⟩
                    intro x48 τ49 r_x48 hn_τ49 hf_τ49 hq
                    replace hT := hq
                    have w0_τ49 : τ49.1 0 = τ41.1 0 := hf_τ49.1 0 (by decide)
                    have w1_τ49 : τ49.1 1 = τ41.1 1 := hf_τ49.1 1 (by decide)
                    have w3_τ49 : τ49.1 3 = τ41.1 3 := hf_τ49.1 3 (by decide)
                    have w4_τ49 : τ49.1 4 = τ41.1 4 := hf_τ49.1 4 (by decide)
                    have w5_τ49 : τ49.1 5 = τ41.1 5 := hf_τ49.1 5 (by decide)
                    have w6_τ49 : τ49.1 6 = τ41.1 6 := hf_τ49.1 6 (by decide)
                    have w7_τ49 : τ49.1 7 = τ41.1 7 := hf_τ49.1 7 (by decide)
                    have w13_τ49 : τ49.1 13 = τ41.1 13 := hf_τ49.1 13 (by decide)
                    have w14_τ49 : τ49.1 14 = τ41.1 14 := hf_τ49.1 14 (by decide)
                    have w15_τ49 : τ49.1 15 = τ41.1 15 := hf_τ49.1 15 (by decide)
                    have w45_τ49 : τ49.1 45 = τ41.1 45 := hf_τ49.1 45 (by decide)
                    have w48_τ49 : τ49.1 48 = τ41.1 48 := hf_τ49.1 48 (by decide)
                    have w49_τ49 : τ49.1 49 = τ41.1 49 := hf_τ49.1 49 (by decide)
                    have w50_τ49 : τ49.1 50 = τ41.1 50 := hf_τ49.1 50 (by decide)
                    have w51_τ49 : τ49.1 51 = τ41.1 51 := hf_τ49.1 51 (by decide)
                    have w52_τ49 : τ49.1 52 = τ41.1 52 := hf_τ49.1 52 (by decide)
                    have w54_τ49 : τ49.1 54 = τ41.1 54 := hf_τ49.1 54 (by decide)
                    have w55_τ49 : τ49.1 55 = τ41.1 55 := hf_τ49.1 55 (by decide)
                    have g1_τ49 : τ49.2.1 1 = τ41.2.1 1 := hf_τ49.2.1 1 (by decide)
                    have g2_τ49 : τ49.2.1 2 = τ41.2.1 2 := hf_τ49.2.1 2 (by decide)
                    have g3_τ49 : τ49.2.1 3 = τ41.2.1 3 := hf_τ49.2.1 3 (by decide)
                    have g4_τ49 : τ49.2.1 4 = τ41.2.1 4 := hf_τ49.2.1 4 (by decide)
                    have g5_τ49 : τ49.2.1 5 = τ41.2.1 5 := hf_τ49.2.1 5 (by decide)
                    have g6_τ49 : τ49.2.1 6 = τ41.2.1 6 := hf_τ49.2.1 6 (by decide)
                    have g8_τ49 : τ49.2.1 8 = τ41.2.1 8 := hf_τ49.2.1 8 (by decide)
                    have g9_τ49 : τ49.2.1 9 = τ41.2.1 9 := hf_τ49.2.1 9 (by decide)
                    have g10_τ49 : τ49.2.1 10 = τ41.2.1 10 := hf_τ49.2.1 10 (by decide)
                    have g11_τ49 : τ49.2.1 11 = τ41.2.1 11 := hf_τ49.2.1 11 (by decide)
                    have g13_τ49 : τ49.2.1 13 = τ41.2.1 13 := hf_τ49.2.1 13 (by decide)
                    have g14_τ49 : τ49.2.1 14 = τ41.2.1 14 := hf_τ49.2.1 14 (by decide)
                    have g15_τ49 : τ49.2.1 15 = τ41.2.1 15 := hf_τ49.2.1 15 (by decide)
                    have g16_τ49 : τ49.2.1 16 = τ41.2.1 16 := hf_τ49.2.1 16 (by decide)
                    have g27_τ49 : τ49.2.1 27 = τ41.2.1 27 := hf_τ49.2.1 27 (by decide)
                    have g28_τ49 : τ49.2.1 28 = τ41.2.1 28 := hf_τ49.2.1 28 (by decide)
                    have g29_τ49 : τ49.2.1 29 = τ41.2.1 29 := hf_τ49.2.1 29 (by decide)
                    have g30_τ49 : τ49.2.1 30 = τ41.2.1 30 := hf_τ49.2.1 30 (by decide)
                    have g31_τ49 : τ49.2.1 31 = τ41.2.1 31 := hf_τ49.2.1 31 (by decide)
                    have g32_τ49 : τ49.2.1 32 = τ41.2.1 32 := hf_τ49.2.1 32 (by decide)
                    have g33_τ49 : τ49.2.1 33 = τ41.2.1 33 := hf_τ49.2.1 33 (by decide)
                    have g34_τ49 : τ49.2.1 34 = τ41.2.1 34 := hf_τ49.2.1 34 (by decide)
                    have g35_τ49 : τ49.2.1 35 = τ41.2.1 35 := hf_τ49.2.1 35 (by decide)
                    have g36_τ49 : τ49.2.1 36 = τ41.2.1 36 := hf_τ49.2.1 36 (by decide)
                    have g37_τ49 : τ49.2.1 37 = τ41.2.1 37 := hf_τ49.2.1 37 (by decide)
                    have g67_τ49 : τ49.2.1 67 = τ41.2.1 67 := hf_τ49.2.1 67 (by decide)
                    have g68_τ49 : τ49.2.1 68 = τ41.2.1 68 := hf_τ49.2.1 68 (by decide)
                    have g69_τ49 : τ49.2.1 69 = τ41.2.1 69 := hf_τ49.2.1 69 (by decide)
                    have g70_τ49 : τ49.2.1 70 = τ41.2.1 70 := hf_τ49.2.1 70 (by decide)
                    have g71_τ49 : τ49.2.1 71 = τ41.2.1 71 := hf_τ49.2.1 71 (by decide)
                    have g72_τ49 : τ49.2.1 72 = τ41.2.1 72 := hf_τ49.2.1 72 (by decide)
                    have g73_τ49 : τ49.2.1 73 = τ41.2.1 73 := hf_τ49.2.1 73 (by decide)
                    have g74_τ49 : τ49.2.1 74 = τ41.2.1 74 := hf_τ49.2.1 74 (by decide)
                    have g75_τ49 : τ49.2.1 75 = τ41.2.1 75 := hf_τ49.2.1 75 (by decide)
                    have g76_τ49 : τ49.2.1 76 = τ41.2.1 76 := hf_τ49.2.1 76 (by decide)
                    have g77_τ49 : τ49.2.1 77 = τ41.2.1 77 := hf_τ49.2.1 77 (by decide)
                    have g78_τ49 : τ49.2.1 78 = τ41.2.1 78 := hf_τ49.2.1 78 (by decide)
                    have g84_τ49 : τ49.2.1 84 = τ41.2.1 84 := hf_τ49.2.1 84 (by decide)
                    have g87_τ49 : τ49.2.1 87 = τ41.2.1 87 := hf_τ49.2.1 87 (by decide)
                    have W3 : τ49.1 3 = σ.1 3 := by first | exact w3_τ49.trans W3 | omega
                    have W4 : τ49.1 4 = σ.1 4 := by first | exact w4_τ49.trans W4 | omega
                    have W5 : τ49.1 5 = σ.1 5 := by first | exact w5_τ49.trans W5 | omega
                    have W6 : τ49.1 6 = σ.1 6 := by first | exact w6_τ49.trans W6 | omega
                    have W7 : τ49.1 7 = σ.1 7 := by first | exact w7_τ49.trans W7 | omega
                    have W13 : τ49.1 13 = σ.1 13 := by first | exact w13_τ49.trans W13 | omega
                    have W14 : τ49.1 14 = σ.1 14 := by first | exact w14_τ49.trans W14 | omega
                    have W15 : τ49.1 15 = σ.1 15 := by first | exact w15_τ49.trans W15 | omega
                    have G2 : τ49.2.1 2 = σ.2.1 2 := (g2_τ49).trans G2
                    have G3 : τ49.2.1 3 = σ.2.1 3 := (g3_τ49).trans G3
                    have G4 : τ49.2.1 4 = σ.2.1 4 := (g4_τ49).trans G4
                    have G5 : τ49.2.1 5 = σ.2.1 5 := (g5_τ49).trans G5
                    have G6 : τ49.2.1 6 = σ.2.1 6 := (g6_τ49).trans G6
                    have G8 : τ49.2.1 8 = σ.2.1 8 := (g8_τ49).trans G8
                    have G9 : τ49.2.1 9 = σ.2.1 9 := (g9_τ49).trans G9
                    have G10 : τ49.2.1 10 = σ.2.1 10 := (g10_τ49).trans G10
                    have G11 : τ49.2.1 11 = σ.2.1 11 := (g11_τ49).trans G11
                    have G13 : τ49.2.1 13 = σ.2.1 13 := (g13_τ49).trans G13
                    have G14 : τ49.2.1 14 = σ.2.1 14 := (g14_τ49).trans G14
                    have G15 : τ49.2.1 15 = σ.2.1 15 := (g15_τ49).trans G15
                    have G16 : τ49.2.1 16 = σ.2.1 16 := (g16_τ49).trans G16
                    have G27 : τ49.2.1 27 = σ.2.1 27 := (g27_τ49).trans G27
                    have G28 : τ49.2.1 28 = σ.2.1 28 := (g28_τ49).trans G28
                    have G29 : τ49.2.1 29 = σ.2.1 29 := (g29_τ49).trans G29
                    have G30 : τ49.2.1 30 = σ.2.1 30 := (g30_τ49).trans G30
                    have G31 : τ49.2.1 31 = σ.2.1 31 := (g31_τ49).trans G31
                    have G32 : τ49.2.1 32 = σ.2.1 32 := (g32_τ49).trans G32
                    have G33 : τ49.2.1 33 = σ.2.1 33 := (g33_τ49).trans G33
                    have G34 : τ49.2.1 34 = σ.2.1 34 := (g34_τ49).trans G34
                    have G35 : τ49.2.1 35 = σ.2.1 35 := (g35_τ49).trans G35
                    have G36 : τ49.2.1 36 = σ.2.1 36 := (g36_τ49).trans G36
                    have G37 : τ49.2.1 37 = σ.2.1 37 := (g37_τ49).trans G37
                    have HT : J_ht (τ49.1 3) (τ49.2.1 2) (τ49.2.1 3) (τ49.2.1 5) (τ49.2.1 6) := by rw [show (J_ht (τ49.1 3) (τ49.2.1 2) (τ49.2.1 3) (τ49.2.1 5) (τ49.2.1 6)) = (J_ht (τ41.1 3) (τ41.2.1 2) (τ41.2.1 3) (τ41.2.1 5) (τ41.2.1 6)) from by rw [w3_τ49, g2_τ49, g3_τ49, g5_τ49, g6_τ49]]; exact HT
                    have MN : J_mn (τ49.1 3) (τ49.1 5) ((τ49.1 7) + 1) (τ49.2.1 4) := by rw [show (J_mn (τ49.1 3) (τ49.1 5) ((τ49.1 7) + 1) (τ49.2.1 4)) = (J_mn (τ41.1 3) (τ41.1 5) ((τ41.1 7) + 1) (τ41.2.1 4)) from by rw [w3_τ49, w5_τ49, w7_τ49, g4_τ49]]; exact MN
                    have FF : J_ff (τ49.1 5) (τ49.1 7) (τ49.2.1 9) (τ49.2.1 13) (τ49.2.1 14) (τ49.2.1 15) := by rw [show (J_ff (τ49.1 5) (τ49.1 7) (τ49.2.1 9) (τ49.2.1 13) (τ49.2.1 14) (τ49.2.1 15)) = (J_ff (τ41.1 5) (τ41.1 7) (τ41.2.1 9) (τ41.2.1 13) (τ41.2.1 14) (τ41.2.1 15)) from by rw [w5_τ49, w7_τ49, g9_τ49, g13_τ49, g14_τ49, g15_τ49]]; exact FF
                    have TX : J_vs (τ49.1 6) (τ49.1 5) (τ49.2.1 15) := by rw [show (J_vs (τ49.1 6) (τ49.1 5) (τ49.2.1 15)) = (J_vs (τ41.1 6) (τ41.1 5) (τ41.2.1 15)) from by rw [w5_τ49, w6_τ49, g15_τ49]]; exact TX
                    have RKS : J_rks (τ49.1 5) (τ49.1 4) (τ49.2.1 10) (τ49.2.1 11) := by rw [show (J_rks (τ49.1 5) (τ49.1 4) (τ49.2.1 10) (τ49.2.1 11)) = (J_rks (τ41.1 5) (τ41.1 4) (τ41.2.1 10) (τ41.2.1 11)) from by rw [w4_τ49, w5_τ49, g10_τ49, g11_τ49]]; exact RKS
                    have CJ : J_all (τ49.1 7) (τ49.1 6) (τ49.1 13) (τ49.1 14) (τ49.1 15) (τ49.2.1 13) (τ49.2.1 14) (τ49.2.1 15) (τ49.2.1 16) (τ49.2.1 10) (τ49.2.1 27) (τ49.2.1 28) (τ49.2.1 29) (τ49.2.1 30) (τ49.2.1 31) (τ49.2.1 32) (τ49.2.1 33) (τ49.2.1 34) (τ49.2.1 35) (τ49.2.1 36) (τ49.2.1 37) := by rw [show (J_all (τ49.1 7) (τ49.1 6) (τ49.1 13) (τ49.1 14) (τ49.1 15) (τ49.2.1 13) (τ49.2.1 14) (τ49.2.1 15) (τ49.2.1 16) (τ49.2.1 10) (τ49.2.1 27) (τ49.2.1 28) (τ49.2.1 29) (τ49.2.1 30) (τ49.2.1 31) (τ49.2.1 32) (τ49.2.1 33) (τ49.2.1 34) (τ49.2.1 35) (τ49.2.1 36) (τ49.2.1 37)) = (J_all (τ41.1 7) (τ41.1 6) (τ41.1 13) (τ41.1 14) (τ41.1 15) (τ41.2.1 13) (τ41.2.1 14) (τ41.2.1 15) (τ41.2.1 16) (τ41.2.1 10) (τ41.2.1 27) (τ41.2.1 28) (τ41.2.1 29) (τ41.2.1 30) (τ41.2.1 31) (τ41.2.1 32) (τ41.2.1 33) (τ41.2.1 34) (τ41.2.1 35) (τ41.2.1 36) (τ41.2.1 37)) from by rw [w6_τ49, w7_τ49, w13_τ49, w14_τ49, w15_τ49, g10_τ49, g13_τ49, g14_τ49, g15_τ49, g16_τ49, g27_τ49, g28_τ49, g29_τ49, g30_τ49, g31_τ49, g32_τ49, g33_τ49, g34_τ49, g35_τ49, g36_τ49, g37_τ49]]; exact CJ
                    have PTN : ∀ k : Int, 0 ≤ k → k < (τ49.1 55) → τ49.2.1 87 k < (τ49.1 7) := by rw [show (∀ k : Int, 0 ≤ k → k < (τ49.1 55) → τ49.2.1 87 k < (τ49.1 7)) = (∀ k : Int, 0 ≤ k → k < (τ41.1 55) → τ41.2.1 87 k < (τ41.1 7)) from by rw [w7_τ49, w55_τ49, g87_τ49]]; exact PTN
                    have A1 : ∀ j, 0 ≤ τ49.2.1 1 j ∧ τ49.2.1 1 j ≤ 999 := fun j => hT.2 1 j
                    have A2 : ∀ j, 0 ≤ τ49.2.1 2 j ∧ τ49.2.1 2 j ≤ 65535 := fun j => hT.2 2 j
                    have A3 : ∀ j, 0 ≤ τ49.2.1 3 j ∧ τ49.2.1 3 j ≤ 30000 := fun j => hT.2 3 j
                    have A4 : ∀ j, (-1000) ≤ τ49.2.1 4 j ∧ τ49.2.1 4 j ≤ 1499 := fun j => hT.2 4 j
                    have A5 : ∀ j, 0 ≤ τ49.2.1 5 j ∧ τ49.2.1 5 j ≤ 2500 := fun j => hT.2 5 j
                    have A6 : ∀ j, 0 ≤ τ49.2.1 6 j ∧ τ49.2.1 6 j ≤ 2500 := fun j => hT.2 6 j
                    have A8 : ∀ j, 0 ≤ τ49.2.1 8 j ∧ τ49.2.1 8 j ≤ 1 := fun j => hT.2 8 j
                    have A9 : ∀ j, (-1) ≤ τ49.2.1 9 j ∧ τ49.2.1 9 j ≤ 1499 := fun j => hT.2 9 j
                    have A10 : ∀ j, (-1) ≤ τ49.2.1 10 j ∧ τ49.2.1 10 j ≤ 99 := fun j => hT.2 10 j
                    have A11 : ∀ j, 0 ≤ τ49.2.1 11 j ∧ τ49.2.1 11 j ≤ 999 := fun j => hT.2 11 j
                    have A13 : ∀ j, 0 ≤ τ49.2.1 13 j ∧ τ49.2.1 13 j ≤ 4 := fun j => hT.2 13 j
                    have A14 : ∀ j, 0 ≤ τ49.2.1 14 j ∧ τ49.2.1 14 j ≤ 30000 := fun j => hT.2 14 j
                    have A15 : ∀ j, 0 ≤ τ49.2.1 15 j ∧ τ49.2.1 15 j ≤ 999 := fun j => hT.2 15 j
                    have A16 : ∀ j, (-1) ≤ τ49.2.1 16 j ∧ τ49.2.1 16 j ≤ 1499 := fun j => hT.2 16 j
                    have A27 : ∀ j, 0 ≤ τ49.2.1 27 j ∧ τ49.2.1 27 j ≤ 90000 := fun j => hT.2 27 j
                    have A28 : ∀ j, 0 ≤ τ49.2.1 28 j ∧ τ49.2.1 28 j ≤ 60 := fun j => hT.2 28 j
                    have A29 : ∀ j, 0 ≤ τ49.2.1 29 j ∧ τ49.2.1 29 j ≤ 1499 := fun j => hT.2 29 j
                    have A30 : ∀ j, 0 ≤ τ49.2.1 30 j ∧ τ49.2.1 30 j ≤ 20000 := fun j => hT.2 30 j
                    have A31 : ∀ j, 0 ≤ τ49.2.1 31 j ∧ τ49.2.1 31 j ≤ 20000 := fun j => hT.2 31 j
                    have A32 : ∀ j, 0 ≤ τ49.2.1 32 j ∧ τ49.2.1 32 j ≤ 999999 := fun j => hT.2 32 j
                    have A33 : ∀ j, 0 ≤ τ49.2.1 33 j ∧ τ49.2.1 33 j ≤ 20000 := fun j => hT.2 33 j
                    have A34 : ∀ j, 0 ≤ τ49.2.1 34 j ∧ τ49.2.1 34 j ≤ 20000 := fun j => hT.2 34 j
                    have A35 : ∀ j, 0 ≤ τ49.2.1 35 j ∧ τ49.2.1 35 j ≤ 1499 := fun j => hT.2 35 j
                    have A36 : ∀ j, 0 ≤ τ49.2.1 36 j ∧ τ49.2.1 36 j ≤ 20000 := fun j => hT.2 36 j
                    have A37 : ∀ j, 0 ≤ τ49.2.1 37 j ∧ τ49.2.1 37 j ≤ 19999 := fun j => hT.2 37 j
                    have A67 : ∀ j, 0 ≤ τ49.2.1 67 j ∧ τ49.2.1 67 j ≤ 30000 := fun j => hT.2 67 j
                    have A68 : ∀ j, 0 ≤ τ49.2.1 68 j ∧ τ49.2.1 68 j ≤ 30000 := fun j => hT.2 68 j
                    have A69 : ∀ j, (-100) ≤ τ49.2.1 69 j ∧ τ49.2.1 69 j ≤ 999 := fun j => hT.2 69 j
                    have A70 : ∀ j, 0 ≤ τ49.2.1 70 j ∧ τ49.2.1 70 j ≤ 1499 := fun j => hT.2 70 j
                    have A71 : ∀ j, 0 ≤ τ49.2.1 71 j ∧ τ49.2.1 71 j ≤ 1500 := fun j => hT.2 71 j
                    have A72 : ∀ j, 0 ≤ τ49.2.1 72 j ∧ τ49.2.1 72 j ≤ 1500 := fun j => hT.2 72 j
                    have A73 : ∀ j, 0 ≤ τ49.2.1 73 j ∧ τ49.2.1 73 j ≤ 30000 := fun j => hT.2 73 j
                    have A74 : ∀ j, 0 ≤ τ49.2.1 74 j ∧ τ49.2.1 74 j ≤ 30000 := fun j => hT.2 74 j
                    have A75 : ∀ j, 0 ≤ τ49.2.1 75 j ∧ τ49.2.1 75 j ≤ 1499 := fun j => hT.2 75 j
                    have A76 : ∀ j, 0 ≤ τ49.2.1 76 j ∧ τ49.2.1 76 j ≤ 99 := fun j => hT.2 76 j
                    have A77 : ∀ j, 0 ≤ τ49.2.1 77 j ∧ τ49.2.1 77 j ≤ 999 := fun j => hT.2 77 j
                    have A78 : ∀ j, (-1) ≤ τ49.2.1 78 j ∧ τ49.2.1 78 j ≤ 1499 := fun j => hT.2 78 j
                    have A84 : ∀ j, 0 ≤ τ49.2.1 84 j ∧ τ49.2.1 84 j ≤ 1499 := fun j => hT.2 84 j
                    have A87 : ∀ j, 0 ≤ τ49.2.1 87 j ∧ τ49.2.1 87 j ≤ 1499 := fun j => hT.2 87 j
                    have v0 : 0 ≤ τ49.1 0 ∧ τ49.1 0 ≤ 60000 := hT.1 0
                    have v1 : 0 ≤ τ49.1 1 ∧ τ49.1 1 ≤ 1 := hT.1 1
                    have v3 : 0 ≤ τ49.1 3 ∧ τ49.1 3 ≤ 2500 := hT.1 3
                    have v4 : 0 ≤ τ49.1 4 ∧ τ49.1 4 ≤ 100 := hT.1 4
                    have v5 : 0 ≤ τ49.1 5 ∧ τ49.1 5 ≤ 1000 := hT.1 5
                    have v6 : 0 ≤ τ49.1 6 ∧ τ49.1 6 ≤ 30000 := hT.1 6
                    have v7 : 0 ≤ τ49.1 7 ∧ τ49.1 7 ≤ 1500 := hT.1 7
                    have v13 : 0 ≤ τ49.1 13 ∧ τ49.1 13 ≤ 90000 := hT.1 13
                    have v14 : 0 ≤ τ49.1 14 ∧ τ49.1 14 ≤ 20000 := hT.1 14
                    have v15 : 0 ≤ τ49.1 15 ∧ τ49.1 15 ≤ 20000 := hT.1 15
                    have v45 : 1 ≤ τ49.1 45 ∧ τ49.1 45 ≤ 30001 := hT.1 45
                    have v48 : (-1) ≤ τ49.1 48 ∧ τ49.1 48 ≤ 999 := hT.1 48
                    have v49 : (-1) ≤ τ49.1 49 ∧ τ49.1 49 ≤ 999 := hT.1 49
                    have v50 : 0 ≤ τ49.1 50 ∧ τ49.1 50 ≤ 59 := hT.1 50
                    have v51 : 0 ≤ τ49.1 51 ∧ τ49.1 51 ≤ 1500 := hT.1 51
                    have v52 : (-1) ≤ τ49.1 52 ∧ τ49.1 52 ≤ 99 := hT.1 52
                    have v54 : 0 ≤ τ49.1 54 ∧ τ49.1 54 ≤ 12000 := hT.1 54
                    have v55 : 0 ≤ τ49.1 55 ∧ τ49.1 55 ≤ 12000 := hT.1 55
                    have gm49 := c_GM_h gm41 hf_τ49 rfl rfl rfl
                    exact ⟨hT, (show c_GM In0 τ49 from by (first | omega | (simp only [st_s] <;> omega) | assumption | omega | fail)), (show (τ49.1 0) = 0 from by (first | omega | (simp only [st_s] <;> omega) | assumption | omega | fail)), (show (τ49.1 1) = 0 from by (first | omega | (simp only [st_s] <;> omega) | assumption | omega | fail))⟩
                  ·
                    exact ⟨hT, (show c_GM In0 τ41 from by (first | omega | (simp only [st_s] <;> omega) | assumption | omega | fail)), (show (τ41.1 0) = 0 from by (first | omega | (simp only [st_s] <;> omega) | assumption | omega | fail)), (show (τ41.1 1) = 0 from by (first | omega | (simp only [st_s] <;> omega) | assumption | omega | fail))⟩
              ·
                exact ⟨hT, (show c_GM In0 τ34 from by (first | omega | (simp only [st_s] <;> omega) | assumption | omega | fail)), (show (τ34.1 0) = 0 from by (first | omega | (simp only [st_s] <;> omega) | assumption | omega | fail)), (show (τ34.1 1) = 0 from by (first | omega | (simp only [st_s] <;> omega) | assumption | omega | fail))⟩
            ·
              exact ⟨hT, (show c_GM In0 τ21 from by (first | omega | (simp only [st_s] <;> omega) | assumption | omega | fail)), (show (τ21.1 0) = 0 from by (first | omega | (simp only [st_s] <;> omega) | assumption | omega | fail)), (show (τ21.1 1) = 0 from by (first | omega | (simp only [st_s] <;> omega) | assumption | omega | fail))⟩
        ·
          exact ⟨hT, (show c_GM In0 τ3 from by (first | omega | (simp only [st_s] <;> omega) | assumption | omega | fail)), (show (τ3.1 0) = 0 from by (first | omega | (simp only [st_s] <;> omega) | assumption | omega | fail)), (show (τ3.1 1) = 0 from by (first | omega | (simp only [st_s] <;> omega) | assumption | omega | fail))⟩
    ·
      exact ⟨hT, (show c_GM In0 τ3 from by (first | omega | (simp only [st_s] <;> omega) | assumption | omega | fail)), (show (τ3.1 0) = 0 from by (first | omega | (simp only [st_s] <;> omega) | assumption | omega | fail)), (show (τ3.1 1) = 0 from by (first | omega | (simp only [st_s] <;> omega) | assumption | omega | fail))⟩
