
set_option maxHeartbeats 1000000 in
theorem K3_X12_find {n1 : Int} {σ : S0} (hT : c_T σ) : W_X12_find n1 σ (fun (x : Int) (τ : S0) => (c_T τ) ∧ ((τ.1 0) = 0 ∧ (τ.1 1) = 0)) := by
  have v0 : 0 ≤ σ.1 0 ∧ σ.1 0 ≤ 60000 := hT.1 0
  have v1 : 0 ≤ σ.1 1 ∧ σ.1 1 ≤ 1 := hT.1 1
  unfold W_X12_find
  refine ⟨_, K_X12_useTape hT, ?_⟩
  intro τ3 hn_τ3 hf_τ3 hq
  obtain ⟨hT, q1_1, q1_2⟩ := hq
  replace q1_1 : (τ3.1 0) = 0 := q1_1
  replace q1_2 : (τ3.1 1) = 0 := q1_2
  have v0 : 0 ≤ τ3.1 0 ∧ τ3.1 0 ≤ 60000 := hT.1 0
  have v1 : 0 ≤ τ3.1 1 ∧ τ3.1 1 ≤ 1 := hT.1 1
  refine ⟨(⟨by (first | omega | (simp only [st_s] <;> omega) | assumption | omega | fail), by (first | omega | (simp only [st_s] <;> omega) | assumption | omega | fail)⟩ : rg (σ.1 0)), ?_⟩
  refine ⟨_, K_X12_skipBlanks_q13 hT (show 0 ≤ (0 : Int) from by (first | omega | (simp only [st_s] <;> omega) | assumption | omega | fail)) (show (σ.1 0) ≤ 60000 from by (first | omega | (simp only [st_s] <;> omega) | assumption | omega | fail)), ?_⟩
  intro x6 r_x6 hq
  have q5_1 := hq
  replace q5_1 : (0 : Int) ≤ x6 ∧ (x6 ≤ (σ.1 0) ∨ x6 = (0 : Int)) := q5_1
  refine ⟨_, K_X12_tokenEnd_q13 hT (show 0 ≤ x6 from by (first | omega | (simp only [st_s] <;> omega) | assumption | omega | fail)) (show (σ.1 0) ≤ 60000 from by (first | omega | (simp only [st_s] <;> omega) | assumption | omega | fail)), ?_⟩
  intro x9 r_x9 hq
  have q8_1 := hq
  replace q8_1 : x6 ≤ x9 ∧ (x9 ≤ (σ.1 0) ∨ x9 = x6) := q8_1
  refine ⟨fun c11 => ?_, fun c11 => ?_⟩
  ·
    exact ⟨hT, (show (τ3.1 0) = 0 ∧ (τ3.1 1) = 0 from by (first | omega | (simp only [st_s] <;> omega) | assumption | omega | fail))⟩
  ·
    refine ⟨_, K_X12_skipBlanks_q13 hT (show 0 ≤ x9 from by (first | omega | (simp only [st_s] <;> omega) | assumption | omega | fail)) (show (σ.1 0) ≤ 60000 from by (first | omega | (simp only [st_s] <;> omega) | assumption | omega | fail)), ?_⟩
    intro x13 r_x13 hq
    have q12_1 := hq
    replace q12_1 : x9 ≤ x13 ∧ (x13 ≤ (σ.1 0) ∨ x13 = x9) := q12_1
    refine ⟨fun c15 => ?_, fun c15 => ?_⟩
    ·
      refine ⟨fun c16 => ?_, fun c16 => ?_⟩
      ·
        refine ⟨fun c17 => ?_, fun c17 => ?_⟩
        ·
          exact ⟨hT, (show (τ3.1 0) = 0 ∧ (τ3.1 1) = 0 from by (first | omega | (simp only [st_s] <;> omega) | assumption | omega | fail))⟩
        ·
          refine ⟨(⟨by (first | omega | (simp only [st_s] <;> omega) | assumption | omega | fail), by (first | omega | (simp only [st_s] <;> omega) | assumption | omega | fail)⟩ : rg (x9 - x6)), ?_⟩
          refine ⟨_, K_X3_symbolNamed_q13 hT (show 0 ≤ x6 from by (first | omega | (simp only [st_s] <;> omega) | assumption | omega | fail)) (show x6 + (x9 - x6) ≤ 60000 from by (first | omega | (simp only [st_s] <;> omega) | assumption | omega | fail)), ?_⟩
          intro x20 r_x20 hq
          have q19_1 := hq
          replace q19_1 : -1 ≤ x20 ∧ x20 ≤ 999 := q19_1
          exact ⟨hT, (show (τ3.1 0) = 0 ∧ (τ3.1 1) = 0 from by (first | omega | (simp only [st_s] <;> omega) | assumption | omega | fail))⟩
      ·
        refine ⟨(⟨by (first | omega | (simp only [st_s] <;> omega) | assumption | omega | fail), by (first | omega | (simp only [st_s] <;> omega) | assumption | omega | fail)⟩ : rg (x9 - x6)), ?_⟩
        refine ⟨_, K_X3_statementNamed_q13 hT (show 0 ≤ x6 from by (first | omega | (simp only [st_s] <;> omega) | assumption | omega | fail)) (show x6 + (x9 - x6) ≤ 60000 from by (first | omega | (simp only [st_s] <;> omega) | assumption | omega | fail)), ?_⟩
        intro x24 r_x24 hq
        have q23_1 := hq
        replace q23_1 : -1 ≤ x24 ∧ x24 ≤ 1499 := q23_1
        exact ⟨hT, (show (τ3.1 0) = 0 ∧ (τ3.1 1) = 0 from by (first | omega | (simp only [st_s] <;> omega) | assumption | omega | fail))⟩
    ·
      exact ⟨hT, (show (τ3.1 0) = 0 ∧ (τ3.1 1) = 0 from by (first | omega | (simp only [st_s] <;> omega) | assumption | omega | fail))⟩
