-- pure: looks at the rows of the model
set_option maxHeartbeats 1000000 in
theorem K3_X13_rowWidth {n1 : Int} {σ : S0} (hT : m_T σ) (p1 : 0 ≤ n1) (p2 : n1 < 20001) : W_X13_rowWidth n1 σ (fun (x : Int) => (0 ≤ x ∧ x ≤ 60) ∧ (x = n_wd (σ.2.1 13) (σ.2.1 19) (σ.2.1 56 n1))) := by
  have A13 : ∀ j, 0 ≤ σ.2.1 13 j ∧ σ.2.1 13 j ≤ 4 := fun j => hT.2 13 j
  have A19 : ∀ j, 0 ≤ σ.2.1 19 j ∧ σ.2.1 19 j ≤ 60 := fun j => hT.2 19 j
  have A56 : ∀ j, 0 ≤ σ.2.1 56 j ∧ σ.2.1 56 j ≤ 1499 := fun j => hT.2 56 j
  unfold W_X13_rowWidth
  refine ⟨(show 0 ≤ n1 ∧ n1 < 20001 from by (first | omega | (simp only [st_s] <;> omega) | assumption | omega | fail)), ?_⟩
  intro x2 r_x2 e_x2
  have b_x2 : 0 ≤ x2 ∧ x2 ≤ 1499 := by rw [e_x2]; exact hT.2 56 _
  refine ⟨(show 0 ≤ x2 ∧ x2 < 1501 from by (first | omega | (simp only [st_s] <;> omega) | assumption | omega | fail)), ?_⟩
  intro x4 r_x4 e_x4
  have b_x4 : 0 ≤ x4 ∧ x4 ≤ 4 := by rw [e_x4]; exact hT.2 13 _
  refine ⟨fun c5 => ?_, fun c5 => ?_⟩
  ·
    intro x6 r_x6 e_x6
    have b_x6 : 0 ≤ x6 ∧ x6 ≤ 60 := by rw [e_x6]; exact hT.2 19 _
    exact ⟨(show 0 ≤ x6 ∧ x6 ≤ 60 from by (first | omega | (simp only [st_s] <;> omega) | assumption | omega | fail)), (show x6 = n_wd (σ.2.1 13) (σ.2.1 19) (σ.2.1 56 n1) from by (unfold n_wd; rw [← e_x2]; first | (rw [if_pos (by rw [← e_x4]; assumption)]; exact e_x6) | (rw [if_neg (by rw [← e_x4]; omega)])))⟩
  ·
    exact ⟨(show 0 ≤ 0 ∧ 0 ≤ 60 from by (first | omega | (simp only [st_s] <;> omega) | assumption | omega | fail)), (show 0 = n_wd (σ.2.1 13) (σ.2.1 19) (σ.2.1 56 n1) from by (unfold n_wd; rw [← e_x2]; first | (rw [if_pos (by rw [← e_x4]; assumption)]; exact e_x6) | (rw [if_neg (by rw [← e_x4]; omega)])))⟩
set_option maxHeartbeats 1000000 in
theorem K3_X13_rows {n1 : Int} {σ : S0} (hT : m_T σ) (p1 : -2147483648 ≤ n1 ∧ n1 ≤ 2147483647) (p2 : n_J σ) (p3 : m_J σ) (p4 : n_Y σ) : W_X13_rows n1 σ (fun (x : Int) (τ : S0) => (m_T τ) ∧ (-1 ≤ x) ∧ (¬ x = -1 → 0 ≤ n1 ∧ n1 < σ.1 5 ∧ (τ.1 38) = n1 + 1 ∧ x = (τ.1 36)) ∧ (n_Y τ)) := by
  have A13 : ∀ j, 0 ≤ σ.2.1 13 j ∧ σ.2.1 13 j ≤ 4 := fun j => hT.2 13 j
  have v5 : 0 ≤ σ.1 5 ∧ σ.1 5 ≤ 1500 := hT.1 5
  have v36 : 0 ≤ σ.1 36 ∧ σ.1 36 ≤ 20000 := hT.1 36
  have v38 : 0 ≤ σ.1 38 ∧ σ.1 38 ≤ 1500 := hT.1 38
  have W5 : σ.1 5 = σ.1 5 := rfl
  have G13 : σ.2.1 13 = σ.2.1 13 := rfl
  unfold W_X13_rows
  refine ⟨_, K_X13_isProved hT (show -2147483648 ≤ n1 ∧ n1 ≤ 2147483647 from by (first | omega | (simp only [st_s] <;> omega) | assumption | omega | fail)), ?_⟩
  intro x2 r_x2 hq
  obtain ⟨q1_1, q1_2⟩ := hq
  replace q1_1 : 0 ≤ x2 ∧ x2 ≤ 1 := q1_1
  replace q1_2 : ¬ x2 = 0 → 0 ≤ n1 ∧ n1 < (σ.1 5) ∧ σ.2.1 13 n1 = 3 := q1_2
  refine ⟨fun c4 => ?_, fun c4 => ?_⟩
  ·
    refine ⟨_, K3_X13_makeRows hT (show 0 ≤ n1 from by (first | omega | (simp only [st_s] <;> omega) | assumption | omega | fail)) (show n1 < σ.1 5 from by (first | omega | (simp only [st_s] <;> omega) | assumption | omega | fail)) (show σ.2.1 13 n1 = 3 from by exact (q1_2 (by assumption)).2.2) (show n_J σ from by (first | omega | (simp only [st_s] <;> omega) | assumption | omega | fail)) (show m_J σ from by (first | omega | (simp only [st_s] <;> omega) | assumption | omega | fail)) (show n_Y σ from by (first | omega | (simp only [st_s] <;> omega) | assumption | omega | fail)), ?_⟩
    intro τ7 hn_τ7 hf_τ7 hq
    obtain ⟨hT, q5_1, q5_2⟩ := hq
    replace q5_1 : (τ7.1 38) = n1 + 1 := q5_1
    replace q5_2 : n_Y τ7 := q5_2
    have w5_τ7 : τ7.1 5 = σ.1 5 := hf_τ7.1 5 (by decide)
    have g13_τ7 : τ7.2.1 13 = σ.2.1 13 := hf_τ7.2.1 13 (by decide)
    have W5 : τ7.1 5 = σ.1 5 := by first | exact w5_τ7.trans W5 | omega
    have G13 : τ7.2.1 13 = σ.2.1 13 := (g13_τ7).trans G13
    have A13 : ∀ j, 0 ≤ τ7.2.1 13 j ∧ τ7.2.1 13 j ≤ 4 := fun j => hT.2 13 j
    have v5 : 0 ≤ τ7.1 5 ∧ τ7.1 5 ≤ 1500 := hT.1 5
    have v36 : 0 ≤ τ7.1 36 ∧ τ7.1 36 ≤ 20000 := hT.1 36
    have v38 : 0 ≤ τ7.1 38 ∧ τ7.1 38 ≤ 1500 := hT.1 38
    exact ⟨hT, (show -1 ≤ (τ7.1 36) from by (first | omega | (simp only [st_s] <;> omega) | assumption | omega | fail)), (show ¬ (τ7.1 36) = -1 → 0 ≤ n1 ∧ n1 < σ.1 5 ∧ (τ7.1 38) = n1 + 1 ∧ (τ7.1 36) = (τ7.1 36) from by (first | omega | (simp only [st_s] <;> omega) | assumption | omega | fail)), (show n_Y τ7 from by (first | exact q5_2 | exact p4 | fail))⟩
  ·
    exact ⟨hT, (show -1 ≤ (-1) from by (first | omega | (simp only [st_s] <;> omega) | assumption | omega | fail)), (show ¬ (-1) = -1 → 0 ≤ n1 ∧ n1 < σ.1 5 ∧ (σ.1 38) = n1 + 1 ∧ (-1) = (σ.1 36) from by (first | omega | (simp only [st_s] <;> omega) | assumption | omega | fail)), (show n_Y σ from by (first | exact q5_2 | exact p4 | fail))⟩
set_option maxHeartbeats 1000000 in
theorem K3_X13_isRow {n1 : Int} {n2 : Int} {σ : S0} (hT : m_T σ) (p1 : -2147483648 ≤ n1 ∧ n1 ≤ 2147483647) (p2 : -2147483648 ≤ n2 ∧ n2 ≤ 2147483647) (p3 : n_J σ) (p4 : m_J σ) (p5 : n_Y σ) : W_X13_isRow n1 n2 σ (fun (x : Int) (τ : S0) => (m_T τ) ∧ (0 ≤ x ∧ x ≤ 1) ∧ (¬ x = 0 → 0 ≤ n1 ∧ (τ.1 38) = n1 + 1 ∧ 0 ≤ n2 ∧ n2 < (τ.1 36)) ∧ (n_Y τ)) := by
  have A13 : ∀ j, 0 ≤ σ.2.1 13 j ∧ σ.2.1 13 j ≤ 4 := fun j => hT.2 13 j
  have v5 : 0 ≤ σ.1 5 ∧ σ.1 5 ≤ 1500 := hT.1 5
  have v36 : 0 ≤ σ.1 36 ∧ σ.1 36 ≤ 20000 := hT.1 36
  have v38 : 0 ≤ σ.1 38 ∧ σ.1 38 ≤ 1500 := hT.1 38
  have W5 : σ.1 5 = σ.1 5 := rfl
  have G13 : σ.2.1 13 = σ.2.1 13 := rfl
  unfold W_X13_isRow
  refine ⟨_, K_X13_isProved hT (show -2147483648 ≤ n1 ∧ n1 ≤ 2147483647 from by (first | omega | (simp only [st_s] <;> omega) | assumption | omega | fail)), ?_⟩
  intro x2 r_x2 hq
  obtain ⟨q1_1, q1_2⟩ := hq
  replace q1_1 : 0 ≤ x2 ∧ x2 ≤ 1 := q1_1
  replace q1_2 : ¬ x2 = 0 → 0 ≤ n1 ∧ n1 < (σ.1 5) ∧ σ.2.1 13 n1 = 3 := q1_2
  refine ⟨fun c4 => ?_, fun c4 => ?_⟩
  ·
    exact ⟨hT, (show 0 ≤ 0 ∧ 0 ≤ 1 from by (first | omega | (simp only [st_s] <;> omega) | assumption | omega | fail)), (show ¬ 0 = 0 → 0 ≤ n1 ∧ (σ.1 38) = n1 + 1 ∧ 0 ≤ n2 ∧ n2 < (σ.1 36) from by (first | omega | (simp only [st_s] <;> omega) | assumption | omega | fail)), (show n_Y σ from by (first | exact q6_3 | exact p5 | fail))⟩
  ·
    refine ⟨fun c5 => ?_, fun c5 => ?_⟩
    ·
      exact ⟨hT, (show 0 ≤ 0 ∧ 0 ≤ 1 from by (first | omega | (simp only [st_s] <;> omega) | assumption | omega | fail)), (show ¬ 0 = 0 → 0 ≤ n1 ∧ (σ.1 38) = n1 + 1 ∧ 0 ≤ n2 ∧ n2 < (σ.1 36) from by (first | omega | (simp only [st_s] <;> omega) | assumption | omega | fail)), (show n_Y σ from by (first | exact q6_3 | exact p5 | fail))⟩
    ·
      refine ⟨_, K3_X13_rows hT (show -2147483648 ≤ n1 ∧ n1 ≤ 2147483647 from by (first | omega | (simp only [st_s] <;> omega) | assumption | omega | fail)) (show n_J σ from by (first | omega | (simp only [st_s] <;> omega) | assumption | omega | fail)) (show m_J σ from by (first | omega | (simp only [st_s] <;> omega) | assumption | omega | fail)) (show n_Y σ from by (first | omega | (simp only [st_s] <;> omega) | assumption | omega | fail)), ?_⟩
      intro x7 τ8 r_x7 hn_τ8 hf_τ8 hq
      obtain ⟨hT, q6_1, q6_2, q6_3⟩ := hq
      replace q6_1 : -1 ≤ x7 := q6_1
      replace q6_2 : ¬ x7 = -1 → 0 ≤ n1 ∧ n1 < σ.1 5 ∧ (τ8.1 38) = n1 + 1 ∧ x7 = (τ8.1 36) := q6_2
      replace q6_3 : n_Y τ8 := q6_3
      have w5_τ8 : τ8.1 5 = σ.1 5 := hf_τ8.1 5 (by decide)
      have g13_τ8 : τ8.2.1 13 = σ.2.1 13 := hf_τ8.2.1 13 (by decide)
      have W5 : τ8.1 5 = σ.1 5 := by first | exact w5_τ8.trans W5 | omega
      have G13 : τ8.2.1 13 = σ.2.1 13 := (g13_τ8).trans G13
      have A13 : ∀ j, 0 ≤ τ8.2.1 13 j ∧ τ8.2.1 13 j ≤ 4 := fun j => hT.2 13 j
      have v5 : 0 ≤ τ8.1 5 ∧ τ8.1 5 ≤ 1500 := hT.1 5
      have v36 : 0 ≤ τ8.1 36 ∧ τ8.1 36 ≤ 20000 := hT.1 36
      have v38 : 0 ≤ τ8.1 38 ∧ τ8.1 38 ≤ 1500 := hT.1 38
      refine ⟨fun c9 => ?_, fun c9 => ?_⟩
      ·
        exact ⟨hT, (show 0 ≤ 0 ∧ 0 ≤ 1 from by (first | omega | (simp only [st_s] <;> omega) | assumption | omega | fail)), (show ¬ 0 = 0 → 0 ≤ n1 ∧ (τ8.1 38) = n1 + 1 ∧ 0 ≤ n2 ∧ n2 < (τ8.1 36) from by (first | omega | (simp only [st_s] <;> omega) | assumption | omega | fail)), (show n_Y τ8 from by (first | exact q6_3 | exact p5 | fail))⟩
      ·
        exact ⟨hT, (show 0 ≤ 1 ∧ 1 ≤ 1 from by (first | omega | (simp only [st_s] <;> omega) | assumption | omega | fail)), (show ¬ 1 = 0 → 0 ≤ n1 ∧ (τ8.1 38) = n1 + 1 ∧ 0 ≤ n2 ∧ n2 < (τ8.1 36) from by (first | omega | (simp only [st_s] <;> omega) | assumption | omega | fail)), (show n_Y τ8 from by (first | exact q6_3 | exact p5 | fail))⟩
set_option maxHeartbeats 1000000 in
theorem K3_X13_row {n1 : Int} {n2 : Int} {σ : S0} (hT : m_T σ) (p1 : -2147483648 ≤ n1 ∧ n1 ≤ 2147483647) (p2 : -2147483648 ≤ n2 ∧ n2 ≤ 2147483647) (p3 : n_J σ) (p4 : m_J σ) (p5 : n_Y σ) : W_X13_row n1 n2 σ (fun (x : Int) (τ : S0) => (m_T τ) ∧ (n_Y τ)) := by
  have v36 : 0 ≤ σ.1 36 ∧ σ.1 36 ≤ 20000 := hT.1 36
  have v38 : 0 ≤ σ.1 38 ∧ σ.1 38 ≤ 1500 := hT.1 38
  unfold W_X13_row
  refine ⟨_, K3_X13_isRow hT (show -2147483648 ≤ n1 ∧ n1 ≤ 2147483647 from by (first | omega | (simp only [st_s] <;> omega) | assumption | omega | fail)) (show -2147483648 ≤ n2 ∧ n2 ≤ 2147483647 from by (first | omega | (simp only [st_s] <;> omega) | assumption | omega | fail)) (show n_J σ from by (first | omega | (simp only [st_s] <;> omega) | assumption | omega | fail)) (show m_J σ from by (first | omega | (simp only [st_s] <;> omega) | assumption | omega | fail)) (show n_Y σ from by (first | omega | (simp only [st_s] <;> omega) | assumption | omega | fail)), ?_⟩
  intro x2 τ3 r_x2 hn_τ3 hf_τ3 hq
  obtain ⟨hT, q1_1, q1_2, q1_3⟩ := hq
  replace q1_1 : 0 ≤ x2 ∧ x2 ≤ 1 := q1_1
  replace q1_2 : ¬ x2 = 0 → 0 ≤ n1 ∧ (τ3.1 38) = n1 + 1 ∧ 0 ≤ n2 ∧ n2 < (τ3.1 36) := q1_2
  replace q1_3 : n_Y τ3 := q1_3
  have v36 : 0 ≤ τ3.1 36 ∧ τ3.1 36 ≤ 20000 := hT.1 36
  have v38 : 0 ≤ τ3.1 38 ∧ τ3.1 38 ≤ 1500 := hT.1 38
  refine ⟨fun c4 => ?_, fun c4 => ?_⟩
  ·
    exact ⟨hT, (show n_Y τ3 from by exact q1_3)⟩
  ·
    refine ⟨(show 0 ≤ n2 ∧ n2 < 20001 from by (first | omega | (simp only [st_s] <;> omega) | assumption | omega | fail)), ?_⟩
    intro x6 r_x6 e_x6
    have b_x6 : 0 ≤ x6 ∧ x6 ≤ 1499 := by rw [e_x6]; exact hT.2 56 _
    exact ⟨hT, (show n_Y τ3 from by exact q1_3)⟩
set_option maxHeartbeats 1000000 in
theorem K3_X13_from {n1 : Int} {n2 : Int} {n3 : Int} {σ : S0} (hT : m_T σ) (p1 : -2147483648 ≤ n1 ∧ n1 ≤ 2147483647) (p2 : -2147483648 ≤ n2 ∧ n2 ≤ 2147483647) (p3 : -2147483648 ≤ n3 ∧ n3 ≤ 2147483647) (p4 : n_J σ) (p5 : m_J σ) (p6 : n_Y σ) : W_X13_from n1 n2 n3 σ (fun (x : Int) (τ : S0) => (m_T τ) ∧ (n_Y τ)) := by
  have A13 : ∀ j, 0 ≤ σ.2.1 13 j ∧ σ.2.1 13 j ≤ 4 := fun j => hT.2 13 j
  have A19 : ∀ j, 0 ≤ σ.2.1 19 j ∧ σ.2.1 19 j ≤ 60 := fun j => hT.2 19 j
  have A56 : ∀ j, 0 ≤ σ.2.1 56 j ∧ σ.2.1 56 j ≤ 1499 := fun j => hT.2 56 j
  have A57 : ∀ j, 0 ≤ σ.2.1 57 j ∧ σ.2.1 57 j ≤ 120000 := fun j => hT.2 57 j
  have A58 : ∀ j, 0 ≤ σ.2.1 58 j ∧ σ.2.1 58 j ≤ 20000 := fun j => hT.2 58 j
  have v36 : 0 ≤ σ.1 36 ∧ σ.1 36 ≤ 20000 := hT.1 36
  have v38 : 0 ≤ σ.1 38 ∧ σ.1 38 ≤ 1500 := hT.1 38
  have G13 : σ.2.1 13 = σ.2.1 13 := rfl
  have G19 : σ.2.1 19 = σ.2.1 19 := rfl
  unfold W_X13_from
  refine ⟨_, K3_X13_isRow hT (show -2147483648 ≤ n1 ∧ n1 ≤ 2147483647 from by (first | omega | (simp only [st_s] <;> omega) | assumption | omega | fail)) (show -2147483648 ≤ n2 ∧ n2 ≤ 2147483647 from by (first | omega | (simp only [st_s] <;> omega) | assumption | omega | fail)) (show n_J σ from by (first | omega | (simp only [st_s] <;> omega) | assumption | omega | fail)) (show m_J σ from by (first | omega | (simp only [st_s] <;> omega) | assumption | omega | fail)) (show n_Y σ from by (first | omega | (simp only [st_s] <;> omega) | assumption | omega | fail)), ?_⟩
  intro x2 τ3 r_x2 hn_τ3 hf_τ3 hq
  obtain ⟨hT, q1_1, q1_2, q1_3⟩ := hq
  replace q1_1 : 0 ≤ x2 ∧ x2 ≤ 1 := q1_1
  replace q1_2 : ¬ x2 = 0 → 0 ≤ n1 ∧ (τ3.1 38) = n1 + 1 ∧ 0 ≤ n2 ∧ n2 < (τ3.1 36) := q1_2
  replace q1_3 : n_Y τ3 := q1_3
  have g13_τ3 : τ3.2.1 13 = σ.2.1 13 := hf_τ3.2.1 13 (by decide)
  have g19_τ3 : τ3.2.1 19 = σ.2.1 19 := hf_τ3.2.1 19 (by decide)
  have G13 : τ3.2.1 13 = σ.2.1 13 := (g13_τ3).trans G13
  have G19 : τ3.2.1 19 = σ.2.1 19 := (g19_τ3).trans G19
  have A13 : ∀ j, 0 ≤ τ3.2.1 13 j ∧ τ3.2.1 13 j ≤ 4 := fun j => hT.2 13 j
  have A19 : ∀ j, 0 ≤ τ3.2.1 19 j ∧ τ3.2.1 19 j ≤ 60 := fun j => hT.2 19 j
  have A56 : ∀ j, 0 ≤ τ3.2.1 56 j ∧ τ3.2.1 56 j ≤ 1499 := fun j => hT.2 56 j
  have A57 : ∀ j, 0 ≤ τ3.2.1 57 j ∧ τ3.2.1 57 j ≤ 120000 := fun j => hT.2 57 j
  have A58 : ∀ j, 0 ≤ τ3.2.1 58 j ∧ τ3.2.1 58 j ≤ 20000 := fun j => hT.2 58 j
  have v36 : 0 ≤ τ3.1 36 ∧ τ3.1 36 ≤ 20000 := hT.1 36
  have v38 : 0 ≤ τ3.1 38 ∧ τ3.1 38 ≤ 1500 := hT.1 38
  refine ⟨fun c4 => ?_, fun c4 => ?_⟩
  ·
    exact ⟨hT, (show n_Y τ3 from by exact q1_3)⟩
  ·
    refine ⟨_, K3_X13_rowWidth hT (show 0 ≤ n2 from by (first | omega | (simp only [st_s] <;> omega) | assumption | omega | fail)) (show n2 < 20001 from by (first | omega | (simp only [st_s] <;> omega) | assumption | omega | fail)), ?_⟩
    intro x6 r_x6 hq
    obtain ⟨q5_1, q5_2⟩ := hq
    replace q5_1 : 0 ≤ x6 ∧ x6 ≤ 60 := q5_1
    replace q5_2 : x6 = n_wd (τ3.2.1 13) (τ3.2.1 19) (τ3.2.1 56 n2) := q5_2
    refine ⟨(⟨by (first | omega | (simp only [st_s] <;> omega) | assumption | omega | fail), by (first | omega | (simp only [st_s] <;> omega) | assumption | omega | fail)⟩ : rg (x6 - 1)), ?_⟩
    refine ⟨_, K_X13_isIn hT, ?_⟩
    intro x10 r_x10 hq
    obtain ⟨q9_1, q9_2⟩ := hq
    replace q9_1 : 0 ≤ x10 ∧ x10 ≤ 1 := q9_1
    replace q9_2 : x10 = 1 ↔ ((0 : Int64) ≤ (j_of n3) ∧ (j_of n3) ≤ (j_of (x6 - 1))) := q9_2
    have in9 := in_i (show x10 = 1 ↔ (j_of 0 ≤ j_of n3 ∧ j_of n3 ≤ j_of (x6 - 1)) from q9_2) (by unfold rg; omega) (by unfold rg; omega) (by unfold rg; omega)
    refine ⟨fun c12 => ?_, fun c12 => ?_⟩
    ·
      exact ⟨hT, (show n_Y τ3 from by exact q1_3)⟩
    ·
      refine ⟨(show 0 ≤ n2 ∧ n2 < 20001 from by (first | omega | (simp only [st_s] <;> omega) | assumption | omega | fail)), ?_⟩
      intro x14 r_x14 e_x14
      have b_x14 : 0 ≤ x14 ∧ x14 ≤ 120000 := by rw [e_x14]; exact hT.2 57 _
      have yy := (n_Y_e (n := n1) q1_3 (by omega) (by omega)).2 n2 (by omega) (by omega)
      obtain ⟨yy1, ⟨yy2, yy3⟩, yy4⟩ := yy
      refine ⟨(show 0 ≤ (x14 + n3) ∧ (x14 + n3) < 120000 from by (first | omega | (simp only [st_s] <;> omega) | assumption | omega | fail)), ?_⟩
      intro x16 r_x16 e_x16
      have b_x16 : 0 ≤ x16 ∧ x16 ≤ 20000 := by rw [e_x16]; exact hT.2 58 _
      exact ⟨hT, (show n_Y τ3 from by exact q1_3)⟩
set_option maxHeartbeats 4000000 in
theorem K3_X13_makeSizes {n1 : Int} {σ : S0} (hT : m_T σ) (p1 : 0 ≤ n1) (p2 : n1 < σ.1 5) (p3 : σ.2.1 13 n1 = 3) (p4 : n_J σ) (p5 : m_J σ) (p6 : n_Y σ) : W_X13_makeSizes n1 σ (fun (τ : S0) => (m_T τ) ∧ ((τ.1 38) = n1 + 1) ∧ (n_Y τ)) := by
  have A13 : ∀ j, 0 ≤ σ.2.1 13 j ∧ σ.2.1 13 j ≤ 4 := fun j => hT.2 13 j
  have A19 : ∀ j, 0 ≤ σ.2.1 19 j ∧ σ.2.1 19 j ≤ 60 := fun j => hT.2 19 j
  have A56 : ∀ j, 0 ≤ σ.2.1 56 j ∧ σ.2.1 56 j ≤ 1499 := fun j => hT.2 56 j
  have A57 : ∀ j, 0 ≤ σ.2.1 57 j ∧ σ.2.1 57 j ≤ 120000 := fun j => hT.2 57 j
  have A58 : ∀ j, 0 ≤ σ.2.1 58 j ∧ σ.2.1 58 j ≤ 20000 := fun j => hT.2 58 j
  have v5 : 0 ≤ σ.1 5 ∧ σ.1 5 ≤ 1500 := hT.1 5
  have v36 : 0 ≤ σ.1 36 ∧ σ.1 36 ≤ 20000 := hT.1 36
  have v38 : 0 ≤ σ.1 38 ∧ σ.1 38 ≤ 1500 := hT.1 38
  have W5 : σ.1 5 = σ.1 5 := rfl
  have G13 : σ.2.1 13 = σ.2.1 13 := rfl
  have G19 : σ.2.1 19 = σ.2.1 19 := rfl
  intro P7 P20 h7 h20
  have l_7 : ∀ (m_7 : Nat) (u2_7 : Int) (τ_7 : S0), 20001 - u2_7 < (m_7 : Int) → (m_T τ_7) → (τ_7.1 5 = σ.1 5) → (τ_7.2.1 13 = σ.2.1 13) → (τ_7.2.1 19 = σ.2.1 19) → (0 ≤ u2_7) → (u2_7 ≤ 20001) → ((τ_7.1 38) = n1 + 1) → (n_Y τ_7) → P7 u2_7 τ_7 := by
    intro m_7
    induction m_7 with
    | zero =>
      intro u2_7 τ_7 hm hT W5 G13 G19 i7_1 i7_2 i7_3 i7_4
      have A13 : ∀ j, 0 ≤ τ_7.2.1 13 j ∧ τ_7.2.1 13 j ≤ 4 := fun j => hT.2 13 j
      have A19 : ∀ j, 0 ≤ τ_7.2.1 19 j ∧ τ_7.2.1 19 j ≤ 60 := fun j => hT.2 19 j
      have A56 : ∀ j, 0 ≤ τ_7.2.1 56 j ∧ τ_7.2.1 56 j ≤ 1499 := fun j => hT.2 56 j
      have A57 : ∀ j, 0 ≤ τ_7.2.1 57 j ∧ τ_7.2.1 57 j ≤ 120000 := fun j => hT.2 57 j
      have A58 : ∀ j, 0 ≤ τ_7.2.1 58 j ∧ τ_7.2.1 58 j ≤ 20000 := fun j => hT.2 58 j
      have v5 : 0 ≤ τ_7.1 5 ∧ τ_7.1 5 ≤ 1500 := hT.1 5
      have v36 : 0 ≤ τ_7.1 36 ∧ τ_7.1 36 ≤ 20000 := hT.1 36
      have v38 : 0 ≤ τ_7.1 38 ∧ τ_7.1 38 ≤ 1500 := hT.1 38
      exfalso; (first | omega | (simp only [st_s] <;> omega) | assumption | omega | fail)
    | succ m_7 ih_7 =>
      intro u2_7 τ_7 hm_7 hT W5 G13 G19 i7_1 i7_2 i7_3 i7_4
      have A13 : ∀ j, 0 ≤ τ_7.2.1 13 j ∧ τ_7.2.1 13 j ≤ 4 := fun j => hT.2 13 j
      have A19 : ∀ j, 0 ≤ τ_7.2.1 19 j ∧ τ_7.2.1 19 j ≤ 60 := fun j => hT.2 19 j
      have A56 : ∀ j, 0 ≤ τ_7.2.1 56 j ∧ τ_7.2.1 56 j ≤ 1499 := fun j => hT.2 56 j
      have A57 : ∀ j, 0 ≤ τ_7.2.1 57 j ∧ τ_7.2.1 57 j ≤ 120000 := fun j => hT.2 57 j
      have A58 : ∀ j, 0 ≤ τ_7.2.1 58 j ∧ τ_7.2.1 58 j ≤ 20000 := fun j => hT.2 58 j
      have v5 : 0 ≤ τ_7.1 5 ∧ τ_7.1 5 ≤ 1500 := hT.1 5
      have v36 : 0 ≤ τ_7.1 36 ∧ τ_7.1 36 ≤ 20000 := hT.1 36
      have v38 : 0 ≤ τ_7.1 38 ∧ τ_7.1 38 ≤ 1500 := hT.1 38
      have l_20 : ∀ (m_20 : Nat) (u2_20 : Int) (u3_20 : Int64) (u5_20 : Int) (τ_20 : S0), 61 - u5_20 < (m_20 : Int) → (m_T τ_20) → (τ_20.1 5 = σ.1 5) → (τ_20.2.1 13 = σ.2.1 13) → (τ_20.2.1 19 = σ.2.1 19) → (0 ≤ u2_20) → (u2_20 < (τ_20.1 36)) → (0 ≤ u5_20) → (u5_20 ≤ 60) → ((τ_20.1 38) = n1 + 1) → (n_Y τ_20) → (u2_20 + (m_7 : Int) ≥ 20001) → P20 u2_20 u3_20 u5_20 τ_20 := by
        intro m_20
        induction m_20 with
        | zero =>
          intro u2_20 u3_20 u5_20 τ_20 hm hT W5 G13 G19 i20_1 i20_2 i20_3 i20_4 i20_5 i20_6 i20_7
          have A13 : ∀ j, 0 ≤ τ_20.2.1 13 j ∧ τ_20.2.1 13 j ≤ 4 := fun j => hT.2 13 j
          have A19 : ∀ j, 0 ≤ τ_20.2.1 19 j ∧ τ_20.2.1 19 j ≤ 60 := fun j => hT.2 19 j
          have A56 : ∀ j, 0 ≤ τ_20.2.1 56 j ∧ τ_20.2.1 56 j ≤ 1499 := fun j => hT.2 56 j
          have A57 : ∀ j, 0 ≤ τ_20.2.1 57 j ∧ τ_20.2.1 57 j ≤ 120000 := fun j => hT.2 57 j
          have A58 : ∀ j, 0 ≤ τ_20.2.1 58 j ∧ τ_20.2.1 58 j ≤ 20000 := fun j => hT.2 58 j
          have v5 : 0 ≤ τ_20.1 5 ∧ τ_20.1 5 ≤ 1500 := hT.1 5
          have v36 : 0 ≤ τ_20.1 36 ∧ τ_20.1 36 ≤ 20000 := hT.1 36
          have v38 : 0 ≤ τ_20.1 38 ∧ τ_20.1 38 ≤ 1500 := hT.1 38
          exfalso; (first | omega | (simp only [st_s] <;> omega) | assumption | omega | fail)
        | succ m_20 ih_20 =>
          intro u2_20 u3_20 u5_20 τ_20 hm_20 hT W5 G13 G19 i20_1 i20_2 i20_3 i20_4 i20_5 i20_6 i20_7
          have A13 : ∀ j, 0 ≤ τ_20.2.1 13 j ∧ τ_20.2.1 13 j ≤ 4 := fun j => hT.2 13 j
          have A19 : ∀ j, 0 ≤ τ_20.2.1 19 j ∧ τ_20.2.1 19 j ≤ 60 := fun j => hT.2 19 j
          have A56 : ∀ j, 0 ≤ τ_20.2.1 56 j ∧ τ_20.2.1 56 j ≤ 1499 := fun j => hT.2 56 j
          have A57 : ∀ j, 0 ≤ τ_20.2.1 57 j ∧ τ_20.2.1 57 j ≤ 120000 := fun j => hT.2 57 j
          have A58 : ∀ j, 0 ≤ τ_20.2.1 58 j ∧ τ_20.2.1 58 j ≤ 20000 := fun j => hT.2 58 j
          have v5 : 0 ≤ τ_20.1 5 ∧ τ_20.1 5 ≤ 1500 := hT.1 5
          have v36 : 0 ≤ τ_20.1 36 ∧ τ_20.1 36 ≤ 20000 := hT.1 36
          have v38 : 0 ≤ τ_20.1 38 ∧ τ_20.1 38 ≤ 1500 := hT.1 38
          refine h20 u2_20 u3_20 u5_20 τ_20 ?_
          refine ⟨_, K3_X13_rowWidth hT (show 0 ≤ u2_20 from by (first | omega | (simp only [st_s] <;> omega) | assumption | omega | fail)) (show u2_20 < 20001 from by (first | omega | (simp only [st_s] <;> omega) | assumption | omega | fail)), ?_⟩
          intro x6 r_x6 hq
          obtain ⟨q5_1, q5_2⟩ := hq
          replace q5_1 : 0 ≤ x6 ∧ x6 ≤ 60 := q5_1
          replace q5_2 : x6 = n_wd (τ_20.2.1 13) (τ_20.2.1 19) (τ_20.2.1 56 u2_20) := q5_2
          refine ⟨fun c8 => ?_, fun c8 => ?_⟩
          ·
            refine ⟨(show 0 ≤ u2_20 ∧ u2_20 < 20001 from by (first | omega | (simp only [st_s] <;> omega) | assumption | omega | fail)), ?_⟩
            replace hT := mT_b (k := 2) (j := u2_20) (x := u3_20) hT
            refine ⟨(⟨by (first | omega | (simp only [st_s] <;> omega) | assumption | omega | fail), by (first | omega | (simp only [st_s] <;> omega) | assumption | omega | fail)⟩ : rg (u2_20 + 1)), ?_⟩
            exact ih_7 _ _ (show (20001 - (u2_20 + 1) : Int) < ((m_7 : Nat) : Int) from by ((first | omega | (simp only [st_s] <;> omega) | assumption | omega | fail))) hT (show τ_20.1 5 = σ.1 5 from by first | exact W5 | omega) G13 G19 (show 0 ≤ (u2_20 + 1) from by (first | omega | (simp only [st_s] <;> omega) | assumption | omega | fail)) (show (u2_20 + 1) ≤ 20001 from by (first | omega | (simp only [st_s] <;> omega) | assumption | omega | fail)) (show (τ_20.1 38) = n1 + 1 from by (first | omega | (simp only [st_s] <;> omega) | assumption | omega | fail)) (show n_Y (s_b τ_20 2 u2_20 u3_20) from by (first | exact q1_2 | exact i20_6 | fail))
          ·
            refine ⟨(show 0 ≤ u2_20 ∧ u2_20 < 20001 from by (first | omega | (simp only [st_s] <;> omega) | assumption | omega | fail)), ?_⟩
            intro x12 r_x12 e_x12
            have b_x12 : 0 ≤ x12 ∧ x12 ≤ 120000 := by rw [e_x12]; exact hT.2 57 _
            have yy := (n_Y_e (n := n1) i20_6 (by omega) (by omega)).2 u2_20 (by omega) (by omega)
            obtain ⟨yy1, ⟨yy2, yy3⟩, yy4⟩ := yy
            refine ⟨(show 0 ≤ (x12 + u5_20) ∧ (x12 + u5_20) < 120000 from by (first | omega | (simp only [st_s] <;> omega) | assumption | omega | fail)), ?_⟩
            intro x14 r_x14 e_x14
            have b_x14 : 0 ≤ x14 ∧ x14 ≤ 20000 := by rw [e_x14]; exact hT.2 58 _
            refine ⟨(show 0 ≤ x14 ∧ x14 < 20001 from by (first | omega | (simp only [st_s] <;> omega) | assumption | omega | fail)), ?_⟩
            intro x16 e_x16
            refine ⟨fun c17 => ?_, fun c17 => ?_⟩
            ·
              refine ⟨(⟨by (first | omega | (simp only [st_s] <;> omega) | assumption | omega | fail), by (first | omega | (simp only [st_s] <;> omega) | assumption | omega | fail)⟩ : rg (u5_20 + 1)), ?_⟩
              exact ih_20 _ _ _ _ (show (61 - (u5_20 + 1) : Int) < ((m_20 : Nat) : Int) from by ((first | omega | (simp only [st_s] <;> omega) | assumption | omega | fail))) hT (show τ_20.1 5 = σ.1 5 from by first | exact W5 | omega) G13 G19 (show 0 ≤ u2_20 from by (first | omega | (simp only [st_s] <;> omega) | assumption | omega | fail)) (show u2_20 < (τ_20.1 36) from by (first | omega | (simp only [st_s] <;> omega) | assumption | omega | fail)) (show 0 ≤ (u5_20 + 1) from by (first | omega | (simp only [st_s] <;> omega) | assumption | omega | fail)) (show (u5_20 + 1) ≤ 60 from by (first | omega | (simp only [st_s] <;> omega) | assumption | omega | fail)) (show (τ_20.1 38) = n1 + 1 from by (first | omega | (simp only [st_s] <;> omega) | assumption | omega | fail)) (show n_Y τ_20 from by (first | exact i7_4 | exact i20_6 | fail)) (show u2_20 + (m_7 : Int) ≥ 20001 from by (first | omega | (simp only [st_s] <;> omega) | assumption | omega | fail))
            ·
              refine ⟨(⟨by (first | omega | (simp only [st_s] <;> omega) | assumption | omega | fail), by (first | omega | (simp only [st_s] <;> omega) | assumption | omega | fail)⟩ : rg (u5_20 + 1)), ?_⟩
              exact ih_20 _ _ _ _ (show (61 - (u5_20 + 1) : Int) < ((m_20 : Nat) : Int) from by ((first | omega | (simp only [st_s] <;> omega) | assumption | omega | fail))) hT (show τ_20.1 5 = σ.1 5 from by first | exact W5 | omega) G13 G19 (show 0 ≤ u2_20 from by (first | omega | (simp only [st_s] <;> omega) | assumption | omega | fail)) (show u2_20 < (τ_20.1 36) from by (first | omega | (simp only [st_s] <;> omega) | assumption | omega | fail)) (show 0 ≤ (u5_20 + 1) from by (first | omega | (simp only [st_s] <;> omega) | assumption | omega | fail)) (show (u5_20 + 1) ≤ 60 from by (first | omega | (simp only [st_s] <;> omega) | assumption | omega | fail)) (show (τ_20.1 38) = n1 + 1 from by (first | omega | (simp only [st_s] <;> omega) | assumption | omega | fail)) (show n_Y τ_20 from by (first | exact i7_4 | exact i20_6 | fail)) (show u2_20 + (m_7 : Int) ≥ 20001 from by (first | omega | (simp only [st_s] <;> omega) | assumption | omega | fail))
      refine h7 u2_7 τ_7 ?_
      refine ⟨fun c4 => ?_, fun c4 => ?_⟩
      ·
        exact ⟨hT, (show (τ_7.1 38) = n1 + 1 from by (first | omega | (simp only [st_s] <;> omega) | assumption | omega | fail)), (show n_Y τ_7 from by exact i7_4)⟩
      ·
        exact l_20 ((61 - 0 : Int).toNat + 1) _ _ _ _ (show (61 - 0 : Int) < (((61 - 0 : Int).toNat + 1 : Nat) : Int) from by ((first | omega | (simp only [st_s] <;> omega) | assumption | omega | fail))) hT (show τ_7.1 5 = σ.1 5 from by first | exact W5 | omega) G13 G19 (show 0 ≤ u2_7 from by (first | omega | (simp only [st_s] <;> omega) | assumption | omega | fail)) (show u2_7 < (τ_7.1 36) from by (first | omega | (simp only [st_s] <;> omega) | assumption | omega | fail)) (show 0 ≤ 0 from by (first | omega | (simp only [st_s] <;> omega) | assumption | omega | fail)) (show 0 ≤ 60 from by (first | omega | (simp only [st_s] <;> omega) | assumption | omega | fail)) (show (τ_7.1 38) = n1 + 1 from by (first | omega | (simp only [st_s] <;> omega) | assumption | omega | fail)) (show n_Y τ_7 from by (first | exact i7_4 | exact i20_6 | fail)) (show u2_7 + (m_7 : Int) ≥ 20001 from by (first | omega | (simp only [st_s] <;> omega) | assumption | omega | fail))
  refine ⟨_, K3_X13_makeRows hT (show 0 ≤ n1 from by (first | omega | (simp only [st_s] <;> omega) | assumption | omega | fail)) (show n1 < σ.1 5 from by (first | omega | (simp only [st_s] <;> omega) | assumption | omega | fail)) (show σ.2.1 13 n1 = 3 from by (first | omega | (simp only [st_s] <;> omega) | assumption | omega | fail)) (show n_J σ from by (first | omega | (simp only [st_s] <;> omega) | assumption | omega | fail)) (show m_J σ from by (first | omega | (simp only [st_s] <;> omega) | assumption | omega | fail)) (show n_Y σ from by (first | omega | (simp only [st_s] <;> omega) | assumption | omega | fail)), ?_⟩
  intro τ3 hn_τ3 hf_τ3 hq
  obtain ⟨hT, q1_1, q1_2⟩ := hq
  replace q1_1 : (τ3.1 38) = n1 + 1 := q1_1
  replace q1_2 : n_Y τ3 := q1_2
  have w5_τ3 : τ3.1 5 = σ.1 5 := hf_τ3.1 5 (by decide)
  have g13_τ3 : τ3.2.1 13 = σ.2.1 13 := hf_τ3.2.1 13 (by decide)
  have g19_τ3 : τ3.2.1 19 = σ.2.1 19 := hf_τ3.2.1 19 (by decide)
  have W5 : τ3.1 5 = σ.1 5 := by first | exact w5_τ3.trans W5 | omega
  have G13 : τ3.2.1 13 = σ.2.1 13 := (g13_τ3).trans G13
  have G19 : τ3.2.1 19 = σ.2.1 19 := (g19_τ3).trans G19
  have A13 : ∀ j, 0 ≤ τ3.2.1 13 j ∧ τ3.2.1 13 j ≤ 4 := fun j => hT.2 13 j
  have A19 : ∀ j, 0 ≤ τ3.2.1 19 j ∧ τ3.2.1 19 j ≤ 60 := fun j => hT.2 19 j
  have A56 : ∀ j, 0 ≤ τ3.2.1 56 j ∧ τ3.2.1 56 j ≤ 1499 := fun j => hT.2 56 j
  have A57 : ∀ j, 0 ≤ τ3.2.1 57 j ∧ τ3.2.1 57 j ≤ 120000 := fun j => hT.2 57 j
  have A58 : ∀ j, 0 ≤ τ3.2.1 58 j ∧ τ3.2.1 58 j ≤ 20000 := fun j => hT.2 58 j
  have v5 : 0 ≤ τ3.1 5 ∧ τ3.1 5 ≤ 1500 := hT.1 5
  have v36 : 0 ≤ τ3.1 36 ∧ τ3.1 36 ≤ 20000 := hT.1 36
  have v38 : 0 ≤ τ3.1 38 ∧ τ3.1 38 ≤ 1500 := hT.1 38
  exact l_7 ((20001 - 0 : Int).toNat + 1) _ _ (show (20001 - 0 : Int) < (((20001 - 0 : Int).toNat + 1 : Nat) : Int) from by ((first | omega | (simp only [st_s] <;> omega) | assumption | omega | fail))) hT (show τ3.1 5 = σ.1 5 from by first | exact W5 | omega) G13 G19 (show 0 ≤ 0 from by (first | omega | (simp only [st_s] <;> omega) | assumption | omega | fail)) (show 0 ≤ 20001 from by (first | omega | (simp only [st_s] <;> omega) | assumption | omega | fail)) (show (τ3.1 38) = n1 + 1 from by (first | omega | (simp only [st_s] <;> omega) | assumption | omega | fail)) (show n_Y τ3 from by (first | exact q1_2 | exact i20_6 | fail))
set_option maxHeartbeats 1000000 in
theorem K3_X13_size {n1 : Int} {σ : S0} (hT : m_T σ) (p1 : -2147483648 ≤ n1 ∧ n1 ≤ 2147483647) (p2 : n_J σ) (p3 : m_J σ) (p4 : n_Y σ) : W_X13_size n1 σ (fun (x : Int64) (τ : S0) => (m_T τ) ∧ (n_Y τ)) := by
  have A13 : ∀ j, 0 ≤ σ.2.1 13 j ∧ σ.2.1 13 j ≤ 4 := fun j => hT.2 13 j
  have v5 : 0 ≤ σ.1 5 ∧ σ.1 5 ≤ 1500 := hT.1 5
  have v36 : 0 ≤ σ.1 36 ∧ σ.1 36 ≤ 20000 := hT.1 36
  have v38 : 0 ≤ σ.1 38 ∧ σ.1 38 ≤ 1500 := hT.1 38
  have W5 : σ.1 5 = σ.1 5 := rfl
  have G13 : σ.2.1 13 = σ.2.1 13 := rfl
  unfold W_X13_size
  refine ⟨_, K_X13_isProved hT (show -2147483648 ≤ n1 ∧ n1 ≤ 2147483647 from by (first | omega | (simp only [st_s] <;> omega) | assumption | omega | fail)), ?_⟩
  intro x2 r_x2 hq
  obtain ⟨q1_1, q1_2⟩ := hq
  replace q1_1 : 0 ≤ x2 ∧ x2 ≤ 1 := q1_1
  replace q1_2 : ¬ x2 = 0 → 0 ≤ n1 ∧ n1 < (σ.1 5) ∧ σ.2.1 13 n1 = 3 := q1_2
  refine ⟨fun c4 => ?_, fun c4 => ?_⟩
  ·
    refine ⟨_, K3_X13_makeSizes hT (show 0 ≤ n1 from by (first | omega | (simp only [st_s] <;> omega) | assumption | omega | fail)) (show n1 < σ.1 5 from by (first | omega | (simp only [st_s] <;> omega) | assumption | omega | fail)) (show σ.2.1 13 n1 = 3 from by exact (q1_2 (by assumption)).2.2) (show n_J σ from by (first | omega | (simp only [st_s] <;> omega) | assumption | omega | fail)) (show m_J σ from by (first | omega | (simp only [st_s] <;> omega) | assumption | omega | fail)) (show n_Y σ from by (first | omega | (simp only [st_s] <;> omega) | assumption | omega | fail)), ?_⟩
    intro τ7 hn_τ7 hf_τ7 hq
    obtain ⟨hT, q5_1, q5_2⟩ := hq
    replace q5_1 : (τ7.1 38) = n1 + 1 := q5_1
    replace q5_2 : n_Y τ7 := q5_2
    have w5_τ7 : τ7.1 5 = σ.1 5 := hf_τ7.1 5 (by decide)
    have g13_τ7 : τ7.2.1 13 = σ.2.1 13 := hf_τ7.2.1 13 (by decide)
    have W5 : τ7.1 5 = σ.1 5 := by first | exact w5_τ7.trans W5 | omega
    have G13 : τ7.2.1 13 = σ.2.1 13 := (g13_τ7).trans G13
    have A13 : ∀ j, 0 ≤ τ7.2.1 13 j ∧ τ7.2.1 13 j ≤ 4 := fun j => hT.2 13 j
    have v5 : 0 ≤ τ7.1 5 ∧ τ7.1 5 ≤ 1500 := hT.1 5
    have v36 : 0 ≤ τ7.1 36 ∧ τ7.1 36 ≤ 20000 := hT.1 36
    have v38 : 0 ≤ τ7.1 38 ∧ τ7.1 38 ≤ 1500 := hT.1 38
    have yz := (n_Y_e (n := n1) q5_2 (by omega) (by omega)).1
    refine ⟨(show 0 ≤ (τ7.1 36 - 1) ∧ (τ7.1 36 - 1) < 20001 from by (first | omega | (simp only [st_s] <;> omega) | assumption | omega | fail)), ?_⟩
    intro x9 e_x9
    refine ⟨fun c10 => ?_, fun c10 => ?_⟩
    ·
      intro x11 e_x11
      exact ⟨hT, (show n_Y τ7 from by (first | exact q5_2 | exact p4 | fail))⟩
    ·
      exact ⟨hT, (show n_Y τ7 from by (first | exact q5_2 | exact p4 | fail))⟩
  ·
    exact ⟨hT, (show n_Y σ from by (first | exact q5_2 | exact p4 | fail))⟩
