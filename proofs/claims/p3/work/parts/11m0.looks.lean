-- pure: looks of the model
set_option maxHeartbeats 1000000 in
theorem K_X13_place {σ : S0} (hT : m_T σ) : W_X13_place σ (fun (x : Int) => True) := by
  have v21 : (-1) ≤ σ.1 21 ∧ σ.1 21 ≤ 60000 := hT.1 21
  unfold W_X13_place
  exact trivial
set_option maxHeartbeats 1000000 in
theorem K_X13_isStatement {n1 : Int} {σ : S0} (hT : m_T σ) (p1 : -2147483648 ≤ n1 ∧ n1 ≤ 2147483647) : W_X13_isStatement n1 σ (fun (x : Int) => (0 ≤ x ∧ x ≤ 1) ∧ (¬ x = 0 → 0 ≤ n1 ∧ n1 < (σ.1 5))) := by
  have v5 : 0 ≤ σ.1 5 ∧ σ.1 5 ≤ 1500 := hT.1 5
  unfold W_X13_isStatement
  refine ⟨(⟨by (first | omega | (simp only [st_s] <;> omega) | assumption | omega | fail), by (first | omega | (simp only [st_s] <;> omega) | assumption | omega | fail)⟩ : rg (σ.1 5 - 1)), ?_⟩
  refine ⟨_, K_X13_isIn hT, ?_⟩
  intro x3 r_x3 hq
  obtain ⟨q2_1, q2_2⟩ := hq
  replace q2_1 : 0 ≤ x3 ∧ x3 ≤ 1 := q2_1
  replace q2_2 : x3 = 1 ↔ ((0 : Int64) ≤ (j_of n1) ∧ (j_of n1) ≤ (j_of (σ.1 5 - 1))) := q2_2
  have in2 := in_i (show x3 = 1 ↔ (j_of 0 ≤ j_of n1 ∧ j_of n1 ≤ j_of (σ.1 5 - 1)) from q2_2) (by unfold rg; omega) (by unfold rg; omega) (by unfold rg; omega)
  refine ⟨(show 0 ≤ x3 ∧ x3 ≤ 1 from by (first | omega | (simp only [st_s] <;> omega) | assumption | omega | fail)), ?_⟩
  exact ⟨(show 0 ≤ x3 ∧ x3 ≤ 1 from by (first | omega | (simp only [st_s] <;> omega) | assumption | omega | fail)), (show ¬ x3 = 0 → 0 ≤ n1 ∧ n1 < (σ.1 5) from by (first | omega | (simp only [st_s] <;> omega) | assumption | omega | fail))⟩
set_option maxHeartbeats 1000000 in
theorem K_X13_isAssertion {n1 : Int} {σ : S0} (hT : m_T σ) (p1 : -2147483648 ≤ n1 ∧ n1 ≤ 2147483647) : W_X13_isAssertion n1 σ (fun (x : Int) => (0 ≤ x ∧ x ≤ 1) ∧ (¬ x = 0 → 0 ≤ n1 ∧ n1 < (σ.1 5) ∧ 2 ≤ σ.2.1 13 n1)) := by
  have v5 : 0 ≤ σ.1 5 ∧ σ.1 5 ≤ 1500 := hT.1 5
  unfold W_X13_isAssertion
  refine ⟨_, K_X13_isStatement hT (show -2147483648 ≤ n1 ∧ n1 ≤ 2147483647 from by (first | omega | (simp only [st_s] <;> omega) | assumption | omega | fail)), ?_⟩
  intro x2 r_x2 hq
  obtain ⟨q1_1, q1_2⟩ := hq
  replace q1_1 : 0 ≤ x2 ∧ x2 ≤ 1 := q1_1
  replace q1_2 : ¬ x2 = 0 → 0 ≤ n1 ∧ n1 < (σ.1 5) := q1_2
  refine ⟨fun c4 => ?_, fun c4 => ?_⟩
  ·
    exact ⟨(show 0 ≤ 0 ∧ 0 ≤ 1 from by (first | omega | (simp only [st_s] <;> omega) | assumption | omega | fail)), (show ¬ 0 = 0 → 0 ≤ n1 ∧ n1 < (σ.1 5) ∧ 2 ≤ σ.2.1 13 n1 from by (first | omega | (simp only [st_s] <;> omega) | assumption | omega | fail))⟩
  ·
    refine ⟨(show 0 ≤ n1 ∧ n1 < 1501 from by (first | omega | (simp only [st_s] <;> omega) | assumption | omega | fail)), ?_⟩
    intro x6 r_x6 e_x6
    have b_x6 : 0 ≤ x6 ∧ x6 ≤ 4 := by rw [e_x6]; exact hT.2 13 _
    refine ⟨fun c7 => ?_, fun c7 => ?_⟩
    ·
      exact ⟨(show 0 ≤ 0 ∧ 0 ≤ 1 from by (first | omega | (simp only [st_s] <;> omega) | assumption | omega | fail)), (show ¬ 0 = 0 → 0 ≤ n1 ∧ n1 < (σ.1 5) ∧ 2 ≤ σ.2.1 13 n1 from by (first | omega | (simp only [st_s] <;> omega) | assumption | omega | fail))⟩
    ·
      exact ⟨(show 0 ≤ 1 ∧ 1 ≤ 1 from by (first | omega | (simp only [st_s] <;> omega) | assumption | omega | fail)), (show ¬ 1 = 0 → 0 ≤ n1 ∧ n1 < (σ.1 5) ∧ 2 ≤ σ.2.1 13 n1 from by (first | omega | (simp only [st_s] <;> omega) | assumption | omega | fail))⟩
set_option maxHeartbeats 1000000 in
theorem K_X13_isProved {n1 : Int} {σ : S0} (hT : m_T σ) (p1 : -2147483648 ≤ n1 ∧ n1 ≤ 2147483647) : W_X13_isProved n1 σ (fun (x : Int) => (0 ≤ x ∧ x ≤ 1) ∧ (¬ x = 0 → 0 ≤ n1 ∧ n1 < (σ.1 5) ∧ σ.2.1 13 n1 = 3)) := by
  have v5 : 0 ≤ σ.1 5 ∧ σ.1 5 ≤ 1500 := hT.1 5
  unfold W_X13_isProved
  refine ⟨_, K_X13_isStatement hT (show -2147483648 ≤ n1 ∧ n1 ≤ 2147483647 from by (first | omega | (simp only [st_s] <;> omega) | assumption | omega | fail)), ?_⟩
  intro x2 r_x2 hq
  obtain ⟨q1_1, q1_2⟩ := hq
  replace q1_1 : 0 ≤ x2 ∧ x2 ≤ 1 := q1_1
  replace q1_2 : ¬ x2 = 0 → 0 ≤ n1 ∧ n1 < (σ.1 5) := q1_2
  refine ⟨fun c4 => ?_, fun c4 => ?_⟩
  ·
    exact ⟨(show 0 ≤ 0 ∧ 0 ≤ 1 from by (first | omega | (simp only [st_s] <;> omega) | assumption | omega | fail)), (show ¬ 0 = 0 → 0 ≤ n1 ∧ n1 < (σ.1 5) ∧ σ.2.1 13 n1 = 3 from by (first | omega | (simp only [st_s] <;> omega) | assumption | omega | fail))⟩
  ·
    refine ⟨(show 0 ≤ n1 ∧ n1 < 1501 from by (first | omega | (simp only [st_s] <;> omega) | assumption | omega | fail)), ?_⟩
    intro x6 r_x6 e_x6
    have b_x6 : 0 ≤ x6 ∧ x6 ≤ 4 := by rw [e_x6]; exact hT.2 13 _
    refine ⟨fun c7 => ?_, fun c7 => ?_⟩
    ·
      exact ⟨(show 0 ≤ 0 ∧ 0 ≤ 1 from by (first | omega | (simp only [st_s] <;> omega) | assumption | omega | fail)), (show ¬ 0 = 0 → 0 ≤ n1 ∧ n1 < (σ.1 5) ∧ σ.2.1 13 n1 = 3 from by (first | omega | (simp only [st_s] <;> omega) | assumption | omega | fail))⟩
    ·
      exact ⟨(show 0 ≤ 1 ∧ 1 ≤ 1 from by (first | omega | (simp only [st_s] <;> omega) | assumption | omega | fail)), (show ¬ 1 = 0 → 0 ≤ n1 ∧ n1 < (σ.1 5) ∧ σ.2.1 13 n1 = 3 from by (first | omega | (simp only [st_s] <;> omega) | assumption | omega | fail))⟩
set_option maxHeartbeats 1000000 in
theorem K_X13_kind {n1 : Int} {σ : S0} (hT : m_T σ) (p1 : -2147483648 ≤ n1 ∧ n1 ≤ 2147483647) : W_X13_kind n1 σ (fun (x : Int) => True) := by
  have v5 : 0 ≤ σ.1 5 ∧ σ.1 5 ≤ 1500 := hT.1 5
  unfold W_X13_kind
  refine ⟨_, K_X13_isStatement hT (show -2147483648 ≤ n1 ∧ n1 ≤ 2147483647 from by (first | omega | (simp only [st_s] <;> omega) | assumption | omega | fail)), ?_⟩
  intro x2 r_x2 hq
  obtain ⟨q1_1, q1_2⟩ := hq
  replace q1_1 : 0 ≤ x2 ∧ x2 ≤ 1 := q1_1
  replace q1_2 : ¬ x2 = 0 → 0 ≤ n1 ∧ n1 < (σ.1 5) := q1_2
  refine ⟨fun c4 => ?_, fun c4 => ?_⟩
  ·
    exact trivial
  ·
    refine ⟨(show 0 ≤ n1 ∧ n1 < 1501 from by (first | omega | (simp only [st_s] <;> omega) | assumption | omega | fail)), ?_⟩
    intro x6 r_x6 e_x6
    have b_x6 : 0 ≤ x6 ∧ x6 ≤ 4 := by rw [e_x6]; exact hT.2 13 _
    exact trivial
set_option maxHeartbeats 1000000 in
theorem K_X13_length {n1 : Int} {σ : S0} (hT : m_T σ) (p1 : -2147483648 ≤ n1 ∧ n1 ≤ 2147483647) : W_X13_length n1 σ (fun (x : Int) => True) := by
  have v5 : 0 ≤ σ.1 5 ∧ σ.1 5 ≤ 1500 := hT.1 5
  unfold W_X13_length
  refine ⟨_, K_X13_isStatement hT (show -2147483648 ≤ n1 ∧ n1 ≤ 2147483647 from by (first | omega | (simp only [st_s] <;> omega) | assumption | omega | fail)), ?_⟩
  intro x2 r_x2 hq
  obtain ⟨q1_1, q1_2⟩ := hq
  replace q1_1 : 0 ≤ x2 ∧ x2 ≤ 1 := q1_1
  replace q1_2 : ¬ x2 = 0 → 0 ≤ n1 ∧ n1 < (σ.1 5) := q1_2
  refine ⟨fun c4 => ?_, fun c4 => ?_⟩
  ·
    exact trivial
  ·
    refine ⟨(show 0 ≤ n1 ∧ n1 < 1501 from by (first | omega | (simp only [st_s] <;> omega) | assumption | omega | fail)), ?_⟩
    intro x6 r_x6 e_x6
    have b_x6 : 0 ≤ x6 ∧ x6 ≤ 300 := by rw [e_x6]; exact hT.2 15 _
    exact trivial
set_option maxHeartbeats 1000000 in
theorem K_X13_symbol {n1 : Int} {n2 : Int} {σ : S0} (hT : m_T σ) (p1 : -2147483648 ≤ n1 ∧ n1 ≤ 2147483647) (p2 : -2147483648 ≤ n2 ∧ n2 ≤ 2147483647) : W_X13_symbol n1 n2 σ (fun (x : Int) => True) := by
  have A14 : ∀ j, 0 ≤ σ.2.1 14 j ∧ σ.2.1 14 j ≤ 30000 := fun j => hT.2 14 j
  have A15 : ∀ j, 0 ≤ σ.2.1 15 j ∧ σ.2.1 15 j ≤ 300 := fun j => hT.2 15 j
  have v5 : 0 ≤ σ.1 5 ∧ σ.1 5 ≤ 1500 := hT.1 5
  unfold W_X13_symbol
  refine ⟨_, K_X13_isStatement hT (show -2147483648 ≤ n1 ∧ n1 ≤ 2147483647 from by (first | omega | (simp only [st_s] <;> omega) | assumption | omega | fail)), ?_⟩
  intro x2 r_x2 hq
  obtain ⟨q1_1, q1_2⟩ := hq
  replace q1_1 : 0 ≤ x2 ∧ x2 ≤ 1 := q1_1
  replace q1_2 : ¬ x2 = 0 → 0 ≤ n1 ∧ n1 < (σ.1 5) := q1_2
  refine ⟨fun c4 => ?_, fun c4 => ?_⟩
  ·
    exact trivial
  ·
    refine ⟨(show 0 ≤ n1 ∧ n1 < 1501 from by (first | omega | (simp only [st_s] <;> omega) | assumption | omega | fail)), ?_⟩
    intro x6 r_x6 e_x6
    have b_x6 : 0 ≤ x6 ∧ x6 ≤ 300 := by rw [e_x6]; exact hT.2 15 _
    refine ⟨(⟨by (first | omega | (simp only [st_s] <;> omega) | assumption | omega | fail), by (first | omega | (simp only [st_s] <;> omega) | assumption | omega | fail)⟩ : rg (x6 - 1)), ?_⟩
    refine ⟨_, K_X13_isIn hT, ?_⟩
    intro x9 r_x9 hq
    obtain ⟨q8_1, q8_2⟩ := hq
    replace q8_1 : 0 ≤ x9 ∧ x9 ≤ 1 := q8_1
    replace q8_2 : x9 = 1 ↔ ((0 : Int64) ≤ (j_of n2) ∧ (j_of n2) ≤ (j_of (x6 - 1))) := q8_2
    have in8 := in_i (show x9 = 1 ↔ (j_of 0 ≤ j_of n2 ∧ j_of n2 ≤ j_of (x6 - 1)) from q8_2) (by unfold rg; omega) (by unfold rg; omega) (by unfold rg; omega)
    refine ⟨fun c11 => ?_, fun c11 => ?_⟩
    ·
      exact trivial
    ·
      intro x12 r_x12 e_x12
      have b_x12 : 0 ≤ x12 ∧ x12 ≤ 30000 := by rw [e_x12]; exact hT.2 14 _
      refine ⟨(show 0 ≤ (x12 + n2) ∧ (x12 + n2) < 30400 from by (first | omega | (simp only [st_s] <;> omega) | assumption | omega | fail)), ?_⟩
      intro x14 r_x14 e_x14
      have b_x14 : 0 ≤ x14 ∧ x14 ≤ 999 := by rw [e_x14]; exact hT.2 16 _
      exact trivial
set_option maxHeartbeats 1000000 in
theorem K_X13_variable {n1 : Int} {σ : S0} (hT : m_T σ) (p1 : -2147483648 ≤ n1 ∧ n1 ≤ 2147483647) : W_X13_variable n1 σ (fun (x : Int) => True) := by
  have v3 : 0 ≤ σ.1 3 ∧ σ.1 3 ≤ 1000 := hT.1 3
  unfold W_X13_variable
  refine ⟨(⟨by (first | omega | (simp only [st_s] <;> omega) | assumption | omega | fail), by (first | omega | (simp only [st_s] <;> omega) | assumption | omega | fail)⟩ : rg (σ.1 3 - 1)), ?_⟩
  refine ⟨_, K_X13_isIn hT, ?_⟩
  intro x3 r_x3 hq
  obtain ⟨q2_1, q2_2⟩ := hq
  replace q2_1 : 0 ≤ x3 ∧ x3 ≤ 1 := q2_1
  replace q2_2 : x3 = 1 ↔ ((0 : Int64) ≤ (j_of n1) ∧ (j_of n1) ≤ (j_of (σ.1 3 - 1))) := q2_2
  have in2 := in_i (show x3 = 1 ↔ (j_of 0 ≤ j_of n1 ∧ j_of n1 ≤ j_of (σ.1 3 - 1)) from q2_2) (by unfold rg; omega) (by unfold rg; omega) (by unfold rg; omega)
  refine ⟨fun c5 => ?_, fun c5 => ?_⟩
  ·
    refine ⟨(show 0 ≤ n1 ∧ n1 < 1001 from by (first | omega | (simp only [st_s] <;> omega) | assumption | omega | fail)), ?_⟩
    intro x7 r_x7 e_x7
    have b_x7 : 0 ≤ x7 ∧ x7 ≤ 1 := by rw [e_x7]; exact hT.2 8 _
    refine ⟨fun c8 => ?_, fun c8 => ?_⟩
    ·
      exact trivial
    ·
      exact trivial
  ·
    exact trivial
set_option maxHeartbeats 1000000 in
theorem K_X13_rowFrom {n1 : Int} {σ : S0} (hT : m_T σ) (p1 : 0 ≤ n1) (p2 : n1 ≤ (σ.1 0)) : W_X13_rowFrom n1 σ (fun (x : Int) (τ : S0) => (m_T τ) ∧ (-1 ≤ x ∧ x ≤ 1) ∧ ((τ.1 16) ≤ (τ.1 0)) ∧ ((τ.1 17) + (τ.1 18) = (τ.1 16)) ∧ (n1 ≤ (τ.1 17)) ∧ (x = 1 → 0 < (τ.1 18))) := by
  have A0 : ∀ j, 0 ≤ σ.2.1 0 j ∧ σ.2.1 0 j ≤ 255 := fun j => hT.2 0 j
  have v0 : 0 ≤ σ.1 0 ∧ σ.1 0 ≤ 60000 := hT.1 0
  have v16 : 0 ≤ σ.1 16 ∧ σ.1 16 ≤ 60000 := hT.1 16
  have v17 : 0 ≤ σ.1 17 ∧ σ.1 17 ≤ 60000 := hT.1 17
  have v18 : 0 ≤ σ.1 18 ∧ σ.1 18 ≤ 60000 := hT.1 18
  have a0_16 : 0 ≤ σ.2.1 0 (σ.1 16) ∧ σ.2.1 0 (σ.1 16) ≤ 255 := hT.2 0 _
  have W0 : σ.1 0 = σ.1 0 := rfl
  have G0 : σ.2.1 0 = σ.2.1 0 := rfl
  intro P5 P44 P52 P91 h5 h44 h52 h91
  have l_52 : ∀ (m_52 : Nat) (τ_52 : S0), (τ_52.1 0) - (τ_52.1 16) < (m_52 : Int) → (m_T τ_52) → (τ_52.1 0 = σ.1 0) → (τ_52.2.1 0 = σ.2.1 0) → (n1 ≤ (τ_52.1 17)) → ((τ_52.1 17) ≤ (τ_52.1 16)) → ((τ_52.1 16) ≤ (τ_52.1 0)) → P52 τ_52 := by
    intro m_52
    induction m_52 with
    | zero =>
      intro τ_52 hm hT W0 G0 i52_1 i52_2 i52_3
      have A0 : ∀ j, 0 ≤ τ_52.2.1 0 j ∧ τ_52.2.1 0 j ≤ 255 := fun j => hT.2 0 j
      have v0 : 0 ≤ τ_52.1 0 ∧ τ_52.1 0 ≤ 60000 := hT.1 0
      have v16 : 0 ≤ τ_52.1 16 ∧ τ_52.1 16 ≤ 60000 := hT.1 16
      have v17 : 0 ≤ τ_52.1 17 ∧ τ_52.1 17 ≤ 60000 := hT.1 17
      have v18 : 0 ≤ τ_52.1 18 ∧ τ_52.1 18 ≤ 60000 := hT.1 18
      have a0_16 : 0 ≤ τ_52.2.1 0 (τ_52.1 16) ∧ τ_52.2.1 0 (τ_52.1 16) ≤ 255 := hT.2 0 _
      exfalso; (first | omega | (simp only [st_s] <;> omega) | assumption | omega | fail)
    | succ m_52 ih_52 =>
      intro τ_52 hm_52 hT W0 G0 i52_1 i52_2 i52_3
      have A0 : ∀ j, 0 ≤ τ_52.2.1 0 j ∧ τ_52.2.1 0 j ≤ 255 := fun j => hT.2 0 j
      have v0 : 0 ≤ τ_52.1 0 ∧ τ_52.1 0 ≤ 60000 := hT.1 0
      have v16 : 0 ≤ τ_52.1 16 ∧ τ_52.1 16 ≤ 60000 := hT.1 16
      have v17 : 0 ≤ τ_52.1 17 ∧ τ_52.1 17 ≤ 60000 := hT.1 17
      have v18 : 0 ≤ τ_52.1 18 ∧ τ_52.1 18 ≤ 60000 := hT.1 18
      have a0_16 : 0 ≤ τ_52.2.1 0 (τ_52.1 16) ∧ τ_52.2.1 0 (τ_52.1 16) ≤ 255 := hT.2 0 _
      refine h52 τ_52 ?_
      refine ⟨fun c9 => ?_, fun c9 => ?_⟩
      ·
        refine h91 _ ?_
        refine ⟨(⟨by (first | omega | (simp only [st_s] <;> omega) | assumption | omega | fail), by (first | omega | (simp only [st_s] <;> omega) | assumption | omega | fail)⟩ : rg (τ_52.1 16 - τ_52.1 17)), ?_⟩
        replace hT := mT_v (i := 18) hT (show 0 ≤ (τ_52.1 16 - τ_52.1 17) ∧ (τ_52.1 16 - τ_52.1 17) ≤ 60000 from by (first | omega | (simp only [st_s] <;> omega) | assumption | omega | fail))
        refine ⟨fun c18 => ?_, fun c18 => ?_⟩
        ·
          refine ⟨fun c19 => ?_, fun c19 => ?_⟩
          ·
            exact ⟨hT, (show -1 ≤ 0 ∧ 0 ≤ 1 from by (first | omega | (simp only [st_s] <;> omega) | assumption | omega | fail)), (show (τ_52.1 16) ≤ (τ_52.1 0) from by (first | omega | (simp only [st_s] <;> omega) | assumption | omega | fail)), (show (τ_52.1 17) + ((τ_52.1 16 - τ_52.1 17)) = (τ_52.1 16) from by (first | omega | (simp only [st_s] <;> omega) | assumption | omega | fail)), (show n1 ≤ (τ_52.1 17) from by (first | omega | (simp only [st_s] <;> omega) | assumption | omega | fail)), (show 0 = 1 → 0 < ((τ_52.1 16 - τ_52.1 17)) from by (first | omega | (simp only [st_s] <;> omega) | assumption | omega | fail))⟩
          ·
            exact ⟨hT, (show -1 ≤ (-1) ∧ (-1) ≤ 1 from by (first | omega | (simp only [st_s] <;> omega) | assumption | omega | fail)), (show (τ_52.1 16) ≤ (τ_52.1 0) from by (first | omega | (simp only [st_s] <;> omega) | assumption | omega | fail)), (show (τ_52.1 17) + ((τ_52.1 16 - τ_52.1 17)) = (τ_52.1 16) from by (first | omega | (simp only [st_s] <;> omega) | assumption | omega | fail)), (show n1 ≤ (τ_52.1 17) from by (first | omega | (simp only [st_s] <;> omega) | assumption | omega | fail)), (show (-1) = 1 → 0 < ((τ_52.1 16 - τ_52.1 17)) from by (first | omega | (simp only [st_s] <;> omega) | assumption | omega | fail))⟩
        ·
          exact ⟨hT, (show -1 ≤ 1 ∧ 1 ≤ 1 from by (first | omega | (simp only [st_s] <;> omega) | assumption | omega | fail)), (show (τ_52.1 16) ≤ (τ_52.1 0) from by (first | omega | (simp only [st_s] <;> omega) | assumption | omega | fail)), (show (τ_52.1 17) + ((τ_52.1 16 - τ_52.1 17)) = (τ_52.1 16) from by (first | omega | (simp only [st_s] <;> omega) | assumption | omega | fail)), (show n1 ≤ (τ_52.1 17) from by (first | omega | (simp only [st_s] <;> omega) | assumption | omega | fail)), (show 1 = 1 → 0 < ((τ_52.1 16 - τ_52.1 17)) from by (first | omega | (simp only [st_s] <;> omega) | assumption | omega | fail))⟩
      ·
        refine ⟨(show 0 ≤ τ_52.1 16 ∧ τ_52.1 16 < 60000 from by (first | omega | (simp only [st_s] <;> omega) | assumption | omega | fail)), ?_⟩
        intro x11 r_x11 e_x11
        have b_x11 : 0 ≤ x11 ∧ x11 ≤ 255 := by rw [e_x11]; exact hT.2 0 _
        refine ⟨_, K_X13_isSign hT, ?_⟩
        intro x13 r_x13 hq
        have q12_1 := hq
        replace q12_1 : 0 ≤ x13 ∧ x13 ≤ 1 := q12_1
        refine ⟨fun c15 => ?_, fun c15 => ?_⟩
        ·
          refine h91 _ ?_
          refine ⟨(⟨by (first | omega | (simp only [st_s] <;> omega) | assumption | omega | fail), by (first | omega | (simp only [st_s] <;> omega) | assumption | omega | fail)⟩ : rg (τ_52.1 16 - τ_52.1 17)), ?_⟩
          replace hT := mT_v (i := 18) hT (show 0 ≤ (τ_52.1 16 - τ_52.1 17) ∧ (τ_52.1 16 - τ_52.1 17) ≤ 60000 from by (first | omega | (simp only [st_s] <;> omega) | assumption | omega | fail))
          refine ⟨fun c18 => ?_, fun c18 => ?_⟩
          ·
            refine ⟨fun c19 => ?_, fun c19 => ?_⟩
            ·
              exact ⟨hT, (show -1 ≤ 0 ∧ 0 ≤ 1 from by (first | omega | (simp only [st_s] <;> omega) | assumption | omega | fail)), (show (τ_52.1 16) ≤ (τ_52.1 0) from by (first | omega | (simp only [st_s] <;> omega) | assumption | omega | fail)), (show (τ_52.1 17) + ((τ_52.1 16 - τ_52.1 17)) = (τ_52.1 16) from by (first | omega | (simp only [st_s] <;> omega) | assumption | omega | fail)), (show n1 ≤ (τ_52.1 17) from by (first | omega | (simp only [st_s] <;> omega) | assumption | omega | fail)), (show 0 = 1 → 0 < ((τ_52.1 16 - τ_52.1 17)) from by (first | omega | (simp only [st_s] <;> omega) | assumption | omega | fail))⟩
            ·
              exact ⟨hT, (show -1 ≤ (-1) ∧ (-1) ≤ 1 from by (first | omega | (simp only [st_s] <;> omega) | assumption | omega | fail)), (show (τ_52.1 16) ≤ (τ_52.1 0) from by (first | omega | (simp only [st_s] <;> omega) | assumption | omega | fail)), (show (τ_52.1 17) + ((τ_52.1 16 - τ_52.1 17)) = (τ_52.1 16) from by (first | omega | (simp only [st_s] <;> omega) | assumption | omega | fail)), (show n1 ≤ (τ_52.1 17) from by (first | omega | (simp only [st_s] <;> omega) | assumption | omega | fail)), (show (-1) = 1 → 0 < ((τ_52.1 16 - τ_52.1 17)) from by (first | omega | (simp only [st_s] <;> omega) | assumption | omega | fail))⟩
          ·
            exact ⟨hT, (show -1 ≤ 1 ∧ 1 ≤ 1 from by (first | omega | (simp only [st_s] <;> omega) | assumption | omega | fail)), (show (τ_52.1 16) ≤ (τ_52.1 0) from by (first | omega | (simp only [st_s] <;> omega) | assumption | omega | fail)), (show (τ_52.1 17) + ((τ_52.1 16 - τ_52.1 17)) = (τ_52.1 16) from by (first | omega | (simp only [st_s] <;> omega) | assumption | omega | fail)), (show n1 ≤ (τ_52.1 17) from by (first | omega | (simp only [st_s] <;> omega) | assumption | omega | fail)), (show 1 = 1 → 0 < ((τ_52.1 16 - τ_52.1 17)) from by (first | omega | (simp only [st_s] <;> omega) | assumption | omega | fail))⟩
        ·
          refine ⟨(⟨by (first | omega | (simp only [st_s] <;> omega) | assumption | omega | fail), by (first | omega | (simp only [st_s] <;> omega) | assumption | omega | fail)⟩ : rg (τ_52.1 16 + 1)), ?_⟩
          replace hT := mT_v (i := 16) hT (show 0 ≤ (τ_52.1 16 + 1) ∧ (τ_52.1 16 + 1) ≤ 60000 from by (first | omega | (simp only [st_s] <;> omega) | assumption | omega | fail))
          exact ih_52 _ (show ((τ_52.1 0) - ((τ_52.1 16 + 1)) : Int) < ((m_52 : Nat) : Int) from by ((first | omega | (simp only [st_s] <;> omega) | assumption | omega | fail))) hT (show τ_52.1 0 = σ.1 0 from by first | exact W0 | omega) G0 (show n1 ≤ (τ_52.1 17) from by (first | omega | (simp only [st_s] <;> omega) | assumption | omega | fail)) (show (τ_52.1 17) ≤ ((τ_52.1 16 + 1)) from by (first | omega | (simp only [st_s] <;> omega) | assumption | omega | fail)) (show ((τ_52.1 16 + 1)) ≤ (τ_52.1 0) from by (first | omega | (simp only [st_s] <;> omega) | assumption | omega | fail))
  have l_5 : ∀ (m_5 : Nat) (τ_5 : S0), (τ_5.1 0) - (τ_5.1 16) < (m_5 : Int) → (m_T τ_5) → (τ_5.1 0 = σ.1 0) → (τ_5.2.1 0 = σ.2.1 0) → (n1 ≤ (τ_5.1 16)) → ((τ_5.1 16) ≤ (τ_5.1 0)) → P5 τ_5 := by
    intro m_5
    induction m_5 with
    | zero =>
      intro τ_5 hm hT W0 G0 i5_1 i5_2
      have A0 : ∀ j, 0 ≤ τ_5.2.1 0 j ∧ τ_5.2.1 0 j ≤ 255 := fun j => hT.2 0 j
      have v0 : 0 ≤ τ_5.1 0 ∧ τ_5.1 0 ≤ 60000 := hT.1 0
      have v16 : 0 ≤ τ_5.1 16 ∧ τ_5.1 16 ≤ 60000 := hT.1 16
      have v17 : 0 ≤ τ_5.1 17 ∧ τ_5.1 17 ≤ 60000 := hT.1 17
      have v18 : 0 ≤ τ_5.1 18 ∧ τ_5.1 18 ≤ 60000 := hT.1 18
      have a0_16 : 0 ≤ τ_5.2.1 0 (τ_5.1 16) ∧ τ_5.2.1 0 (τ_5.1 16) ≤ 255 := hT.2 0 _
      exfalso; (first | omega | (simp only [st_s] <;> omega) | assumption | omega | fail)
    | succ m_5 ih_5 =>
      intro τ_5 hm_5 hT W0 G0 i5_1 i5_2
      have A0 : ∀ j, 0 ≤ τ_5.2.1 0 j ∧ τ_5.2.1 0 j ≤ 255 := fun j => hT.2 0 j
      have v0 : 0 ≤ τ_5.1 0 ∧ τ_5.1 0 ≤ 60000 := hT.1 0
      have v16 : 0 ≤ τ_5.1 16 ∧ τ_5.1 16 ≤ 60000 := hT.1 16
      have v17 : 0 ≤ τ_5.1 17 ∧ τ_5.1 17 ≤ 60000 := hT.1 17
      have v18 : 0 ≤ τ_5.1 18 ∧ τ_5.1 18 ≤ 60000 := hT.1 18
      have a0_16 : 0 ≤ τ_5.2.1 0 (τ_5.1 16) ∧ τ_5.2.1 0 (τ_5.1 16) ≤ 255 := hT.2 0 _
      refine h5 τ_5 ?_
      refine ⟨fun c1 => ?_, fun c1 => ?_⟩
      ·
        refine h44 _ ?_
        replace hT := mT_v (i := 17) hT (show 0 ≤ (τ_5.1 16) ∧ (τ_5.1 16) ≤ 60000 from by (first | omega | (simp only [st_s] <;> omega) | assumption | omega | fail))
        exact l_52 (((τ_5.1 0) - (τ_5.1 16) : Int).toNat + 1) _ (show ((τ_5.1 0) - (τ_5.1 16) : Int) < ((((τ_5.1 0) - (τ_5.1 16) : Int).toNat + 1 : Nat) : Int) from by ((first | omega | (simp only [st_s] <;> omega) | assumption | omega | fail))) hT (show τ_5.1 0 = σ.1 0 from by first | exact W0 | omega) G0 (show n1 ≤ ((τ_5.1 16)) from by (first | omega | (simp only [st_s] <;> omega) | assumption | omega | fail)) (show ((τ_5.1 16)) ≤ (τ_5.1 16) from by (first | omega | (simp only [st_s] <;> omega) | assumption | omega | fail)) (show (τ_5.1 16) ≤ (τ_5.1 0) from by (first | omega | (simp only [st_s] <;> omega) | assumption | omega | fail))
      ·
        refine ⟨(show 0 ≤ τ_5.1 16 ∧ τ_5.1 16 < 60000 from by (first | omega | (simp only [st_s] <;> omega) | assumption | omega | fail)), ?_⟩
        intro x3 r_x3 e_x3
        have b_x3 : 0 ≤ x3 ∧ x3 ≤ 255 := by rw [e_x3]; exact hT.2 0 _
        refine ⟨_, K_X13_isBlank hT, ?_⟩
        intro x5 r_x5 hq
        have q4_1 := hq
        replace q4_1 : 0 ≤ x5 ∧ x5 ≤ 1 := q4_1
        refine ⟨fun c7 => ?_, fun c7 => ?_⟩
        ·
          refine h44 _ ?_
          replace hT := mT_v (i := 17) hT (show 0 ≤ (τ_5.1 16) ∧ (τ_5.1 16) ≤ 60000 from by (first | omega | (simp only [st_s] <;> omega) | assumption | omega | fail))
          exact l_52 (((τ_5.1 0) - (τ_5.1 16) : Int).toNat + 1) _ (show ((τ_5.1 0) - (τ_5.1 16) : Int) < ((((τ_5.1 0) - (τ_5.1 16) : Int).toNat + 1 : Nat) : Int) from by ((first | omega | (simp only [st_s] <;> omega) | assumption | omega | fail))) hT (show τ_5.1 0 = σ.1 0 from by first | exact W0 | omega) G0 (show n1 ≤ ((τ_5.1 16)) from by (first | omega | (simp only [st_s] <;> omega) | assumption | omega | fail)) (show ((τ_5.1 16)) ≤ (τ_5.1 16) from by (first | omega | (simp only [st_s] <;> omega) | assumption | omega | fail)) (show (τ_5.1 16) ≤ (τ_5.1 0) from by (first | omega | (simp only [st_s] <;> omega) | assumption | omega | fail))
        ·
          refine ⟨(⟨by (first | omega | (simp only [st_s] <;> omega) | assumption | omega | fail), by (first | omega | (simp only [st_s] <;> omega) | assumption | omega | fail)⟩ : rg (τ_5.1 16 + 1)), ?_⟩
          replace hT := mT_v (i := 16) hT (show 0 ≤ (τ_5.1 16 + 1) ∧ (τ_5.1 16 + 1) ≤ 60000 from by (first | omega | (simp only [st_s] <;> omega) | assumption | omega | fail))
          exact ih_5 _ (show ((τ_5.1 0) - ((τ_5.1 16 + 1)) : Int) < ((m_5 : Nat) : Int) from by ((first | omega | (simp only [st_s] <;> omega) | assumption | omega | fail))) hT (show τ_5.1 0 = σ.1 0 from by first | exact W0 | omega) G0 (show n1 ≤ ((τ_5.1 16 + 1)) from by (first | omega | (simp only [st_s] <;> omega) | assumption | omega | fail)) (show ((τ_5.1 16 + 1)) ≤ (τ_5.1 0) from by (first | omega | (simp only [st_s] <;> omega) | assumption | omega | fail))
  replace hT := mT_v (i := 16) hT (show 0 ≤ n1 ∧ n1 ≤ 60000 from by (first | omega | (simp only [st_s] <;> omega) | assumption | omega | fail))
  exact l_5 (((σ.1 0) - (n1) : Int).toNat + 1) _ (show ((σ.1 0) - (n1) : Int) < ((((σ.1 0) - (n1) : Int).toNat + 1 : Nat) : Int) from by ((first | omega | (simp only [st_s] <;> omega) | assumption | omega | fail))) hT (show σ.1 0 = σ.1 0 from by first | exact W0 | omega) G0 (show n1 ≤ (n1) from by (first | omega | (simp only [st_s] <;> omega) | assumption | omega | fail)) (show (n1) ≤ (σ.1 0) from by (first | omega | (simp only [st_s] <;> omega) | assumption | omega | fail))
set_option maxHeartbeats 1000000 in
theorem K_X13_useTape {σ : S0} (hT : m_T σ) : W_X13_useTape σ (fun (τ : S0) => (m_T τ) ∧ ((τ.1 0) = 0) ∧ ((τ.1 1) = 0)) := by
  have v0 : 0 ≤ σ.1 0 ∧ σ.1 0 ≤ 60000 := hT.1 0
  have v1 : 0 ≤ σ.1 1 ∧ σ.1 1 ≤ 1 := hT.1 1
  unfold W_X13_useTape
  replace hT := mT_v (i := 0) hT (show (0 : Int) ≤ 0 ∧ 0 ≤ 60000 from by (first | omega | (simp only [st_s] <;> omega) | assumption | omega | fail))
  replace hT := mT_v (i := 1) hT (show (0 : Int) ≤ 0 ∧ 0 ≤ 1 from by (first | omega | (simp only [st_s] <;> omega) | assumption | omega | fail))
  exact ⟨hT, (show ((0 : Int)) = 0 from by (first | omega | (simp only [st_s] <;> omega) | assumption | omega | fail)), (show ((0 : Int)) = 0 from by (first | omega | (simp only [st_s] <;> omega) | assumption | omega | fail))⟩
set_option maxHeartbeats 1000000 in
theorem K_X13_resting {n1 : Int} {σ : S0} (hT : m_T σ) (p1 : 0 ≤ n1) (p2 : n1 < 1500) : W_X13_resting n1 σ (fun (x : Int) => True) := by
  have v5 : 0 ≤ σ.1 5 ∧ σ.1 5 ≤ 1500 := hT.1 5
  intro P4 h4
  have l_4 : ∀ (m_4 : Nat) (u2_4 : Int) (u3_4 : Int), 1501 - u3_4 < (m_4 : Int) → (0 ≤ u2_4 ∧ u2_4 ≤ u3_4) → (0 ≤ u3_4 ∧ u3_4 ≤ 1500) → P4 n1 u2_4 u3_4 := by
    intro m_4
    induction m_4 with
    | zero =>
      intro u2_4 u3_4 hm i4_1 i4_2
      exfalso; (first | omega | (simp only [st_s] <;> omega) | assumption | omega | fail)
    | succ m_4 ih_4 =>
      intro u2_4 u3_4 hm_4 i4_1 i4_2
      refine h4 n1 u2_4 u3_4 ?_
      refine ⟨fun c1 => ?_, fun c1 => ?_⟩
      ·
        exact trivial
      ·
        intro x2 r_x2 h1_x2 h2_x2
        refine ⟨(show 0 ≤ ((24 * n1) + x2) ∧ ((24 * n1) + x2) < 36024 from by (first | omega | (simp only [st_s] <;> omega) | assumption | omega | fail)), ?_⟩
        intro x4 e_x4
        intro x5 r_x5 h1_x5 h2_x5
        refine ⟨fun c6 => ?_, fun c6 => ?_⟩
        ·
          refine ⟨(⟨by (first | omega | (simp only [st_s] <;> omega) | assumption | omega | fail), by (first | omega | (simp only [st_s] <;> omega) | assumption | omega | fail)⟩ : rg (u2_4 + 0)), ?_⟩
          refine ⟨(⟨by (first | omega | (simp only [st_s] <;> omega) | assumption | omega | fail), by (first | omega | (simp only [st_s] <;> omega) | assumption | omega | fail)⟩ : rg (u3_4 + 1)), ?_⟩
          exact ih_4 _ _ (show (1501 - (u3_4 + 1) : Int) < ((m_4 : Nat) : Int) from by ((first | omega | (simp only [st_s] <;> omega) | assumption | omega | fail))) (show 0 ≤ (u2_4 + 0) ∧ (u2_4 + 0) ≤ (u3_4 + 1) from by (first | omega | (simp only [st_s] <;> omega) | assumption | omega | fail)) (show 0 ≤ (u3_4 + 1) ∧ (u3_4 + 1) ≤ 1500 from by (first | omega | (simp only [st_s] <;> omega) | assumption | omega | fail))
        ·
          refine ⟨(⟨by (first | omega | (simp only [st_s] <;> omega) | assumption | omega | fail), by (first | omega | (simp only [st_s] <;> omega) | assumption | omega | fail)⟩ : rg (u2_4 + 1)), ?_⟩
          refine ⟨(⟨by (first | omega | (simp only [st_s] <;> omega) | assumption | omega | fail), by (first | omega | (simp only [st_s] <;> omega) | assumption | omega | fail)⟩ : rg (u3_4 + 1)), ?_⟩
          exact ih_4 _ _ (show (1501 - (u3_4 + 1) : Int) < ((m_4 : Nat) : Int) from by ((first | omega | (simp only [st_s] <;> omega) | assumption | omega | fail))) (show 0 ≤ (u2_4 + 1) ∧ (u2_4 + 1) ≤ (u3_4 + 1) from by (first | omega | (simp only [st_s] <;> omega) | assumption | omega | fail)) (show 0 ≤ (u3_4 + 1) ∧ (u3_4 + 1) ≤ 1500 from by (first | omega | (simp only [st_s] <;> omega) | assumption | omega | fail))
  exact l_4 ((1501 - 0 : Int).toNat + 1) _ _ (show (1501 - 0 : Int) < (((1501 - 0 : Int).toNat + 1 : Nat) : Int) from by ((first | omega | (simp only [st_s] <;> omega) | assumption | omega | fail))) (show 0 ≤ 0 ∧ 0 ≤ 0 from by (first | omega | (simp only [st_s] <;> omega) | assumption | omega | fail)) (show 0 ≤ 0 ∧ 0 ≤ 1500 from by (first | omega | (simp only [st_s] <;> omega) | assumption | omega | fail))
set_option maxHeartbeats 1000000 in
theorem K_X13_frame {n1 : Int} {n2 : Int} {σ : S0} (hT : m_T σ) (p1 : -2147483648 ≤ n1 ∧ n1 ≤ 2147483647) : W_X13_frame n1 n2 σ (fun (x : Int) => True) := by
  have v5 : 0 ≤ σ.1 5 ∧ σ.1 5 ≤ 1500 := hT.1 5
  unfold W_X13_frame
  refine ⟨_, K_X13_isAssertion hT (show -2147483648 ≤ n1 ∧ n1 ≤ 2147483647 from by (first | omega | (simp only [st_s] <;> omega) | assumption | omega | fail)), ?_⟩
  intro x2 r_x2 hq
  obtain ⟨q1_1, q1_2⟩ := hq
  replace q1_1 : 0 ≤ x2 ∧ x2 ≤ 1 := q1_1
  replace q1_2 : ¬ x2 = 0 → 0 ≤ n1 ∧ n1 < (σ.1 5) ∧ 2 ≤ σ.2.1 13 n1 := q1_2
  refine ⟨fun c4 => ?_, fun c4 => ?_⟩
  ·
    exact trivial
  ·
    refine ⟨_, K_X13_isIn hT, ?_⟩
    intro x6 r_x6 hq
    obtain ⟨q5_1, q5_2⟩ := hq
    replace q5_1 : 0 ≤ x6 ∧ x6 ≤ 1 := q5_1
    replace q5_2 : x6 = 1 ↔ ((0 : Int64) ≤ (j_of n2) ∧ (j_of n2) ≤ (2 : Int64)) := q5_2
    refine ⟨fun c8 => ?_, fun c8 => ?_⟩
    ·
      refine ⟨fun c9 => ?_, fun c9 => ?_⟩
      ·
        refine ⟨fun c10 => ?_, fun c10 => ?_⟩
        ·
          refine ⟨(show 0 ≤ n1 ∧ n1 < 1501 from by (first | omega | (simp only [st_s] <;> omega) | assumption | omega | fail)), ?_⟩
          intro x12 r_x12 e_x12
          have b_x12 : 0 ≤ x12 ∧ x12 ≤ 4 := by rw [e_x12]; exact hT.2 13 _
          refine ⟨fun c13 => ?_, fun c13 => ?_⟩
          ·
            refine ⟨_, K_X13_resting hT (show 0 ≤ n1 from by (first | omega | (simp only [st_s] <;> omega) | assumption | omega | fail)) (show n1 < 1500 from by (first | omega | (simp only [st_s] <;> omega) | assumption | omega | fail)), ?_⟩
            intro x15 r_x15 hq
            exact trivial
          ·
            exact trivial
        ·
          refine ⟨(show 0 ≤ n1 ∧ n1 < 1501 from by (first | omega | (simp only [st_s] <;> omega) | assumption | omega | fail)), ?_⟩
          intro x18 r_x18 e_x18
          have b_x18 : 0 ≤ x18 ∧ x18 ≤ 20000 := by rw [e_x18]; exact hT.2 22 _
          exact trivial
      ·
        refine ⟨(show 0 ≤ n1 ∧ n1 < 1501 from by (first | omega | (simp only [st_s] <;> omega) | assumption | omega | fail)), ?_⟩
        intro x20 r_x20 e_x20
        have b_x20 : 0 ≤ x20 ∧ x20 ≤ 60 := by rw [e_x20]; exact hT.2 19 _
        exact trivial
    ·
      exact trivial
set_option maxHeartbeats 1000000 in
theorem K_X13_hypothesis {n1 : Int} {n2 : Int} {σ : S0} (hT : m_T σ) (p1 : -2147483648 ≤ n1 ∧ n1 ≤ 2147483647) (p2 : -2147483648 ≤ n2 ∧ n2 ≤ 2147483647) : W_X13_hypothesis n1 n2 σ (fun (x : Int) => True) := by
  have A18 : ∀ j, 0 ≤ σ.2.1 18 j ∧ σ.2.1 18 j ≤ 90000 := fun j => hT.2 18 j
  have A19 : ∀ j, 0 ≤ σ.2.1 19 j ∧ σ.2.1 19 j ≤ 60 := fun j => hT.2 19 j
  have v5 : 0 ≤ σ.1 5 ∧ σ.1 5 ≤ 1500 := hT.1 5
  unfold W_X13_hypothesis
  refine ⟨_, K_X13_isAssertion hT (show -2147483648 ≤ n1 ∧ n1 ≤ 2147483647 from by (first | omega | (simp only [st_s] <;> omega) | assumption | omega | fail)), ?_⟩
  intro x2 r_x2 hq
  obtain ⟨q1_1, q1_2⟩ := hq
  replace q1_1 : 0 ≤ x2 ∧ x2 ≤ 1 := q1_1
  replace q1_2 : ¬ x2 = 0 → 0 ≤ n1 ∧ n1 < (σ.1 5) ∧ 2 ≤ σ.2.1 13 n1 := q1_2
  refine ⟨fun c4 => ?_, fun c4 => ?_⟩
  ·
    exact trivial
  ·
    refine ⟨(show 0 ≤ n1 ∧ n1 < 1501 from by (first | omega | (simp only [st_s] <;> omega) | assumption | omega | fail)), ?_⟩
    intro x6 r_x6 e_x6
    have b_x6 : 0 ≤ x6 ∧ x6 ≤ 60 := by rw [e_x6]; exact hT.2 19 _
    refine ⟨(⟨by (first | omega | (simp only [st_s] <;> omega) | assumption | omega | fail), by (first | omega | (simp only [st_s] <;> omega) | assumption | omega | fail)⟩ : rg (x6 - 1)), ?_⟩
    refine ⟨_, K_X13_isIn hT, ?_⟩
    intro x9 r_x9 hq
    obtain ⟨q8_1, q8_2⟩ := hq
    replace q8_1 : 0 ≤ x9 ∧ x9 ≤ 1 := q8_1
    replace q8_2 : x9 = 1 ↔ ((0 : Int64) ≤ (j_of n2) ∧ (j_of n2) ≤ (j_of (x6 - 1))) := q8_2
    have in8 := in_i (show x9 = 1 ↔ (j_of 0 ≤ j_of n2 ∧ j_of n2 ≤ j_of (x6 - 1)) from q8_2) (by unfold rg; omega) (by unfold rg; omega) (by unfold rg; omega)
    refine ⟨fun c11 => ?_, fun c11 => ?_⟩
    ·
      exact trivial
    ·
      intro x12 r_x12 e_x12
      have b_x12 : 0 ≤ x12 ∧ x12 ≤ 90000 := by rw [e_x12]; exact hT.2 18 _
      refine ⟨(show 0 ≤ (x12 + n2) ∧ (x12 + n2) < 90100 from by (first | omega | (simp only [st_s] <;> omega) | assumption | omega | fail)), ?_⟩
      intro x14 r_x14 e_x14
      have b_x14 : 0 ≤ x14 ∧ x14 ≤ 1499 := by rw [e_x14]; exact hT.2 20 _
      exact trivial
set_option maxHeartbeats 1000000 in
theorem K_X13_rowWidth {n1 : Int} {σ : S0} (hT : m_T σ) (p1 : 0 ≤ n1) (p2 : n1 < 20001) : W_X13_rowWidth n1 σ (fun (x : Int) => (0 ≤ x ∧ x ≤ 60)) := by
  unfold W_X13_rowWidth
  refine ⟨(show 0 ≤ n1 ∧ n1 < 20001 from by (first | omega | (simp only [st_s] <;> omega) | assumption | omega | fail)), ?_⟩
  intro x2 r_x2 e_x2
  have b_x2 : 0 ≤ x2 ∧ x2 ≤ 1499 := by rw [e_x2]; exact hT.2 56 _
  refine ⟨(show 0 ≤ x2 ∧ x2 < 1501 from by (first | omega | (simp only [st_s] <;> omega) | assumption | omega | fail)), ?_⟩
  intro x4 r_x4 e_x4
  have b_x4 : 0 ≤ x4 ∧ x4 ≤ 4 := by rw [e_x4]; exact hT.2 13 _
  refine ⟨fun c5 => ?_, fun c5 => ?_⟩
  ·
    intro x6 r_x6 e_x6
    have b_x6 : 0 ≤ x6 ∧ x6 ≤ 60 := by rw [e_x6]; exact hT.2 19 _
    exact (show 0 ≤ x6 ∧ x6 ≤ 60 from by (first | omega | (simp only [st_s] <;> omega) | assumption | omega | fail))
  ·
    exact (show 0 ≤ 0 ∧ 0 ≤ 60 from by (first | omega | (simp only [st_s] <;> omega) | assumption | omega | fail))
set_option maxHeartbeats 1000000 in
theorem K_X13_put {n1 : Int} {σ : S0} (hT : m_T σ) (p1 : 0 ≤ n1) (p2 : n1 ≤ 255) : W_X13_put n1 σ (fun (τ : S0) => (m_T τ)) := by
  have v39 : 0 ≤ σ.1 39 ∧ σ.1 39 ≤ 24001 := hT.1 39
  unfold W_X13_put
  refine ⟨fun c1 => ?_, fun c1 => ?_⟩
  ·
    exact hT
  ·
    refine ⟨(show 0 ≤ σ.1 39 ∧ σ.1 39 < 24002 from by (first | omega | (simp only [st_s] <;> omega) | assumption | omega | fail)), ?_⟩
    replace hT := mT_a (k := 59) (j := (σ.1 39)) hT (show (0 : Int) ≤ n1 ∧ n1 ≤ 255 from by (first | omega | (simp only [st_s] <;> omega) | assumption | omega | fail))
    refine ⟨(⟨by (first | omega | (simp only [st_s] <;> omega) | assumption | omega | fail), by (first | omega | (simp only [st_s] <;> omega) | assumption | omega | fail)⟩ : rg (σ.1 39 + 1)), ?_⟩
    replace hT := mT_v (i := 39) hT (show 0 ≤ (σ.1 39 + 1) ∧ (σ.1 39 + 1) ≤ 24001 from by (first | omega | (simp only [st_s] <;> omega) | assumption | omega | fail))
    exact hT
set_option maxHeartbeats 1000000 in
theorem K_X13_putBlank {σ : S0} (hT : m_T σ) : W_X13_putBlank σ (fun (τ : S0) => (m_T τ)) := by
  have v39 : 0 ≤ σ.1 39 ∧ σ.1 39 ≤ 24001 := hT.1 39
  unfold W_X13_putBlank
  refine ⟨fun c1 => ?_, fun c1 => ?_⟩
  ·
    exact hT
  ·
    refine ⟨_, K_X13_put hT (show 0 ≤ (32 : Int) from by (first | omega | (simp only [st_s] <;> omega) | assumption | omega | fail)) (show (32 : Int) ≤ 255 from by (first | omega | (simp only [st_s] <;> omega) | assumption | omega | fail)), ?_⟩
    intro τ4 hn_τ4 hf_τ4 hq
    replace hT := hq
    have v39 : 0 ≤ τ4.1 39 ∧ τ4.1 39 ≤ 24001 := hT.1 39
    exact hT
set_option maxHeartbeats 1000000 in
theorem K_X13_putName {n1 : Int} {n2 : Int} {σ : S0} (hT : m_T σ) (p1 : 0 ≤ n1) (p2 : n1 ≤ 30000) (p3 : 0 ≤ n2) (p4 : n2 ≤ 60) : W_X13_putName n1 n2 σ (fun (τ : S0) => (m_T τ)) := by
  intro P2 h2
  have l_2 : ∀ (m_2 : Nat) (u3_2 : Int) (τ_2 : S0), 61 - u3_2 < (m_2 : Int) → (m_T τ_2) → (0 ≤ u3_2) → (u3_2 ≤ 60) → P2 n1 n2 u3_2 τ_2 := by
    intro m_2
    induction m_2 with
    | zero =>
      intro u3_2 τ_2 hm hT i2_1 i2_2
      exfalso; (first | omega | (simp only [st_s] <;> omega) | assumption | omega | fail)
    | succ m_2 ih_2 =>
      intro u3_2 τ_2 hm_2 hT i2_1 i2_2
      refine h2 n1 n2 u3_2 τ_2 ?_
      refine ⟨fun c1 => ?_, fun c1 => ?_⟩
      ·
        exact hT
      ·
        refine ⟨(show 0 ≤ (n1 + u3_2) ∧ (n1 + u3_2) < 30100 from by (first | omega | (simp only [st_s] <;> omega) | assumption | omega | fail)), ?_⟩
        intro x3 r_x3 e_x3
        have b_x3 : 0 ≤ x3 ∧ x3 ≤ 255 := by rw [e_x3]; exact hT.2 1 _
        refine ⟨_, K_X13_put hT (show 0 ≤ x3 from by (first | omega | (simp only [st_s] <;> omega) | assumption | omega | fail)) (show x3 ≤ 255 from by (first | omega | (simp only [st_s] <;> omega) | assumption | omega | fail)), ?_⟩
        intro τ6 hn_τ6 hf_τ6 hq
        replace hT := hq
        refine ⟨(⟨by (first | omega | (simp only [st_s] <;> omega) | assumption | omega | fail), by (first | omega | (simp only [st_s] <;> omega) | assumption | omega | fail)⟩ : rg (u3_2 + 1)), ?_⟩
        exact ih_2 _ _ (show (61 - (u3_2 + 1) : Int) < ((m_2 : Nat) : Int) from by ((first | omega | (simp only [st_s] <;> omega) | assumption | omega | fail))) hT (show 0 ≤ (u3_2 + 1) from by (first | omega | (simp only [st_s] <;> omega) | assumption | omega | fail)) (show (u3_2 + 1) ≤ 60 from by (first | omega | (simp only [st_s] <;> omega) | assumption | omega | fail))
  exact l_2 ((61 - 0 : Int).toNat + 1) _ _ (show (61 - 0 : Int) < (((61 - 0 : Int).toNat + 1 : Nat) : Int) from by ((first | omega | (simp only [st_s] <;> omega) | assumption | omega | fail))) hT (show 0 ≤ 0 from by (first | omega | (simp only [st_s] <;> omega) | assumption | omega | fail)) (show 0 ≤ 60 from by (first | omega | (simp only [st_s] <;> omega) | assumption | omega | fail))
set_option maxHeartbeats 1000000 in
theorem K_X13_putSymbol {n1 : Int} {σ : S0} (hT : m_T σ) (p1 : 0 ≤ n1) (p2 : n1 < 1000) : W_X13_putSymbol n1 σ (fun (τ : S0) => (m_T τ)) := by
  unfold W_X13_putSymbol
  refine ⟨_, K_X13_putBlank hT, ?_⟩
  intro τ3 hn_τ3 hf_τ3 hq
  replace hT := hq
  refine ⟨(show 0 ≤ n1 ∧ n1 < 1001 from by (first | omega | (simp only [st_s] <;> omega) | assumption | omega | fail)), ?_⟩
  intro x5 r_x5 e_x5
  have b_x5 : 0 ≤ x5 ∧ x5 ≤ 30000 := by rw [e_x5]; exact hT.2 2 _
  intro x6 r_x6 e_x6
  have b_x6 : 0 ≤ x6 ∧ x6 ≤ 60 := by rw [e_x6]; exact hT.2 3 _
  refine ⟨_, K_X13_putName hT (show 0 ≤ x5 from by (first | omega | (simp only [st_s] <;> omega) | assumption | omega | fail)) (show x5 ≤ 30000 from by (first | omega | (simp only [st_s] <;> omega) | assumption | omega | fail)) (show 0 ≤ x6 from by (first | omega | (simp only [st_s] <;> omega) | assumption | omega | fail)) (show x6 ≤ 60 from by (first | omega | (simp only [st_s] <;> omega) | assumption | omega | fail)), ?_⟩
  intro τ9 hn_τ9 hf_τ9 hq
  replace hT := hq
  exact hT
set_option maxHeartbeats 1000000 in
theorem K_X13_putLabel {n1 : Int} {σ : S0} (hT : m_T σ) (p1 : 0 ≤ n1) (p2 : n1 < 1500) : W_X13_putLabel n1 σ (fun (τ : S0) => (m_T τ)) := by
  unfold W_X13_putLabel
  refine ⟨_, K_X13_putBlank hT, ?_⟩
  intro τ3 hn_τ3 hf_τ3 hq
  replace hT := hq
  refine ⟨(show 0 ≤ n1 ∧ n1 < 1501 from by (first | omega | (simp only [st_s] <;> omega) | assumption | omega | fail)), ?_⟩
  intro x5 r_x5 e_x5
  have b_x5 : 0 ≤ x5 ∧ x5 ≤ 30000 := by rw [e_x5]; exact hT.2 4 _
  intro x6 r_x6 e_x6
  have b_x6 : 0 ≤ x6 ∧ x6 ≤ 60 := by rw [e_x6]; exact hT.2 5 _
  refine ⟨_, K_X13_putName hT (show 0 ≤ x5 from by (first | omega | (simp only [st_s] <;> omega) | assumption | omega | fail)) (show x5 ≤ 30000 from by (first | omega | (simp only [st_s] <;> omega) | assumption | omega | fail)) (show 0 ≤ x6 from by (first | omega | (simp only [st_s] <;> omega) | assumption | omega | fail)) (show x6 ≤ 60 from by (first | omega | (simp only [st_s] <;> omega) | assumption | omega | fail)), ?_⟩
  intro τ9 hn_τ9 hf_τ9 hq
  replace hT := hq
  exact hT
set_option maxHeartbeats 1000000 in
theorem K_X13_keepDraft {σ : S0} (hT : m_T σ) : W_X13_keepDraft σ (fun (x : Int) (τ : S0) => (m_T τ)) := by
  have v39 : 0 ≤ σ.1 39 ∧ σ.1 39 ≤ 24001 := hT.1 39
  have W39 : σ.1 39 = σ.1 39 := rfl
  intro P15 h15
  have l_15 : ∀ (m_15 : Nat) (u1_15 : Int) (τ_15 : S0), 24001 - u1_15 < (m_15 : Int) → (m_T τ_15) → (τ_15.1 39 = σ.1 39) → (0 ≤ u1_15) → (u1_15 ≤ 24000) → ((τ_15.1 39) ≤ 24000) → P15 u1_15 τ_15 := by
    intro m_15
    induction m_15 with
    | zero =>
      intro u1_15 τ_15 hm hT W39 i15_1 i15_2 i15_3
      have v39 : 0 ≤ τ_15.1 39 ∧ τ_15.1 39 ≤ 24001 := hT.1 39
      exfalso; (first | omega | (simp only [st_s] <;> omega) | assumption | omega | fail)
    | succ m_15 ih_15 =>
      intro u1_15 τ_15 hm_15 hT W39 i15_1 i15_2 i15_3
      have v39 : 0 ≤ τ_15.1 39 ∧ τ_15.1 39 ≤ 24001 := hT.1 39
      refine h15 u1_15 τ_15 ?_
      refine ⟨fun c2 => ?_, fun c2 => ?_⟩
      ·
        replace hT := mT_v (i := 40) hT (show 0 ≤ (τ_15.1 39) ∧ (τ_15.1 39) ≤ 24000 from by (first | omega | (simp only [st_s] <;> omega) | assumption | omega | fail))
        exact hT
      ·
        refine ⟨(show 0 ≤ u1_15 ∧ u1_15 < 24002 from by (first | omega | (simp only [st_s] <;> omega) | assumption | omega | fail)), ?_⟩
        intro x4 r_x4 e_x4
        have b_x4 : 0 ≤ x4 ∧ x4 ≤ 255 := by rw [e_x4]; exact hT.2 59 _
        refine ⟨(show 0 ≤ u1_15 ∧ u1_15 < 24000 from by (first | omega | (simp only [st_s] <;> omega) | assumption | omega | fail)), ?_⟩
        replace hT := mT_a (k := 60) (j := u1_15) hT (show (0 : Int) ≤ x4 ∧ x4 ≤ 255 from by (first | omega | (simp only [st_s] <;> omega) | assumption | omega | fail))
        refine ⟨(⟨by (first | omega | (simp only [st_s] <;> omega) | assumption | omega | fail), by (first | omega | (simp only [st_s] <;> omega) | assumption | omega | fail)⟩ : rg (u1_15 + 1)), ?_⟩
        exact ih_15 _ _ (show (24001 - (u1_15 + 1) : Int) < ((m_15 : Nat) : Int) from by ((first | omega | (simp only [st_s] <;> omega) | assumption | omega | fail))) hT (show τ_15.1 39 = σ.1 39 from by first | exact W39 | omega) (show 0 ≤ (u1_15 + 1) from by (first | omega | (simp only [st_s] <;> omega) | assumption | omega | fail)) (show (u1_15 + 1) ≤ 24000 from by (first | omega | (simp only [st_s] <;> omega) | assumption | omega | fail)) (show (τ_15.1 39) ≤ 24000 from by (first | omega | (simp only [st_s] <;> omega) | assumption | omega | fail))
  refine ⟨fun c1 => ?_, fun c1 => ?_⟩
  ·
    exact l_15 ((24001 - 0 : Int).toNat + 1) _ _ (show (24001 - 0 : Int) < (((24001 - 0 : Int).toNat + 1 : Nat) : Int) from by ((first | omega | (simp only [st_s] <;> omega) | assumption | omega | fail))) hT (show σ.1 39 = σ.1 39 from by first | exact W39 | omega) (show 0 ≤ 0 from by (first | omega | (simp only [st_s] <;> omega) | assumption | omega | fail)) (show 0 ≤ 24000 from by (first | omega | (simp only [st_s] <;> omega) | assumption | omega | fail)) (show (σ.1 39) ≤ 24000 from by (first | omega | (simp only [st_s] <;> omega) | assumption | omega | fail))
  ·
    exact hT
set_option maxHeartbeats 1000000 in
theorem K_X13_character {n1 : Int} {σ : S0} (hT : m_T σ) (p1 : -2147483648 ≤ n1 ∧ n1 ≤ 2147483647) : W_X13_character n1 σ (fun (x : Int) => True) := by
  have v40 : 0 ≤ σ.1 40 ∧ σ.1 40 ≤ 24000 := hT.1 40
  unfold W_X13_character
  refine ⟨(⟨by (first | omega | (simp only [st_s] <;> omega) | assumption | omega | fail), by (first | omega | (simp only [st_s] <;> omega) | assumption | omega | fail)⟩ : rg (σ.1 40 - 1)), ?_⟩
  refine ⟨_, K_X13_isIn hT, ?_⟩
  intro x3 r_x3 hq
  obtain ⟨q2_1, q2_2⟩ := hq
  replace q2_1 : 0 ≤ x3 ∧ x3 ≤ 1 := q2_1
  replace q2_2 : x3 = 1 ↔ ((0 : Int64) ≤ (j_of n1) ∧ (j_of n1) ≤ (j_of (σ.1 40 - 1))) := q2_2
  have in2 := in_i (show x3 = 1 ↔ (j_of 0 ≤ j_of n1 ∧ j_of n1 ≤ j_of (σ.1 40 - 1)) from q2_2) (by unfold rg; omega) (by unfold rg; omega) (by unfold rg; omega)
  refine ⟨fun c5 => ?_, fun c5 => ?_⟩
  ·
    exact trivial
  ·
    refine ⟨(show 0 ≤ n1 ∧ n1 < 24000 from by (first | omega | (simp only [st_s] <;> omega) | assumption | omega | fail)), ?_⟩
    intro x7 r_x7 e_x7
    have b_x7 : 0 ≤ x7 ∧ x7 ≤ 255 := by rw [e_x7]; exact hT.2 60 _
    exact trivial
set_option maxHeartbeats 1000000 in
theorem K_X13_beginTrees {σ : S0} (hT : m_T σ) : W_X13_beginTrees σ (fun (τ : S0) => (m_T τ) ∧ ((τ.1 51) = 0) ∧ ((τ.1 52) = 0)) := by
  have v51 : 0 ≤ σ.1 51 ∧ σ.1 51 ≤ 60000 := hT.1 51
  have v52 : 0 ≤ σ.1 52 ∧ σ.1 52 ≤ 120000 := hT.1 52
  unfold W_X13_beginTrees
  replace hT := mT_v (i := 51) hT (show (0 : Int) ≤ 0 ∧ 0 ≤ 60000 from by (first | omega | (simp only [st_s] <;> omega) | assumption | omega | fail))
  replace hT := mT_v (i := 52) hT (show (0 : Int) ≤ 0 ∧ 0 ≤ 120000 from by (first | omega | (simp only [st_s] <;> omega) | assumption | omega | fail))
  exact ⟨hT, (show ((0 : Int)) = 0 from by (first | omega | (simp only [st_s] <;> omega) | assumption | omega | fail)), (show ((0 : Int)) = 0 from by (first | omega | (simp only [st_s] <;> omega) | assumption | omega | fail))⟩
set_option maxHeartbeats 1000000 in
theorem K_X13_check {σ : S0} (hT : m_T σ) : W_X13_check σ (fun (x : Int) => True) := by
  unfold W_X13_check
  exact trivial
