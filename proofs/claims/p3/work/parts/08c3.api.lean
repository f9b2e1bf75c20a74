-- pure: looks of the class
set_option maxHeartbeats 1000000 in
theorem K_X12_symbol {n1 : Int} {n2 : Int} {σ : S0} (hT : c_T σ) : W_X12_symbol n1 n2 σ (fun (x : Int) => True) := by
  have A14 : ∀ j, 0 ≤ σ.2.1 14 j ∧ σ.2.1 14 j ≤ 30000 := fun j => hT.2 14 j
  have v7 : 0 ≤ σ.1 7 ∧ σ.1 7 ≤ 1500 := hT.1 7
  unfold W_X12_symbol
  refine ⟨_, K_X3_isStatement hT, ?_⟩
  intro x2 r_x2 hq
  obtain ⟨q1_1, q1_2⟩ := hq
  replace q1_1 : 0 ≤ x2 ∧ x2 ≤ 1 := q1_1
  replace q1_2 : ¬ x2 = 0 → 0 ≤ n1 ∧ n1 < (σ.1 7) := q1_2
  refine ⟨fun c4 => ?_, fun c4 => ?_⟩
  ·
    exact trivial
  ·
    refine ⟨fun c5 => ?_, fun c5 => ?_⟩
    ·
      exact trivial
    ·
      refine ⟨_, K_X3_lengthOf hT (show 0 ≤ n1 from by omega) (show n1 < 1500 from by omega), ?_⟩
      intro x7 r_x7 hq
      have q6_1 := hq
      replace q6_1 : x7 = σ.2.1 14 (n1 + 1) - σ.2.1 14 n1 := q6_1
      refine ⟨fun c9 => ?_, fun c9 => ?_⟩
      ·
        refine ⟨(show 0 ≤ n1 ∧ n1 < 1501 from by omega), ?_⟩
        intro x11 r_x11 e_x11
        have b_x11 : 0 ≤ x11 ∧ x11 ≤ 30000 := by rw [e_x11]; exact hT.2 14 _
        have aa := A14 (n1 + 1)
        refine ⟨(show 0 ≤ (x11 + n2) ∧ (x11 + n2) < 30000 from by omega), ?_⟩
        intro x13 r_x13 e_x13
        have b_x13 : 0 ≤ x13 ∧ x13 ≤ 999 := by rw [e_x13]; exact hT.2 15 _
        exact trivial
      ·
        exact trivial
set_option maxHeartbeats 1000000 in
theorem K_X12_frame {n1 : Int} {n2 : Int} {σ : S0} (hT : c_T σ) : W_X12_frame n1 n2 σ (fun (x : Int) => True) := by
  have v7 : 0 ≤ σ.1 7 ∧ σ.1 7 ≤ 1500 := hT.1 7
  unfold W_X12_frame
  refine ⟨_, K_X3_isAssertion hT, ?_⟩
  intro x2 r_x2 hq
  obtain ⟨q1_1, q1_2⟩ := hq
  replace q1_1 : 0 ≤ x2 ∧ x2 ≤ 1 := q1_1
  replace q1_2 : ¬ x2 = 0 → 0 ≤ n1 ∧ n1 < (σ.1 7) ∧ 2 ≤ σ.2.1 13 n1 := q1_2
  refine ⟨fun c4 => ?_, fun c4 => ?_⟩
  ·
    refine ⟨fun c5 => ?_, fun c5 => ?_, fun c5 => ?_, fun c5 => ?_⟩
    ·
      exact trivial
    ·
      refine ⟨(show 0 ≤ n1 ∧ n1 < 1500 from by omega), ?_⟩
      intro x7 r_x7 e_x7
      have b_x7 : 0 ≤ x7 ∧ x7 ≤ 60 := by rw [e_x7]; exact hT.2 28 _
      exact trivial
    ·
      refine ⟨(show 0 ≤ n1 ∧ n1 < 1500 from by omega), ?_⟩
      intro x9 r_x9 e_x9
      have b_x9 : 0 ≤ x9 ∧ x9 ≤ 20000 := by rw [e_x9]; exact hT.2 31 _
      exact trivial
    ·
      refine ⟨(show 0 ≤ n1 ∧ n1 < 1500 from by omega), ?_⟩
      intro x11 r_x11 e_x11
      have b_x11 : 0 ≤ x11 ∧ x11 ≤ 4 := by rw [e_x11]; exact hT.2 13 _
      refine ⟨fun c12 => ?_, fun c12 => ?_⟩
      ·
        refine ⟨_, K_X0_restCount hT (show 0 ≤ n1 from by omega) (show n1 < 1500 from by omega), ?_⟩
        intro x14 r_x14 hq
        exact trivial
      ·
        exact trivial
  ·
    exact trivial
set_option maxHeartbeats 1000000 in
theorem K_X12_hypothesis {n1 : Int} {n2 : Int} {σ : S0} (hT : c_T σ) (p1 : J_fr (σ.1 7) (σ.2.1 13) (σ.2.1 27) (σ.2.1 28) (σ.2.1 30) (σ.2.1 31)) : W_X12_hypothesis n1 n2 σ (fun (x : Int) => True) := by
  have A13 : ∀ j, 0 ≤ σ.2.1 13 j ∧ σ.2.1 13 j ≤ 4 := fun j => hT.2 13 j
  have A27 : ∀ j, 0 ≤ σ.2.1 27 j ∧ σ.2.1 27 j ≤ 90000 := fun j => hT.2 27 j
  have A28 : ∀ j, 0 ≤ σ.2.1 28 j ∧ σ.2.1 28 j ≤ 60 := fun j => hT.2 28 j
  have A30 : ∀ j, 0 ≤ σ.2.1 30 j ∧ σ.2.1 30 j ≤ 20000 := fun j => hT.2 30 j
  have A31 : ∀ j, 0 ≤ σ.2.1 31 j ∧ σ.2.1 31 j ≤ 20000 := fun j => hT.2 31 j
  have v7 : 0 ≤ σ.1 7 ∧ σ.1 7 ≤ 1500 := hT.1 7
  have F1 : J_fr (σ.1 7) (σ.2.1 13) (σ.2.1 27) (σ.2.1 28) (σ.2.1 30) (σ.2.1 31) := p1
  unfold W_X12_hypothesis
  refine ⟨_, K_X3_isAssertion hT, ?_⟩
  intro x2 r_x2 hq
  obtain ⟨q1_1, q1_2⟩ := hq
  replace q1_1 : 0 ≤ x2 ∧ x2 ≤ 1 := q1_1
  replace q1_2 : ¬ x2 = 0 → 0 ≤ n1 ∧ n1 < (σ.1 7) ∧ 2 ≤ σ.2.1 13 n1 := q1_2
  refine ⟨fun c4 => ?_, fun c4 => ?_⟩
  ·
    exact trivial
  ·
    refine ⟨fun c5 => ?_, fun c5 => ?_⟩
    ·
      exact trivial
    ·
      refine ⟨(show 0 ≤ n1 ∧ n1 < 1500 from by omega), ?_⟩
      intro x7 r_x7 e_x7
      have b_x7 : 0 ≤ x7 ∧ x7 ≤ 60 := by rw [e_x7]; exact hT.2 28 _
      refine ⟨fun c8 => ?_, fun c8 => ?_⟩
      ·
        have ff := F1 n1 (by omega) (by omega) (by omega)
        intro x9 r_x9 e_x9
        have b_x9 : 0 ≤ x9 ∧ x9 ≤ 90000 := by rw [e_x9]; exact hT.2 27 _
        refine ⟨(show 0 ≤ (x9 + n2) ∧ (x9 + n2) < 90000 from by omega), ?_⟩
        intro x11 r_x11 e_x11
        have b_x11 : 0 ≤ x11 ∧ x11 ≤ 1499 := by rw [e_x11]; exact hT.2 29 _
        exact trivial
      ·
        have ff := F1 n1 (by omega) (by omega) (by omega)
        exact trivial
set_option maxHeartbeats 1000000 in
theorem K_X12_apart {n1 : Int} {n2 : Int} {n3 : Int} {σ : S0} (hT : c_T σ) (p1 : J_fr (σ.1 7) (σ.2.1 13) (σ.2.1 27) (σ.2.1 28) (σ.2.1 30) (σ.2.1 31)) : W_X12_apart n1 n2 n3 σ (fun (x : Int) => True) := by
  have A13 : ∀ j, 0 ≤ σ.2.1 13 j ∧ σ.2.1 13 j ≤ 4 := fun j => hT.2 13 j
  have A27 : ∀ j, 0 ≤ σ.2.1 27 j ∧ σ.2.1 27 j ≤ 90000 := fun j => hT.2 27 j
  have A28 : ∀ j, 0 ≤ σ.2.1 28 j ∧ σ.2.1 28 j ≤ 60 := fun j => hT.2 28 j
  have A30 : ∀ j, 0 ≤ σ.2.1 30 j ∧ σ.2.1 30 j ≤ 20000 := fun j => hT.2 30 j
  have A31 : ∀ j, 0 ≤ σ.2.1 31 j ∧ σ.2.1 31 j ≤ 20000 := fun j => hT.2 31 j
  have v7 : 0 ≤ σ.1 7 ∧ σ.1 7 ≤ 1500 := hT.1 7
  have F1 : J_fr (σ.1 7) (σ.2.1 13) (σ.2.1 27) (σ.2.1 28) (σ.2.1 30) (σ.2.1 31) := p1
  unfold W_X12_apart
  refine ⟨_, K_X3_isAssertion hT, ?_⟩
  intro x2 r_x2 hq
  obtain ⟨q1_1, q1_2⟩ := hq
  replace q1_1 : 0 ≤ x2 ∧ x2 ≤ 1 := q1_1
  replace q1_2 : ¬ x2 = 0 → 0 ≤ n1 ∧ n1 < (σ.1 7) ∧ 2 ≤ σ.2.1 13 n1 := q1_2
  refine ⟨fun c4 => ?_, fun c4 => ?_⟩
  ·
    have ff := F1 n1 (by omega) (by omega) (by omega)
    refine ⟨_, K_X0_isPair hT (show 0 ≤ n1 from by omega) (show n1 < 1500 from by omega) (show σ.2.1 30 n1 + σ.2.1 31 n1 ≤ 20000 from by omega), ?_⟩
    intro x6 r_x6 hq
    have q5_1 := hq
    replace q5_1 : 0 ≤ x6 ∧ x6 ≤ 1 := q5_1
    refine ⟨fun c8 => ?_, fun c8 => ?_⟩
    ·
      exact trivial
    ·
      exact trivial
  ·
    exact trivial
set_option maxHeartbeats 1000000 in
theorem K_X12_rows {n1 : Int} {σ : S0} (hT : c_T σ) : W_X12_rows n1 σ (fun (x : Int) => True) := by
  have v7 : 0 ≤ σ.1 7 ∧ σ.1 7 ≤ 1500 := hT.1 7
  unfold W_X12_rows
  refine ⟨_, K_X3_isProved hT, ?_⟩
  intro x2 r_x2 hq
  obtain ⟨q1_1, q1_2⟩ := hq
  replace q1_1 : 0 ≤ x2 ∧ x2 ≤ 1 := q1_1
  replace q1_2 : ¬ x2 = 0 → 0 ≤ n1 ∧ n1 < (σ.1 7) ∧ σ.2.1 13 n1 = 3 := q1_2
  refine ⟨fun c4 => ?_, fun c4 => ?_⟩
  ·
    exact trivial
  ·
    refine ⟨(show 0 ≤ n1 ∧ n1 < 1500 from by omega), ?_⟩
    intro x6 r_x6 e_x6
    have b_x6 : 0 ≤ x6 ∧ x6 ≤ 20000 := by rw [e_x6]; exact hT.2 34 _
    exact trivial
set_option maxHeartbeats 1000000 in
theorem K_X12_isRow {n1 : Int} {n2 : Int} {σ : S0} (hT : c_T σ) (p1 : J_rw (σ.1 7) (σ.2.1 13) (σ.2.1 33) (σ.2.1 34)) : W_X12_isRow n1 n2 σ (fun (x : Int) => (0 ≤ x ∧ x ≤ 1) ∧ (¬ x = 0 → 0 ≤ n1 ∧ n1 < (σ.1 7) ∧ σ.2.1 13 n1 = 3 ∧ 0 ≤ n2 ∧ n2 < σ.2.1 34 n1)) := by
  have A13 : ∀ j, 0 ≤ σ.2.1 13 j ∧ σ.2.1 13 j ≤ 4 := fun j => hT.2 13 j
  have A33 : ∀ j, 0 ≤ σ.2.1 33 j ∧ σ.2.1 33 j ≤ 20000 := fun j => hT.2 33 j
  have A34 : ∀ j, 0 ≤ σ.2.1 34 j ∧ σ.2.1 34 j ≤ 20000 := fun j => hT.2 34 j
  have v7 : 0 ≤ σ.1 7 ∧ σ.1 7 ≤ 1500 := hT.1 7
  have F2 : J_rw (σ.1 7) (σ.2.1 13) (σ.2.1 33) (σ.2.1 34) := p1
  unfold W_X12_isRow
  refine ⟨_, K_X3_isProved hT, ?_⟩
  intro x2 r_x2 hq
  obtain ⟨q1_1, q1_2⟩ := hq
  replace q1_1 : 0 ≤ x2 ∧ x2 ≤ 1 := q1_1
  replace q1_2 : ¬ x2 = 0 → 0 ≤ n1 ∧ n1 < (σ.1 7) ∧ σ.2.1 13 n1 = 3 := q1_2
  refine ⟨fun c4 => ?_, fun c4 => ?_⟩
  ·
    exact ⟨(show 0 ≤ 0 ∧ 0 ≤ 1 from by omega), (show ¬ 0 = 0 → 0 ≤ n1 ∧ n1 < (σ.1 7) ∧ σ.2.1 13 n1 = 3 ∧ 0 ≤ n2 ∧ n2 < σ.2.1 34 n1 from by omega)⟩
  ·
    refine ⟨fun c5 => ?_, fun c5 => ?_⟩
    ·
      exact ⟨(show 0 ≤ 0 ∧ 0 ≤ 1 from by omega), (show ¬ 0 = 0 → 0 ≤ n1 ∧ n1 < (σ.1 7) ∧ σ.2.1 13 n1 = 3 ∧ 0 ≤ n2 ∧ n2 < σ.2.1 34 n1 from by omega)⟩
    ·
      refine ⟨(show 0 ≤ n1 ∧ n1 < 1500 from by omega), ?_⟩
      intro x7 r_x7 e_x7
      have b_x7 : 0 ≤ x7 ∧ x7 ≤ 20000 := by rw [e_x7]; exact hT.2 34 _
      refine ⟨fun c8 => ?_, fun c8 => ?_⟩
      ·
        exact ⟨(show 0 ≤ 0 ∧ 0 ≤ 1 from by omega), (show ¬ 0 = 0 → 0 ≤ n1 ∧ n1 < (σ.1 7) ∧ σ.2.1 13 n1 = 3 ∧ 0 ≤ n2 ∧ n2 < σ.2.1 34 n1 from by omega)⟩
      ·
        exact ⟨(show 0 ≤ 1 ∧ 1 ≤ 1 from by omega), (show ¬ 1 = 0 → 0 ≤ n1 ∧ n1 < (σ.1 7) ∧ σ.2.1 13 n1 = 3 ∧ 0 ≤ n2 ∧ n2 < σ.2.1 34 n1 from by omega)⟩
set_option maxHeartbeats 1000000 in
theorem K_X12_row {n1 : Int} {n2 : Int} {σ : S0} (hT : c_T σ) (p1 : J_rw (σ.1 7) (σ.2.1 13) (σ.2.1 33) (σ.2.1 34)) : W_X12_row n1 n2 σ (fun (x : Int) => True) := by
  have A13 : ∀ j, 0 ≤ σ.2.1 13 j ∧ σ.2.1 13 j ≤ 4 := fun j => hT.2 13 j
  have A33 : ∀ j, 0 ≤ σ.2.1 33 j ∧ σ.2.1 33 j ≤ 20000 := fun j => hT.2 33 j
  have A34 : ∀ j, 0 ≤ σ.2.1 34 j ∧ σ.2.1 34 j ≤ 20000 := fun j => hT.2 34 j
  have v7 : 0 ≤ σ.1 7 ∧ σ.1 7 ≤ 1500 := hT.1 7
  have F2 : J_rw (σ.1 7) (σ.2.1 13) (σ.2.1 33) (σ.2.1 34) := p1
  unfold W_X12_row
  refine ⟨_, K_X12_isRow hT (show J_rw (σ.1 7) (σ.2.1 13) (σ.2.1 33) (σ.2.1 34) from F2), ?_⟩
  intro x2 r_x2 hq
  obtain ⟨q1_1, q1_2⟩ := hq
  replace q1_1 : 0 ≤ x2 ∧ x2 ≤ 1 := q1_1
  replace q1_2 : ¬ x2 = 0 → 0 ≤ n1 ∧ n1 < (σ.1 7) ∧ σ.2.1 13 n1 = 3 ∧ 0 ≤ n2 ∧ n2 < σ.2.1 34 n1 := q1_2
  refine ⟨fun c4 => ?_, fun c4 => ?_⟩
  ·
    exact trivial
  ·
    have ff := F2 n1 (by omega) (by omega) (by omega)
    refine ⟨(show 0 ≤ n1 ∧ n1 < 1500 from by omega), ?_⟩
    intro x6 r_x6 e_x6
    have b_x6 : 0 ≤ x6 ∧ x6 ≤ 20000 := by rw [e_x6]; exact hT.2 33 _
    refine ⟨(show 0 ≤ (x6 + n2) ∧ (x6 + n2) < 20000 from by omega), ?_⟩
    intro x8 r_x8 e_x8
    have b_x8 : 0 ≤ x8 ∧ x8 ≤ 1499 := by rw [e_x8]; exact hT.2 35 _
    exact trivial
set_option maxHeartbeats 1000000 in
theorem K_X12_from {n1 : Int} {n2 : Int} {n3 : Int} {σ : S0} (hT : c_T σ) (p1 : J_rw (σ.1 7) (σ.2.1 13) (σ.2.1 33) (σ.2.1 34)) : W_X12_from n1 n2 n3 σ (fun (x : Int) => True) := by
  have A13 : ∀ j, 0 ≤ σ.2.1 13 j ∧ σ.2.1 13 j ≤ 4 := fun j => hT.2 13 j
  have A33 : ∀ j, 0 ≤ σ.2.1 33 j ∧ σ.2.1 33 j ≤ 20000 := fun j => hT.2 33 j
  have A34 : ∀ j, 0 ≤ σ.2.1 34 j ∧ σ.2.1 34 j ≤ 20000 := fun j => hT.2 34 j
  have A36 : ∀ j, 0 ≤ σ.2.1 36 j ∧ σ.2.1 36 j ≤ 20000 := fun j => hT.2 36 j
  have v7 : 0 ≤ σ.1 7 ∧ σ.1 7 ≤ 1500 := hT.1 7
  have F2 : J_rw (σ.1 7) (σ.2.1 13) (σ.2.1 33) (σ.2.1 34) := p1
  unfold W_X12_from
  refine ⟨_, K_X12_isRow hT (show J_rw (σ.1 7) (σ.2.1 13) (σ.2.1 33) (σ.2.1 34) from F2), ?_⟩
  intro x2 r_x2 hq
  obtain ⟨q1_1, q1_2⟩ := hq
  replace q1_1 : 0 ≤ x2 ∧ x2 ≤ 1 := q1_1
  replace q1_2 : ¬ x2 = 0 → 0 ≤ n1 ∧ n1 < (σ.1 7) ∧ σ.2.1 13 n1 = 3 ∧ 0 ≤ n2 ∧ n2 < σ.2.1 34 n1 := q1_2
  refine ⟨fun c4 => ?_, fun c4 => ?_⟩
  ·
    have ff := F2 n1 (by omega) (by omega) (by omega)
    refine ⟨(show 0 ≤ n1 ∧ n1 < 1500 from by omega), ?_⟩
    intro x6 r_x6 e_x6
    have b_x6 : 0 ≤ x6 ∧ x6 ≤ 20000 := by rw [e_x6]; exact hT.2 33 _
    refine ⟨fun c7 => ?_, fun c7 => ?_⟩
    ·
      exact trivial
    ·
      refine ⟨(⟨by omega, by omega⟩ : rg (x6 + n2)), ?_⟩
      refine ⟨_, K_X0_childCount hT (show 0 ≤ (x6 + n2) from by omega) (show (x6 + n2) < 20000 from by omega), ?_⟩
      intro x10 r_x10 hq
      have q9_1 := hq
      replace q9_1 : x10 = σ.2.1 36 ((x6 + n2) + 1) - σ.2.1 36 (x6 + n2) := q9_1
      refine ⟨fun c12 => ?_, fun c12 => ?_⟩
      ·
        have aa := A36 (x6 + n2 + 1)
        refine ⟨(show 0 ≤ (x6 + n2) ∧ (x6 + n2) < 20001 from by omega), ?_⟩
        intro x14 r_x14 e_x14
        have b_x14 : 0 ≤ x14 ∧ x14 ≤ 20000 := by rw [e_x14]; exact hT.2 36 _
        refine ⟨(show 0 ≤ (x14 + n3) ∧ (x14 + n3) < 20000 from by omega), ?_⟩
        intro x16 r_x16 e_x16
        have b_x16 : 0 ≤ x16 ∧ x16 ≤ 19999 := by rw [e_x16]; exact hT.2 37 _
        exact trivial
      ·
        exact trivial
  ·
    exact trivial
set_option maxHeartbeats 1000000 in
theorem K_X12_rests {n1 : Int} {n2 : Int} {σ : S0} (hT : c_T σ) : W_X12_rests n1 n2 σ (fun (x : Int) => True) := by
  have v7 : 0 ≤ σ.1 7 ∧ σ.1 7 ≤ 1500 := hT.1 7
  unfold W_X12_rests
  refine ⟨_, K_X3_isProved hT, ?_⟩
  intro x2 r_x2 hq
  obtain ⟨q1_1, q1_2⟩ := hq
  replace q1_1 : 0 ≤ x2 ∧ x2 ≤ 1 := q1_1
  replace q1_2 : ¬ x2 = 0 → 0 ≤ n1 ∧ n1 < (σ.1 7) ∧ σ.2.1 13 n1 = 3 := q1_2
  refine ⟨fun c4 => ?_, fun c4 => ?_⟩
  ·
    exact trivial
  ·
    refine ⟨_, K_X3_isAssertion hT, ?_⟩
    intro x6 r_x6 hq
    obtain ⟨q5_1, q5_2⟩ := hq
    replace q5_1 : 0 ≤ x6 ∧ x6 ≤ 1 := q5_1
    replace q5_2 : ¬ x6 = 0 → 0 ≤ n2 ∧ n2 < (σ.1 7) ∧ 2 ≤ σ.2.1 13 n2 := q5_2
    refine ⟨fun c8 => ?_, fun c8 => ?_⟩
    ·
      refine ⟨_, K_X0_restsOn hT (show 0 ≤ n1 from by omega) (show n1 < 1500 from by omega) (show 0 ≤ n2 from by omega) (show n2 < 1500 from by omega), ?_⟩
      intro x10 r_x10 hq
      have q9_1 := hq
      replace q9_1 : 0 ≤ x10 ∧ x10 ≤ 1 := q9_1
      refine ⟨fun c12 => ?_, fun c12 => ?_⟩
      ·
        exact trivial
      ·
        exact trivial
    ·
      exact trivial
set_option maxHeartbeats 1000000 in
theorem K_X12_size {n1 : Int} {σ : S0} (hT : c_T σ) (p1 : J_rw (σ.1 7) (σ.2.1 13) (σ.2.1 33) (σ.2.1 34)) : W_X12_size n1 σ (fun (x : Int64) => True) := by
  have A13 : ∀ j, 0 ≤ σ.2.1 13 j ∧ σ.2.1 13 j ≤ 4 := fun j => hT.2 13 j
  have A33 : ∀ j, 0 ≤ σ.2.1 33 j ∧ σ.2.1 33 j ≤ 20000 := fun j => hT.2 33 j
  have A34 : ∀ j, 0 ≤ σ.2.1 34 j ∧ σ.2.1 34 j ≤ 20000 := fun j => hT.2 34 j
  have v7 : 0 ≤ σ.1 7 ∧ σ.1 7 ≤ 1500 := hT.1 7
  have F2 : J_rw (σ.1 7) (σ.2.1 13) (σ.2.1 33) (σ.2.1 34) := p1
  unfold W_X12_size
  refine ⟨_, K_X3_isProved hT, ?_⟩
  intro x2 r_x2 hq
  obtain ⟨q1_1, q1_2⟩ := hq
  replace q1_1 : 0 ≤ x2 ∧ x2 ≤ 1 := q1_1
  replace q1_2 : ¬ x2 = 0 → 0 ≤ n1 ∧ n1 < (σ.1 7) ∧ σ.2.1 13 n1 = 3 := q1_2
  refine ⟨fun c4 => ?_, fun c4 => ?_⟩
  ·
    have ff := F2 n1 (by omega) (by omega) (by omega)
    have a1 := A33 n1
    refine ⟨_, K_X0_labelsOf hT (show 0 ≤ n1 from by omega) (show n1 < 1500 from by omega) (show 1 ≤ σ.2.1 33 n1 + σ.2.1 34 n1 from by omega) (show σ.2.1 33 n1 + σ.2.1 34 n1 ≤ 20000 from by omega), ?_⟩
    intro x6 hq
    refine ⟨fun c8 => ?_, fun c8 => ?_⟩
    ·
      exact trivial
    ·
      exact trivial
  ·
    exact trivial
