
set_option maxHeartbeats 1000000 in
theorem K_X13_isSameStretch {n1 : Int} {n2 : Int} {n3 : Int} {n4 : Int} {σ : S0} (hT : m_T σ) (p1 : 0 ≤ n1 ∧ n1 ≤ n2 ∧ n2 ≤ 59) (p2 : 0 ≤ n3 ∧ n3 ≤ n4 ∧ n4 ≤ 59) : W_X13_isSameStretch n1 n2 n3 n4 σ (fun (x : Int) => (x = 0 ∨ x = 1) ∧ (x = 1 → n2 - n1 = n4 - n3 ∧ ∀ k : Int, 0 ≤ k → k < n2 - n1 → σ.2.1 103 (1 + n1 + k) = σ.2.1 103 (1 + n3 + k))) := by
  have A103 : ∀ j, 0 ≤ σ.2.1 103 j ∧ σ.2.1 103 j ≤ 999 := fun j => hT.2 103 j
  intro P20 h20
  have l_20 : ∀ (m_20 : Nat) (u5_20 : Int) (u6_20 : Int), 61 - u6_20 < (m_20 : Int) → (0 ≤ u6_20 ∧ u6_20 ≤ n2 - n1) → (u5_20 = 0 ∨ u5_20 = 1) → (u5_20 = 1 → n2 - n1 = n4 - n3 ∧ ∀ k : Int, 0 ≤ k → k < u6_20 → σ.2.1 103 (1 + n1 + k) = σ.2.1 103 (1 + n3 + k)) → P20 n1 n2 n3 u5_20 u6_20 := by
    intro m_20
    induction m_20 with
    | zero =>
      intro u5_20 u6_20 hm i20_1 i20_2 i20_3
      exfalso; (first | omega | (simp only [st_s] <;> omega) | assumption | omega | fail)
    | succ m_20 ih_20 =>
      intro u5_20 u6_20 hm_20 i20_1 i20_2 i20_3
      refine h20 n1 n2 n3 u5_20 u6_20 ?_
      refine ⟨(⟨by (first | omega | (simp only [st_s] <;> omega) | assumption | omega | fail), by (first | omega | (simp only [st_s] <;> omega) | assumption | omega | fail)⟩ : rg (n2 - n1)), ?_⟩
      refine ⟨fun c5 => ?_, fun c5 => ?_⟩
      ·
        refine ⟨(show 0 ≤ u5_20 ∧ u5_20 ≤ 1 from by (first | omega | (simp only [st_s] <;> omega) | assumption | omega | fail)), ?_⟩
        exact ⟨(show u5_20 = 0 ∨ u5_20 = 1 from by (first | omega | (simp only [st_s] <;> omega) | assumption | omega | fail)), (show u5_20 = 1 → n2 - n1 = n4 - n3 ∧ ∀ k : Int, 0 ≤ k → k < n2 - n1 → σ.2.1 103 (1 + n1 + k) = σ.2.1 103 (1 + n3 + k) from by (first | (intro z; exfalso; omega) | (intro z; have q9 := i20_3 z; obtain ⟨w1, w2⟩ := q9; exact ⟨w1, fun k a b => w2 k a (by omega)⟩) | fail))⟩
      ·
        refine ⟨fun c7 => ?_, fun c7 => ?_⟩
        ·
          have i20z := fun z => (i20_3 z).1
          refine ⟨(show 0 ≤ u5_20 ∧ u5_20 ≤ 1 from by (first | omega | (simp only [st_s] <;> omega) | assumption | omega | fail)), ?_⟩
          exact ⟨(show u5_20 = 0 ∨ u5_20 = 1 from by (first | omega | (simp only [st_s] <;> omega) | assumption | omega | fail)), (show u5_20 = 1 → n2 - n1 = n4 - n3 ∧ ∀ k : Int, 0 ≤ k → k < n2 - n1 → σ.2.1 103 (1 + n1 + k) = σ.2.1 103 (1 + n3 + k) from by (first | (intro z; exfalso; omega) | (intro z; have q9 := i20_3 z; obtain ⟨w1, w2⟩ := q9; exact ⟨w1, fun k a b => w2 k a (by omega)⟩) | fail))⟩
        ·
          have i20z := fun z => (i20_3 z).1
          refine ⟨(show 0 ≤ ((1 + n1) + u6_20) ∧ ((1 + n1) + u6_20) < 64 from by (first | omega | (simp only [st_s] <;> omega) | assumption | omega | fail)), ?_⟩
          intro x10 r_x10 e_x10
          have b_x10 : 0 ≤ x10 ∧ x10 ≤ 999 := by rw [e_x10]; exact hT.2 103 _
          have e20 := (i20_3 (by omega)).1
          refine ⟨(show 0 ≤ ((1 + n3) + u6_20) ∧ ((1 + n3) + u6_20) < 64 from by omega), ?_⟩
          intro x12 r_x12 e_x12
          have b_x12 : 0 ≤ x12 ∧ x12 ≤ 999 := by rw [e_x12]; exact hT.2 103 _
          refine ⟨fun c13 => ?_, fun c13 => ?_⟩
          ·
            refine ⟨(⟨by (first | omega | (simp only [st_s] <;> omega) | assumption | omega | fail), by (first | omega | (simp only [st_s] <;> omega) | assumption | omega | fail)⟩ : rg (u6_20 + 1)), ?_⟩
            exact ih_20 _ _ (show (61 - (u6_20 + 1) : Int) < ((m_20 : Nat) : Int) from by ((first | omega | (simp only [st_s] <;> omega) | assumption | omega | fail))) (show 0 ≤ (u6_20 + 1) ∧ (u6_20 + 1) ≤ n2 - n1 from by (first | omega | (simp only [st_s] <;> omega) | assumption | omega | fail)) (show 0 = 0 ∨ 0 = 1 from by (first | omega | (simp only [st_s] <;> omega) | assumption | omega | fail)) (show 0 = 1 → n2 - n1 = n4 - n3 ∧ ∀ k : Int, 0 ≤ k → k < (u6_20 + 1) → σ.2.1 103 (1 + n1 + k) = σ.2.1 103 (1 + n3 + k) from by (first | (intro z; exfalso; omega) | (intro _; exact ⟨by omega, fun k a b => by exfalso; omega⟩) | (intro _; have q9 := i20_3 (by omega); obtain ⟨w1, w2⟩ := q9; refine ⟨w1, fun k a b => ?_⟩; rcases (by omega : k < u6_20 ∨ k = u6_20) with y | y; (exact w2 k a y); (rw [y, ← e_x10, ← e_x12]; assumption)) | fail))
          ·
            refine ⟨(⟨by (first | omega | (simp only [st_s] <;> omega) | assumption | omega | fail), by (first | omega | (simp only [st_s] <;> omega) | assumption | omega | fail)⟩ : rg (u6_20 + 1)), ?_⟩
            exact ih_20 _ _ (show (61 - (u6_20 + 1) : Int) < ((m_20 : Nat) : Int) from by ((first | omega | (simp only [st_s] <;> omega) | assumption | omega | fail))) (show 0 ≤ (u6_20 + 1) ∧ (u6_20 + 1) ≤ n2 - n1 from by (first | omega | (simp only [st_s] <;> omega) | assumption | omega | fail)) (show 1 = 0 ∨ 1 = 1 from by (first | omega | (simp only [st_s] <;> omega) | assumption | omega | fail)) (show 1 = 1 → n2 - n1 = n4 - n3 ∧ ∀ k : Int, 0 ≤ k → k < (u6_20 + 1) → σ.2.1 103 (1 + n1 + k) = σ.2.1 103 (1 + n3 + k) from by (first | (intro z; exfalso; omega) | (intro _; exact ⟨by omega, fun k a b => by exfalso; omega⟩) | (intro _; have q9 := i20_3 (by omega); obtain ⟨w1, w2⟩ := q9; refine ⟨w1, fun k a b => ?_⟩; rcases (by omega : k < u6_20 ∨ k = u6_20) with y | y; (exact w2 k a y); (rw [y, ← e_x10, ← e_x12]; assumption)) | fail))
  refine ⟨(⟨by (first | omega | (simp only [st_s] <;> omega) | assumption | omega | fail), by (first | omega | (simp only [st_s] <;> omega) | assumption | omega | fail)⟩ : rg (n2 - n1)), ?_⟩
  refine ⟨(⟨by (first | omega | (simp only [st_s] <;> omega) | assumption | omega | fail), by (first | omega | (simp only [st_s] <;> omega) | assumption | omega | fail)⟩ : rg (n4 - n3)), ?_⟩
  refine ⟨fun c3 => ?_, fun c3 => ?_⟩
  ·
    exact l_20 ((61 - 0 : Int).toNat + 1) _ _ (show (61 - 0 : Int) < (((61 - 0 : Int).toNat + 1 : Nat) : Int) from by ((first | omega | (simp only [st_s] <;> omega) | assumption | omega | fail))) (show 0 ≤ 0 ∧ 0 ≤ n2 - n1 from by (first | omega | (simp only [st_s] <;> omega) | assumption | omega | fail)) (show 0 = 0 ∨ 0 = 1 from by (first | omega | (simp only [st_s] <;> omega) | assumption | omega | fail)) (show 0 = 1 → n2 - n1 = n4 - n3 ∧ ∀ k : Int, 0 ≤ k → k < 0 → σ.2.1 103 (1 + n1 + k) = σ.2.1 103 (1 + n3 + k) from by (first | (intro z; exfalso; omega) | (intro _; exact ⟨by omega, fun k a b => by exfalso; omega⟩) | (intro _; have q9 := i20_3 (by omega); obtain ⟨w1, w2⟩ := q9; refine ⟨w1, fun k a b => ?_⟩; rcases (by omega : k < u6_20 ∨ k = u6_20) with y | y; (exact w2 k a y); (rw [y, ← e_x10, ← e_x12]; assumption)) | fail))
  ·
    exact l_20 ((61 - 0 : Int).toNat + 1) _ _ (show (61 - 0 : Int) < (((61 - 0 : Int).toNat + 1 : Nat) : Int) from by ((first | omega | (simp only [st_s] <;> omega) | assumption | omega | fail))) (show 0 ≤ 0 ∧ 0 ≤ n2 - n1 from by (first | omega | (simp only [st_s] <;> omega) | assumption | omega | fail)) (show 1 = 0 ∨ 1 = 1 from by (first | omega | (simp only [st_s] <;> omega) | assumption | omega | fail)) (show 1 = 1 → n2 - n1 = n4 - n3 ∧ ∀ k : Int, 0 ≤ k → k < 0 → σ.2.1 103 (1 + n1 + k) = σ.2.1 103 (1 + n3 + k) from by (first | (intro z; exfalso; omega) | (intro _; exact ⟨by omega, fun k a b => by exfalso; omega⟩) | (intro _; have q9 := i20_3 (by omega); obtain ⟨w1, w2⟩ := q9; refine ⟨w1, fun k a b => ?_⟩; rcases (by omega : k < u6_20 ∨ k = u6_20) with y | y; (exact w2 k a y); (rw [y, ← e_x10, ← e_x12]; assumption)) | fail))
