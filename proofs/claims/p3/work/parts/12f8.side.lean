
set_option maxHeartbeats 4000000 in
theorem K_X13_firstSide {n1 : Int} {σ : S0} (hT : m_T σ) (p1 : 0 ≤ n1) (p2 : n1 < (σ.1 5)) (p3 : n_J σ) (p4 : y_In σ n1) (p5 : ∃ m : Int, (0 ≤ m ∧ m < y_nn σ n1) ∧ y_f σ n1 (m + 1) < 0) : W_X13_firstSide n1 σ (fun (x : Int) => (0 ≤ x ∧ x < σ.2.1 19 n1)) := by
  have A8 : ∀ j, 0 ≤ σ.2.1 8 j ∧ σ.2.1 8 j ≤ 1 := fun j => hT.2 8 j
  have A14 : ∀ j, 0 ≤ σ.2.1 14 j ∧ σ.2.1 14 j ≤ 30000 := fun j => hT.2 14 j
  have A15 : ∀ j, 0 ≤ σ.2.1 15 j ∧ σ.2.1 15 j ≤ 300 := fun j => hT.2 15 j
  have A16 : ∀ j, 0 ≤ σ.2.1 16 j ∧ σ.2.1 16 j ≤ 999 := fun j => hT.2 16 j
  have A18 : ∀ j, 0 ≤ σ.2.1 18 j ∧ σ.2.1 18 j ≤ 90000 := fun j => hT.2 18 j
  have A19 : ∀ j, 0 ≤ σ.2.1 19 j ∧ σ.2.1 19 j ≤ 60 := fun j => hT.2 19 j
  have A20 : ∀ j, 0 ≤ σ.2.1 20 j ∧ σ.2.1 20 j ≤ 1499 := fun j => hT.2 20 j
  have v5 : 0 ≤ σ.1 5 ∧ σ.1 5 ≤ 1500 := hT.1 5
  intro P9 h9
  have a14 := A14 n1
  have hTσ := hT
  have RH := y_rh p3 hT p1 p2 p4
  have nn2 : y_nn σ n1 = σ.2.1 15 n1 - 1 := rfl
  have l15 : σ.2.1 15 n1 ≤ 60 := p4.2
  have B16 := A16
  have vf : ∀ m : Int, σ.2.1 8 (σ.2.1 16 (σ.2.1 14 n1 + (m + 1))) = 0 → ¬ y_f σ n1 (m + 1) < 0 := fun m z => by (unfold y_f; rw [if_pos z]; have b := (hTσ.2 16 (σ.2.1 14 n1 + (m + 1))).1; have b1 : 0 ≤ σ.2.1 16 (σ.2.1 14 n1 + (m + 1)) := b; omega)
  have vg : ∀ m : Int, ¬ σ.2.1 8 (σ.2.1 16 (σ.2.1 14 n1 + (m + 1))) = 0 → y_f σ n1 (m + 1) < 0 := fun m z => by (unfold y_f; rw [if_neg z]; have b := (hTσ.2 10 (σ.2.1 16 (σ.2.1 14 n1 + (m + 1)))).1; have b1 : -1 ≤ σ.2.1 10 (σ.2.1 16 (σ.2.1 14 n1 + (m + 1))) := b; omega)
  have l_9 : ∀ (m_9 : Nat) (u2_9 : Int), σ.2.1 14 n1 + σ.2.1 15 n1 - u2_9 < (m_9 : Int) → (σ.2.1 14 n1 + 1 ≤ u2_9) → (∃ m : Int, (0 ≤ m ∧ m < y_nn σ n1) ∧ y_f σ n1 (m + 1) < 0 ∧ u2_9 ≤ σ.2.1 14 n1 + 1 + m) → P9 n1 u2_9 := by
    intro m_9
    induction m_9 with
    | zero =>
      intro u2_9 hm i9_1 i9_2
      exfalso; (obtain ⟨mm, m1, m2, m3⟩ := i9_2; omega)
    | succ m_9 ih_9 =>
      intro u2_9 hm_9 i9_1 i9_2
      obtain ⟨mm, m1, m2, m3⟩ := i9_2
      refine h9 n1 u2_9 ?_
      refine ⟨(show 0 ≤ u2_9 ∧ u2_9 < 30400 from by (first | omega | (simp only [st_s] <;> omega) | assumption | omega | fail)), ?_⟩
      intro x5 r_x5 e_x5
      have b_x5 : 0 ≤ x5 ∧ x5 ≤ 999 := by rw [e_x5]; exact hT.2 16 _
      have b5 := B16 u2_9
      refine ⟨(show 0 ≤ x5 ∧ x5 < 1001 from by (first | omega | (simp only [st_s] <;> omega) | assumption | omega | fail)), ?_⟩
      intro x7 r_x7 e_x7
      have b_x7 : 0 ≤ x7 ∧ x7 ≤ 1 := by rw [e_x7]; exact hT.2 8 _
      have f7 : x7 = σ.2.1 8 (σ.2.1 16 (σ.2.1 14 n1 + (u2_9 - σ.2.1 14 n1 - 1 + 1))) := by (rw [e_x7, e_x5]; exact congrArg (fun z => σ.2.1 8 (σ.2.1 16 z)) (by omega))
      refine ⟨fun c8 => ?_, fun c8 => ?_⟩
      ·
        intro x9 r_x9 e_x9
        have b_x9 : 0 ≤ x9 ∧ x9 ≤ 999 := by rw [e_x9]; exact hT.2 16 _
        refine ⟨_, K_X13_hypOf hT (show 0 ≤ n1 from by (first | omega | (simp only [st_s] <;> omega) | assumption | omega | fail)) (show n1 < (σ.1 5) from by (first | omega | (simp only [st_s] <;> omega) | assumption | omega | fail)), ?_⟩
        intro x11 r_x11 hq
        obtain ⟨q10_1, q10_2, q10_3⟩ := hq
        replace q10_1 : -1 ≤ x11 ∧ x11 < σ.2.1 19 n1 ∨ x11 = -1 := q10_1
        replace q10_2 : 0 ≤ x11 → x11 < σ.2.1 19 n1 ∧ σ.2.1 16 (σ.2.1 14 (σ.2.1 20 (σ.2.1 18 n1 + x11)) + 1) = x9 := q10_2
        replace q10_3 : x11 = -1 → ∀ k : Int, 0 ≤ k → k < σ.2.1 19 n1 → σ.2.1 16 (σ.2.1 14 (σ.2.1 20 (σ.2.1 18 n1 + k)) + 1) ≠ x9 := q10_3
        have vk := vg (u2_9 - σ.2.1 14 n1 - 1) (by rw [← f7]; assumption)
        obtain ⟨kk, k1, k2⟩ := RH.1 (u2_9 - σ.2.1 14 n1 - 1) (by omega) (by omega) vk
        have k3 : σ.2.1 16 (σ.2.1 14 (σ.2.1 20 (σ.2.1 18 n1 + kk)) + 1) = x9 := by (rw [k2, e_x9]; exact congrArg (σ.2.1 16) (by omega))
        have k4 : ¬ x11 = -1 := fun z => q10_3 z kk k1.1 k1.2 k3
        have k5 := q10_2 (by omega)
        exact (show 0 ≤ x11 ∧ x11 < σ.2.1 19 n1 from by (first | omega | (simp only [st_s] <;> omega) | assumption | omega | fail))
      ·
        refine ⟨(⟨by (first | omega | (simp only [st_s] <;> omega) | assumption | omega | fail), by (first | omega | (simp only [st_s] <;> omega) | assumption | omega | fail)⟩ : rg (u2_9 + 1)), ?_⟩
        exact ih_9 _ (show (σ.2.1 14 n1 + σ.2.1 15 n1 - (u2_9 + 1) : Int) < ((m_9 : Nat) : Int) from by ((first | omega | (simp only [st_s] <;> omega) | assumption | omega | fail))) (show σ.2.1 14 n1 + 1 ≤ (u2_9 + 1) from by (first | omega | (simp only [st_s] <;> omega) | assumption | omega | fail)) (show ∃ m : Int, (0 ≤ m ∧ m < y_nn σ n1) ∧ y_f σ n1 (m + 1) < 0 ∧ (u2_9 + 1) ≤ σ.2.1 14 n1 + 1 + m from by (first | (have q9 := p5; obtain ⟨m, a, b⟩ := q9; exact ⟨m, a, b, by omega⟩) | (refine ⟨mm, m1, m2, ?_⟩; rcases (by omega : u2_9 < σ.2.1 14 n1 + 1 + mm ∨ u2_9 = σ.2.1 14 n1 + 1 + mm) with y | y; (omega); (exfalso; refine vf mm ?_ m2; rw [f7] at c8; rw [show u2_9 - σ.2.1 14 n1 - 1 + 1 = mm + 1 from by omega] at c8; exact c8)) | fail))
  refine ⟨(show 0 ≤ n1 ∧ n1 < 1501 from by (first | omega | (simp only [st_s] <;> omega) | assumption | omega | fail)), ?_⟩
  intro x2 r_x2 e_x2
  have b_x2 : 0 ≤ x2 ∧ x2 ≤ 30000 := by rw [e_x2]; exact hT.2 14 _
  refine ⟨(⟨by (first | omega | (simp only [st_s] <;> omega) | assumption | omega | fail), by (first | omega | (simp only [st_s] <;> omega) | assumption | omega | fail)⟩ : rg (x2 + 1)), ?_⟩
  exact l_9 ((σ.2.1 14 n1 + σ.2.1 15 n1 - (x2 + 1) : Int).toNat + 1) _ (show (σ.2.1 14 n1 + σ.2.1 15 n1 - (x2 + 1) : Int) < (((σ.2.1 14 n1 + σ.2.1 15 n1 - (x2 + 1) : Int).toNat + 1 : Nat) : Int) from by ((first | omega | (simp only [st_s] <;> omega) | assumption | omega | fail))) (show σ.2.1 14 n1 + 1 ≤ (x2 + 1) from by (first | omega | (simp only [st_s] <;> omega) | assumption | omega | fail)) (show ∃ m : Int, (0 ≤ m ∧ m < y_nn σ n1) ∧ y_f σ n1 (m + 1) < 0 ∧ (x2 + 1) ≤ σ.2.1 14 n1 + 1 + m from by (first | (have q9 := p5; obtain ⟨m, a, b⟩ := q9; exact ⟨m, a, b, by omega⟩) | (refine ⟨mm, m1, m2, ?_⟩; rcases (by omega : u2_9 < σ.2.1 14 n1 + 1 + mm ∨ u2_9 = σ.2.1 14 n1 + 1 + mm) with y | y; (omega); (exfalso; refine vf mm ?_ m2; rw [f7] at c8; rw [show u2_9 - σ.2.1 14 n1 - 1 + 1 = mm + 1 from by omega] at c8; exact c8)) | fail))
