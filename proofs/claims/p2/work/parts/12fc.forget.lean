
set_option maxHeartbeats 1000000 in
theorem K3_X13_forgetTrees {n1 : Int} {σ : S0} (hT : m_T σ) (p1 : 0 ≤ n1) (p2 : n1 ≤ 1500) : W_X13_forgetTrees n1 σ (fun (τ : S0) => (m_T τ) ∧ ((τ.1 38) = 0) ∧ ((τ.1 49) = 0) ∧ (∀ i : Int, i < n1 → τ.2.1 94 i = σ.2.1 94 i ∧ τ.2.1 96 i = σ.2.1 96 i) ∧ (∀ i : Int, n1 ≤ i → i < 1500 → τ.2.1 94 i = -1 ∧ τ.2.1 96 i = 0) ∧ (∀ i : Int, 0 ≤ i → i < 1500 → τ.2.1 95 i = -9)) := by
  have A94 : ∀ j, (-1) ≤ σ.2.1 94 j ∧ σ.2.1 94 j ≤ 2 := fun j => hT.2 94 j
  have A95 : ∀ j, (-9) ≤ σ.2.1 95 j ∧ σ.2.1 95 j ≤ 1499 := fun j => hT.2 95 j
  have A96 : ∀ j, 0 ≤ σ.2.1 96 j ∧ σ.2.1 96 j ≤ 1 := fun j => hT.2 96 j
  have v38 : 0 ≤ σ.1 38 ∧ σ.1 38 ≤ 1500 := hT.1 38
  have v49 : 0 ≤ σ.1 49 ∧ σ.1 49 ≤ 1 := hT.1 49
  intro P7 P36 h7 h36
  have l_36 : ∀ (m_36 : Nat) (u2_36 : Int) (τ_36 : S0), 1501 - u2_36 < (m_36 : Int) → (m_T τ_36) → (0 ≤ u2_36) → (u2_36 ≤ 1500) → ((τ_36.1 49) = 0) → (∀ i : Int, i < n1 → τ_36.2.1 94 i = σ.2.1 94 i ∧ τ_36.2.1 96 i = σ.2.1 96 i) → (∀ i : Int, n1 ≤ i → i < 1500 → τ_36.2.1 94 i = -1 ∧ τ_36.2.1 96 i = 0) → (∀ i : Int, 0 ≤ i → i < u2_36 → τ_36.2.1 95 i = -9) → P36 u2_36 τ_36 := by
    intro m_36
    induction m_36 with
    | zero =>
      intro u2_36 τ_36 hm hT i36_1 i36_2 i36_3 i36_4 i36_5 i36_6
      have A94 : ∀ j, (-1) ≤ τ_36.2.1 94 j ∧ τ_36.2.1 94 j ≤ 2 := fun j => hT.2 94 j
      have A95 : ∀ j, (-9) ≤ τ_36.2.1 95 j ∧ τ_36.2.1 95 j ≤ 1499 := fun j => hT.2 95 j
      have A96 : ∀ j, 0 ≤ τ_36.2.1 96 j ∧ τ_36.2.1 96 j ≤ 1 := fun j => hT.2 96 j
      have v38 : 0 ≤ τ_36.1 38 ∧ τ_36.1 38 ≤ 1500 := hT.1 38
      have v49 : 0 ≤ τ_36.1 49 ∧ τ_36.1 49 ≤ 1 := hT.1 49
      exfalso; (first | omega | (simp only [st_s] <;> omega) | assumption | omega | fail)
    | succ m_36 ih_36 =>
      intro u2_36 τ_36 hm_36 hT i36_1 i36_2 i36_3 i36_4 i36_5 i36_6
      have A94 : ∀ j, (-1) ≤ τ_36.2.1 94 j ∧ τ_36.2.1 94 j ≤ 2 := fun j => hT.2 94 j
      have A95 : ∀ j, (-9) ≤ τ_36.2.1 95 j ∧ τ_36.2.1 95 j ≤ 1499 := fun j => hT.2 95 j
      have A96 : ∀ j, 0 ≤ τ_36.2.1 96 j ∧ τ_36.2.1 96 j ≤ 1 := fun j => hT.2 96 j
      have v38 : 0 ≤ τ_36.1 38 ∧ τ_36.1 38 ≤ 1500 := hT.1 38
      have v49 : 0 ≤ τ_36.1 49 ∧ τ_36.1 49 ≤ 1 := hT.1 49
      refine h36 u2_36 τ_36 ?_
      refine ⟨fun c4 => ?_, fun c4 => ?_⟩
      ·
        replace hT := mT_v (i := 38) hT (show (0 : Int) ≤ 0 ∧ 0 ≤ 1500 from by (first | omega | (simp only [st_s] <;> omega) | assumption | omega | fail))
        exact ⟨hT, (show ((0 : Int)) = 0 from by (first | omega | (simp only [st_s] <;> omega) | assumption | omega | fail)), (show (τ_36.1 49) = 0 from by (first | omega | (simp only [st_s] <;> omega) | assumption | omega | fail)), (show ∀ i : Int, i < n1 → τ_36.2.1 94 i = σ.2.1 94 i ∧ τ_36.2.1 96 i = σ.2.1 96 i from by exact i36_4), (show ∀ i : Int, n1 ≤ i → i < 1500 → τ_36.2.1 94 i = -1 ∧ τ_36.2.1 96 i = 0 from by exact i36_5), (show ∀ i : Int, 0 ≤ i → i < 1500 → τ_36.2.1 95 i = -9 from by (intro i a b; exact i36_6 i a (by omega)))⟩
      ·
        refine ⟨(show 0 ≤ u2_36 ∧ u2_36 < 1501 from by (first | omega | (simp only [st_s] <;> omega) | assumption | omega | fail)), ?_⟩
        replace hT := mT_a (k := 95) (j := u2_36) hT (show (-9 : Int) ≤ (-9) ∧ (-9) ≤ 1499 from by (first | omega | (simp only [st_s] <;> omega) | assumption | omega | fail))
        refine ⟨(⟨by (first | omega | (simp only [st_s] <;> omega) | assumption | omega | fail), by (first | omega | (simp only [st_s] <;> omega) | assumption | omega | fail)⟩ : rg (u2_36 + 1)), ?_⟩
        exact ih_36 _ _ (show (1501 - (u2_36 + 1) : Int) < ((m_36 : Nat) : Int) from by ((first | omega | (simp only [st_s] <;> omega) | assumption | omega | fail))) hT (show 0 ≤ (u2_36 + 1) from by (first | omega | (simp only [st_s] <;> omega) | assumption | omega | fail)) (show (u2_36 + 1) ≤ 1500 from by (first | omega | (simp only [st_s] <;> omega) | assumption | omega | fail)) (show (τ_36.1 49) = 0 from by (first | omega | (simp only [st_s] <;> omega) | assumption | omega | fail)) (show ∀ i : Int, i < n1 → τ_36.2.1 94 i = σ.2.1 94 i ∧ τ_36.2.1 96 i = σ.2.1 96 i from by (first | exact i36_4 | exact i7_5 | fail)) (show ∀ i : Int, n1 ≤ i → i < 1500 → τ_36.2.1 94 i = -1 ∧ τ_36.2.1 96 i = 0 from by (first | exact i36_5 | (intro i a b; exact i7_6 i a (by omega)) | fail)) (show ∀ i : Int, 0 ≤ i → i < (u2_36 + 1) → (st (τ_36.2.1 95) u2_36 (-9)) i = -9 from by (first | (intro i a b; exfalso; omega) | (intro i a b; rcases (by omega : i < u2_36 ∨ i = u2_36) with y | y; (rw [st_n _ _ (by omega)]; exact i36_6 i a y); (rw [y, st_s])) | fail))
  have l_7 : ∀ (m_7 : Nat) (u2_7 : Int) (τ_7 : S0), 1501 - u2_7 < (m_7 : Int) → (m_T τ_7) → (0 ≤ u2_7) → (u2_7 ≤ 1500) → ((τ_7.1 49) = 0) → (n1 ≤ u2_7) → (∀ i : Int, i < n1 → τ_7.2.1 94 i = σ.2.1 94 i ∧ τ_7.2.1 96 i = σ.2.1 96 i) → (∀ i : Int, n1 ≤ i → i < u2_7 → τ_7.2.1 94 i = -1 ∧ τ_7.2.1 96 i = 0) → P7 u2_7 τ_7 := by
    intro m_7
    induction m_7 with
    | zero =>
      intro u2_7 τ_7 hm hT i7_1 i7_2 i7_3 i7_4 i7_5 i7_6
      have A94 : ∀ j, (-1) ≤ τ_7.2.1 94 j ∧ τ_7.2.1 94 j ≤ 2 := fun j => hT.2 94 j
      have A95 : ∀ j, (-9) ≤ τ_7.2.1 95 j ∧ τ_7.2.1 95 j ≤ 1499 := fun j => hT.2 95 j
      have A96 : ∀ j, 0 ≤ τ_7.2.1 96 j ∧ τ_7.2.1 96 j ≤ 1 := fun j => hT.2 96 j
      have v38 : 0 ≤ τ_7.1 38 ∧ τ_7.1 38 ≤ 1500 := hT.1 38
      have v49 : 0 ≤ τ_7.1 49 ∧ τ_7.1 49 ≤ 1 := hT.1 49
      exfalso; (first | omega | (simp only [st_s] <;> omega) | assumption | omega | fail)
    | succ m_7 ih_7 =>
      intro u2_7 τ_7 hm_7 hT i7_1 i7_2 i7_3 i7_4 i7_5 i7_6
      have A94 : ∀ j, (-1) ≤ τ_7.2.1 94 j ∧ τ_7.2.1 94 j ≤ 2 := fun j => hT.2 94 j
      have A95 : ∀ j, (-9) ≤ τ_7.2.1 95 j ∧ τ_7.2.1 95 j ≤ 1499 := fun j => hT.2 95 j
      have A96 : ∀ j, 0 ≤ τ_7.2.1 96 j ∧ τ_7.2.1 96 j ≤ 1 := fun j => hT.2 96 j
      have v38 : 0 ≤ τ_7.1 38 ∧ τ_7.1 38 ≤ 1500 := hT.1 38
      have v49 : 0 ≤ τ_7.1 49 ∧ τ_7.1 49 ≤ 1 := hT.1 49
      refine h7 u2_7 τ_7 ?_
      refine ⟨fun c1 => ?_, fun c1 => ?_⟩
      ·
        exact l_36 ((1501 - 0 : Int).toNat + 1) _ _ (show (1501 - 0 : Int) < (((1501 - 0 : Int).toNat + 1 : Nat) : Int) from by ((first | omega | (simp only [st_s] <;> omega) | assumption | omega | fail))) hT (show 0 ≤ 0 from by (first | omega | (simp only [st_s] <;> omega) | assumption | omega | fail)) (show 0 ≤ 1500 from by (first | omega | (simp only [st_s] <;> omega) | assumption | omega | fail)) (show (τ_7.1 49) = 0 from by (first | omega | (simp only [st_s] <;> omega) | assumption | omega | fail)) (show ∀ i : Int, i < n1 → τ_7.2.1 94 i = σ.2.1 94 i ∧ τ_7.2.1 96 i = σ.2.1 96 i from by (first | exact i36_4 | exact i7_5 | fail)) (show ∀ i : Int, n1 ≤ i → i < 1500 → τ_7.2.1 94 i = -1 ∧ τ_7.2.1 96 i = 0 from by (first | exact i36_5 | (intro i a b; exact i7_6 i a (by omega)) | fail)) (show ∀ i : Int, 0 ≤ i → i < 0 → τ_7.2.1 95 i = -9 from by (first | (intro i a b; exfalso; omega) | (intro i a b; rcases (by omega : i < u2_36 ∨ i = u2_36) with y | y; (rw [st_n _ _ (by omega)]; exact i36_6 i a y); (rw [y, st_s])) | fail))
      ·
        refine ⟨(show 0 ≤ u2_7 ∧ u2_7 < 1501 from by (first | omega | (simp only [st_s] <;> omega) | assumption | omega | fail)), ?_⟩
        replace hT := mT_a (k := 94) (j := u2_7) hT (show (-1 : Int) ≤ (-1) ∧ (-1) ≤ 2 from by (first | omega | (simp only [st_s] <;> omega) | assumption | omega | fail))
        replace hT := mT_a (k := 96) (j := u2_7) hT (show (0 : Int) ≤ 0 ∧ 0 ≤ 1 from by (first | omega | (simp only [st_s] <;> omega) | assumption | omega | fail))
        refine ⟨(⟨by (first | omega | (simp only [st_s] <;> omega) | assumption | omega | fail), by (first | omega | (simp only [st_s] <;> omega) | assumption | omega | fail)⟩ : rg (u2_7 + 1)), ?_⟩
        exact ih_7 _ _ (show (1501 - (u2_7 + 1) : Int) < ((m_7 : Nat) : Int) from by ((first | omega | (simp only [st_s] <;> omega) | assumption | omega | fail))) hT (show 0 ≤ (u2_7 + 1) from by (first | omega | (simp only [st_s] <;> omega) | assumption | omega | fail)) (show (u2_7 + 1) ≤ 1500 from by (first | omega | (simp only [st_s] <;> omega) | assumption | omega | fail)) (show (τ_7.1 49) = 0 from by (first | omega | (simp only [st_s] <;> omega) | assumption | omega | fail)) (show n1 ≤ (u2_7 + 1) from by (first | omega | (simp only [st_s] <;> omega) | assumption | omega | fail)) (show ∀ i : Int, i < n1 → (st (τ_7.2.1 94) u2_7 (-1)) i = σ.2.1 94 i ∧ (st (τ_7.2.1 96) u2_7 0) i = σ.2.1 96 i from by (first | (intro i a; rw [st_n _ _ (by omega), st_n _ _ (by omega)]; exact i7_5 i a) | (intro i a; exact ⟨rfl, rfl⟩) | fail)) (show ∀ i : Int, n1 ≤ i → i < (u2_7 + 1) → (st (τ_7.2.1 94) u2_7 (-1)) i = -1 ∧ (st (τ_7.2.1 96) u2_7 0) i = 0 from by (first | (intro i a b; exfalso; omega) | (intro i a b; rcases (by omega : i < u2_7 ∨ i = u2_7) with y | y; (rw [st_n _ _ (by omega), st_n _ _ (by omega)]; exact i7_6 i a y); (rw [y, st_s, st_s]; exact ⟨rfl, rfl⟩)) | fail))
  replace hT := mT_v (i := 49) hT (show (0 : Int) ≤ 0 ∧ 0 ≤ 1 from by (first | omega | (simp only [st_s] <;> omega) | assumption | omega | fail))
  exact l_7 ((1501 - n1 : Int).toNat + 1) _ _ (show (1501 - n1 : Int) < (((1501 - n1 : Int).toNat + 1 : Nat) : Int) from by ((first | omega | (simp only [st_s] <;> omega) | assumption | omega | fail))) hT (show 0 ≤ n1 from by (first | omega | (simp only [st_s] <;> omega) | assumption | omega | fail)) (show n1 ≤ 1500 from by (first | omega | (simp only [st_s] <;> omega) | assumption | omega | fail)) (show ((0 : Int)) = 0 from by (first | omega | (simp only [st_s] <;> omega) | assumption | omega | fail)) (show n1 ≤ n1 from by (first | omega | (simp only [st_s] <;> omega) | assumption | omega | fail)) (show ∀ i : Int, i < n1 → σ.2.1 94 i = σ.2.1 94 i ∧ σ.2.1 96 i = σ.2.1 96 i from by (first | (intro i a; rw [st_n _ _ (by omega), st_n _ _ (by omega)]; exact i7_5 i a) | (intro i a; exact ⟨rfl, rfl⟩) | fail)) (show ∀ i : Int, n1 ≤ i → i < n1 → σ.2.1 94 i = -1 ∧ σ.2.1 96 i = 0 from by (first | (intro i a b; exfalso; omega) | (intro i a b; rcases (by omega : i < u2_7 ∨ i = u2_7) with y | y; (rw [st_n _ _ (by omega), st_n _ _ (by omega)]; exact i7_6 i a y); (rw [y, st_s, st_s]; exact ⟨rfl, rfl⟩)) | fail))
