-- pure: the model goes through a proof
set_option maxHeartbeats 1000000 in
theorem K_X13_beginSteps {σ : S0} (hT : m_T σ) : W_X13_beginSteps σ (fun (τ : S0) => (m_T τ) ∧ ((τ.1 30) = 0) ∧ ((τ.1 31) = 0) ∧ ((τ.1 32) = 0) ∧ ((τ.1 33) = 0) ∧ ((τ.1 35) = 0)) := by
  have v30 : 0 ≤ σ.1 30 ∧ σ.1 30 ≤ 200 := hT.1 30
  have v31 : 0 ≤ σ.1 31 ∧ σ.1 31 ≤ 40000 := hT.1 31
  have v32 : 0 ≤ σ.1 32 ∧ σ.1 32 ≤ 300 := hT.1 32
  have v33 : 0 ≤ σ.1 33 ∧ σ.1 33 ≤ 40000 := hT.1 33
  have v35 : 0 ≤ σ.1 35 ∧ σ.1 35 ≤ 19 := hT.1 35
  unfold W_X13_beginSteps
  replace hT := mT_v (i := 30) hT (show (0 : Int) ≤ 0 ∧ 0 ≤ 200 from by (first | omega | (simp only [st_s] <;> omega) | assumption | omega))
  replace hT := mT_v (i := 31) hT (show (0 : Int) ≤ 0 ∧ 0 ≤ 40000 from by (first | omega | (simp only [st_s] <;> omega) | assumption | omega))
  replace hT := mT_v (i := 32) hT (show (0 : Int) ≤ 0 ∧ 0 ≤ 300 from by (first | omega | (simp only [st_s] <;> omega) | assumption | omega))
  replace hT := mT_v (i := 33) hT (show (0 : Int) ≤ 0 ∧ 0 ≤ 40000 from by (first | omega | (simp only [st_s] <;> omega) | assumption | omega))
  replace hT := mT_v (i := 35) hT (show (0 : Int) ≤ 0 ∧ 0 ≤ 19 from by (first | omega | (simp only [st_s] <;> omega) | assumption | omega))
  exact ⟨hT, (show ((0 : Int)) = 0 from by (first | omega | (simp only [st_s] <;> omega) | assumption | omega)), (show ((0 : Int)) = 0 from by (first | omega | (simp only [st_s] <;> omega) | assumption | omega)), (show ((0 : Int)) = 0 from by (first | omega | (simp only [st_s] <;> omega) | assumption | omega)), (show ((0 : Int)) = 0 from by (first | omega | (simp only [st_s] <;> omega) | assumption | omega)), (show ((0 : Int)) = 0 from by (first | omega | (simp only [st_s] <;> omega) | assumption | omega))⟩
set_option maxHeartbeats 1000000 in
theorem K_X13_wrong {n1 : Int} {σ : S0} (hT : m_T σ) (p1 : 1 ≤ n1) (p2 : n1 ≤ 19) : W_X13_wrong n1 σ (fun (τ : S0) => (m_T τ) ∧ (¬ (τ.1 35) = 0) ∧ (¬ (σ.1 35) = 0 → (τ.1 35) = (σ.1 35))) := by
  have v35 : 0 ≤ σ.1 35 ∧ σ.1 35 ≤ 19 := hT.1 35
  intro P16 h16
  refine ⟨fun c1 => ?_, fun c1 => ?_⟩
  ·
    refine h16 _ _ ?_
    replace hT := mT_v (i := 35) hT (show 0 ≤ (σ.1 35) ∧ (σ.1 35) ≤ 19 from by (first | omega | (simp only [st_s] <;> omega) | assumption | omega))
    exact ⟨hT, (show ¬ ((σ.1 35)) = 0 from by (first | omega | (simp only [st_s] <;> omega) | assumption | omega)), (show ¬ (σ.1 35) = 0 → ((σ.1 35)) = (σ.1 35) from by (first | omega | (simp only [st_s] <;> omega) | assumption | omega))⟩
  ·
    refine h16 _ _ ?_
    replace hT := mT_v (i := 35) hT (show 0 ≤ n1 ∧ n1 ≤ 19 from by (first | omega | (simp only [st_s] <;> omega) | assumption | omega))
    exact ⟨hT, (show ¬ (n1) = 0 from by (first | omega | (simp only [st_s] <;> omega) | assumption | omega)), (show ¬ (σ.1 35) = 0 → (n1) = (σ.1 35) from by (first | omega | (simp only [st_s] <;> omega) | assumption | omega))⟩
set_option maxHeartbeats 1000000 in
theorem K_X13_replace {n1 : Int} {σ : S0} (hT : m_T σ) (p1 : 0 ≤ n1) (p2 : n1 < 1500) : W_X13_replace n1 σ (fun (τ : S0) => (m_T τ) ∧ (0 ≤ (τ.1 34))) := by
  have v34 : 0 ≤ σ.1 34 ∧ σ.1 34 ≤ 1001 := hT.1 34
  intro P12 P60 P112 h12 h60 h112
  have l_12 : ∀ (m_12 : Nat) (u2_12 : Int) (τ_12 : S0), 30301 - u2_12 < (m_12 : Int) → (m_T τ_12) → (0 ≤ u2_12) → (u2_12 ≤ 30300) → P12 n1 u2_12 τ_12 := by
    intro m_12
    induction m_12 with
    | zero =>
      intro u2_12 τ_12 hm hT i12_1 i12_2
      have v34 : 0 ≤ τ_12.1 34 ∧ τ_12.1 34 ≤ 1001 := hT.1 34
      exfalso; (first | omega | (simp only [st_s] <;> omega) | assumption | omega)
    | succ m_12 ih_12 =>
      intro u2_12 τ_12 hm_12 hT i12_1 i12_2
      have v34 : 0 ≤ τ_12.1 34 ∧ τ_12.1 34 ≤ 1001 := hT.1 34
      have l_60 : ∀ (m_60 : Nat) (u2_60 : Int) (u3_60 : Int) (u4_60 : Int) (u5_60 : Int) (τ_60 : S0), u4_60 - u5_60 + 1 < (m_60 : Int) → (m_T τ_60) → (0 ≤ u2_60) → (u2_60 < 30300) → (0 ≤ u3_60) → (u3_60 < 1000) → (0 ≤ u4_60) → (u4_60 ≤ 1000) → (0 ≤ u5_60) → (u5_60 ≤ u4_60) → (u2_60 + (m_12 : Int) ≥ 30301) → P60 n1 u2_60 u3_60 u4_60 u5_60 τ_60 := by
        intro m_60
        induction m_60 with
        | zero =>
          intro u2_60 u3_60 u4_60 u5_60 τ_60 hm hT i60_1 i60_2 i60_3 i60_4 i60_5 i60_6 i60_7 i60_8 i60_9
          have v34 : 0 ≤ τ_60.1 34 ∧ τ_60.1 34 ≤ 1001 := hT.1 34
          exfalso; (first | omega | (simp only [st_s] <;> omega) | assumption | omega)
        | succ m_60 ih_60 =>
          intro u2_60 u3_60 u4_60 u5_60 τ_60 hm_60 hT i60_1 i60_2 i60_3 i60_4 i60_5 i60_6 i60_7 i60_8 i60_9
          have v34 : 0 ≤ τ_60.1 34 ∧ τ_60.1 34 ≤ 1001 := hT.1 34
          refine h60 n1 u2_60 u3_60 u4_60 u5_60 τ_60 ?_
          refine ⟨fun c14 => ?_, fun c14 => ?_⟩
          ·
            refine ⟨(⟨by (first | omega | (simp only [st_s] <;> omega) | assumption | omega), by (first | omega | (simp only [st_s] <;> omega) | assumption | omega)⟩ : rg (u2_60 + 1)), ?_⟩
            exact ih_12 _ _ (show (30301 - (u2_60 + 1) : Int) < ((m_12 : Nat) : Int) from by ((first | omega | (simp only [st_s] <;> omega) | assumption | omega))) hT (show 0 ≤ (u2_60 + 1) from by (first | omega | (simp only [st_s] <;> omega) | assumption | omega)) (show (u2_60 + 1) ≤ 30300 from by (first | omega | (simp only [st_s] <;> omega) | assumption | omega))
          ·
            refine ⟨fun c16 => ?_, fun c16 => ?_⟩
            ·
              refine ⟨(⟨by (first | omega | (simp only [st_s] <;> omega) | assumption | omega), by (first | omega | (simp only [st_s] <;> omega) | assumption | omega)⟩ : rg (u2_60 + 1)), ?_⟩
              exact ih_12 _ _ (show (30301 - (u2_60 + 1) : Int) < ((m_12 : Nat) : Int) from by ((first | omega | (simp only [st_s] <;> omega) | assumption | omega))) hT (show 0 ≤ (u2_60 + 1) from by (first | omega | (simp only [st_s] <;> omega) | assumption | omega)) (show (u2_60 + 1) ≤ 30300 from by (first | omega | (simp only [st_s] <;> omega) | assumption | omega))
            ·
              refine ⟨(show 0 ≤ u3_60 ∧ u3_60 < 1001 from by (first | omega | (simp only [st_s] <;> omega) | assumption | omega)), ?_⟩
              intro x19 r_x19 e_x19
              have b_x19 : 0 ≤ x19 ∧ x19 ≤ 1 := by rw [e_x19]; exact hT.2 8 _
              refine ⟨fun c20 => ?_, fun c20 => ?_⟩
              ·
                refine h112 _ _ _ _ _ _ _ _ ?_
                refine ⟨(show 0 ≤ (τ_60.1 34) ∧ (τ_60.1 34) < 1002 from by (first | omega | (simp only [st_s] <;> omega) | assumption | omega)), ?_⟩
                replace hT := mT_a (k := 50) (j := (τ_60.1 34)) hT (show (0 : Int) ≤ u3_60 ∧ u3_60 ≤ 999 from by (first | omega | (simp only [st_s] <;> omega) | assumption | omega))
                refine ⟨(⟨by (first | omega | (simp only [st_s] <;> omega) | assumption | omega), by (first | omega | (simp only [st_s] <;> omega) | assumption | omega)⟩ : rg (τ_60.1 34 + 1)), ?_⟩
                replace hT := mT_v (i := 34) hT (show 0 ≤ (τ_60.1 34 + 1) ∧ (τ_60.1 34 + 1) ≤ 1001 from by (first | omega | (simp only [st_s] <;> omega) | assumption | omega))
                refine ⟨(⟨by (first | omega | (simp only [st_s] <;> omega) | assumption | omega), by (first | omega | (simp only [st_s] <;> omega) | assumption | omega)⟩ : rg (u5_60 + 1)), ?_⟩
                exact ih_60 _ _ _ _ _ (show (u4_60 - (u5_60 + 1) + 1 : Int) < ((m_60 : Nat) : Int) from by ((first | omega | (simp only [st_s] <;> omega) | assumption | omega))) hT (show 0 ≤ u2_60 from by (first | omega | (simp only [st_s] <;> omega) | assumption | omega)) (show u2_60 < 30300 from by (first | omega | (simp only [st_s] <;> omega) | assumption | omega)) (show 0 ≤ u3_60 from by (first | omega | (simp only [st_s] <;> omega) | assumption | omega)) (show u3_60 < 1000 from by (first | omega | (simp only [st_s] <;> omega) | assumption | omega)) (show 0 ≤ u4_60 from by (first | omega | (simp only [st_s] <;> omega) | assumption | omega)) (show u4_60 ≤ 1000 from by (first | omega | (simp only [st_s] <;> omega) | assumption | omega)) (show 0 ≤ (u5_60 + 1) from by (first | omega | (simp only [st_s] <;> omega) | assumption | omega)) (show (u5_60 + 1) ≤ u4_60 from by (first | omega | (simp only [st_s] <;> omega) | assumption | omega)) (show u2_60 + (m_12 : Int) ≥ 30301 from by (first | omega | (simp only [st_s] <;> omega) | assumption | omega))
              ·
                intro x21 r_x21 e_x21
                have b_x21 : 0 ≤ x21 ∧ x21 ≤ 40001 := by rw [e_x21]; exact hT.2 48 _
                refine ⟨(show 0 ≤ (x21 + u5_60) ∧ (x21 + u5_60) < 42000 from by (first | omega | (simp only [st_s] <;> omega) | assumption | omega)), ?_⟩
                intro x23 r_x23 e_x23
                have b_x23 : 0 ≤ x23 ∧ x23 ≤ 999 := by rw [e_x23]; exact hT.2 43 _
                refine h112 _ _ _ _ _ _ _ _ ?_
                refine ⟨(show 0 ≤ (τ_60.1 34) ∧ (τ_60.1 34) < 1002 from by (first | omega | (simp only [st_s] <;> omega) | assumption | omega)), ?_⟩
                replace hT := mT_a (k := 50) (j := (τ_60.1 34)) hT (show (0 : Int) ≤ x23 ∧ x23 ≤ 999 from by (first | omega | (simp only [st_s] <;> omega) | assumption | omega))
                refine ⟨(⟨by (first | omega | (simp only [st_s] <;> omega) | assumption | omega), by (first | omega | (simp only [st_s] <;> omega) | assumption | omega)⟩ : rg (τ_60.1 34 + 1)), ?_⟩
                replace hT := mT_v (i := 34) hT (show 0 ≤ (τ_60.1 34 + 1) ∧ (τ_60.1 34 + 1) ≤ 1001 from by (first | omega | (simp only [st_s] <;> omega) | assumption | omega))
                refine ⟨(⟨by (first | omega | (simp only [st_s] <;> omega) | assumption | omega), by (first | omega | (simp only [st_s] <;> omega) | assumption | omega)⟩ : rg (u5_60 + 1)), ?_⟩
                exact ih_60 _ _ _ _ _ (show (u4_60 - (u5_60 + 1) + 1 : Int) < ((m_60 : Nat) : Int) from by ((first | omega | (simp only [st_s] <;> omega) | assumption | omega))) hT (show 0 ≤ u2_60 from by (first | omega | (simp only [st_s] <;> omega) | assumption | omega)) (show u2_60 < 30300 from by (first | omega | (simp only [st_s] <;> omega) | assumption | omega)) (show 0 ≤ u3_60 from by (first | omega | (simp only [st_s] <;> omega) | assumption | omega)) (show u3_60 < 1000 from by (first | omega | (simp only [st_s] <;> omega) | assumption | omega)) (show 0 ≤ u4_60 from by (first | omega | (simp only [st_s] <;> omega) | assumption | omega)) (show u4_60 ≤ 1000 from by (first | omega | (simp only [st_s] <;> omega) | assumption | omega)) (show 0 ≤ (u5_60 + 1) from by (first | omega | (simp only [st_s] <;> omega) | assumption | omega)) (show (u5_60 + 1) ≤ u4_60 from by (first | omega | (simp only [st_s] <;> omega) | assumption | omega)) (show u2_60 + (m_12 : Int) ≥ 30301 from by (first | omega | (simp only [st_s] <;> omega) | assumption | omega))
      refine h12 n1 u2_12 τ_12 ?_
      refine ⟨(show 0 ≤ n1 ∧ n1 < 1501 from by (first | omega | (simp only [st_s] <;> omega) | assumption | omega)), ?_⟩
      intro x4 r_x4 e_x4
      have b_x4 : 0 ≤ x4 ∧ x4 ≤ 30000 := by rw [e_x4]; exact hT.2 14 _
      intro x5 r_x5 e_x5
      have b_x5 : 0 ≤ x5 ∧ x5 ≤ 300 := by rw [e_x5]; exact hT.2 15 _
      refine ⟨(⟨by (first | omega | (simp only [st_s] <;> omega) | assumption | omega), by (first | omega | (simp only [st_s] <;> omega) | assumption | omega)⟩ : rg (x4 + x5)), ?_⟩
      refine ⟨fun c7 => ?_, fun c7 => ?_⟩
      ·
        exact ⟨hT, (show 0 ≤ (τ_12.1 34) from by (first | omega | (simp only [st_s] <;> omega) | assumption | omega))⟩
      ·
        refine ⟨(show 0 ≤ u2_12 ∧ u2_12 < 30400 from by (first | omega | (simp only [st_s] <;> omega) | assumption | omega)), ?_⟩
        intro x9 r_x9 e_x9
        have b_x9 : 0 ≤ x9 ∧ x9 ≤ 999 := by rw [e_x9]; exact hT.2 16 _
        refine ⟨(show 0 ≤ x9 ∧ x9 < 1001 from by (first | omega | (simp only [st_s] <;> omega) | assumption | omega)), ?_⟩
        intro x11 r_x11 e_x11
        have b_x11 : 0 ≤ x11 ∧ x11 ≤ 1 := by rw [e_x11]; exact hT.2 8 _
        refine ⟨fun c12 => ?_, fun c12 => ?_⟩
        ·
          exact l_60 ((1 - 0 + 1 : Int).toNat + 1) _ _ _ _ _ (show (1 - 0 + 1 : Int) < (((1 - 0 + 1 : Int).toNat + 1 : Nat) : Int) from by ((first | omega | (simp only [st_s] <;> omega) | assumption | omega))) hT (show 0 ≤ u2_12 from by (first | omega | (simp only [st_s] <;> omega) | assumption | omega)) (show u2_12 < 30300 from by (first | omega | (simp only [st_s] <;> omega) | assumption | omega)) (show 0 ≤ x9 from by (first | omega | (simp only [st_s] <;> omega) | assumption | omega)) (show x9 < 1000 from by (first | omega | (simp only [st_s] <;> omega) | assumption | omega)) (show 0 ≤ 1 from by (first | omega | (simp only [st_s] <;> omega) | assumption | omega)) (show 1 ≤ 1000 from by (first | omega | (simp only [st_s] <;> omega) | assumption | omega)) (show 0 ≤ 0 from by (first | omega | (simp only [st_s] <;> omega) | assumption | omega)) (show 0 ≤ 1 from by (first | omega | (simp only [st_s] <;> omega) | assumption | omega)) (show u2_12 + (m_12 : Int) ≥ 30301 from by (first | omega | (simp only [st_s] <;> omega) | assumption | omega))
        ·
          intro x13 r_x13 e_x13
          have b_x13 : 0 ≤ x13 ∧ x13 ≤ 1000 := by rw [e_x13]; exact hT.2 49 _
          exact l_60 ((x13 - 0 + 1 : Int).toNat + 1) _ _ _ _ _ (show (x13 - 0 + 1 : Int) < (((x13 - 0 + 1 : Int).toNat + 1 : Nat) : Int) from by ((first | omega | (simp only [st_s] <;> omega) | assumption | omega))) hT (show 0 ≤ u2_12 from by (first | omega | (simp only [st_s] <;> omega) | assumption | omega)) (show u2_12 < 30300 from by (first | omega | (simp only [st_s] <;> omega) | assumption | omega)) (show 0 ≤ x9 from by (first | omega | (simp only [st_s] <;> omega) | assumption | omega)) (show x9 < 1000 from by (first | omega | (simp only [st_s] <;> omega) | assumption | omega)) (show 0 ≤ x13 from by (first | omega | (simp only [st_s] <;> omega) | assumption | omega)) (show x13 ≤ 1000 from by (first | omega | (simp only [st_s] <;> omega) | assumption | omega)) (show 0 ≤ 0 from by (first | omega | (simp only [st_s] <;> omega) | assumption | omega)) (show 0 ≤ x13 from by (first | omega | (simp only [st_s] <;> omega) | assumption | omega)) (show u2_12 + (m_12 : Int) ≥ 30301 from by (first | omega | (simp only [st_s] <;> omega) | assumption | omega))
  replace hT := mT_v (i := 34) hT (show (0 : Int) ≤ 0 ∧ 0 ≤ 1001 from by (first | omega | (simp only [st_s] <;> omega) | assumption | omega))
  refine ⟨(show 0 ≤ n1 ∧ n1 < 1501 from by (first | omega | (simp only [st_s] <;> omega) | assumption | omega)), ?_⟩
  intro x2 r_x2 e_x2
  have b_x2 : 0 ≤ x2 ∧ x2 ≤ 30000 := by rw [e_x2]; exact hT.2 14 _
  exact l_12 ((30301 - x2 : Int).toNat + 1) _ _ (show (30301 - x2 : Int) < (((30301 - x2 : Int).toNat + 1 : Nat) : Int) from by ((first | omega | (simp only [st_s] <;> omega) | assumption | omega))) hT (show 0 ≤ x2 from by (first | omega | (simp only [st_s] <;> omega) | assumption | omega)) (show x2 ≤ 30300 from by (first | omega | (simp only [st_s] <;> omega) | assumption | omega))
set_option maxHeartbeats 1000000 in
theorem K_X13_isMade {n1 : Int} {n2 : Int} {σ : S0} (hT : m_T σ) (p1 : 0 ≤ n1) (p2 : n1 ≤ 40000) : W_X13_isMade n1 n2 σ (fun (x : Int) => (0 ≤ x ∧ x ≤ 1)) := by
  have v34 : 0 ≤ σ.1 34 ∧ σ.1 34 ≤ 1001 := hT.1 34
  intro P12 h12
  have l_12 : ∀ (m_12 : Nat) (u3_12 : Int), 1002 - u3_12 < (m_12 : Int) → (0 ≤ u3_12) → (n2 = (σ.1 34)) → (u3_12 ≤ 1001) → P12 n1 n2 u3_12 := by
    intro m_12
    induction m_12 with
    | zero =>
      intro u3_12 hm i12_1 i12_2 i12_3
      exfalso; (first | omega | (simp only [st_s] <;> omega) | assumption | omega)
    | succ m_12 ih_12 =>
      intro u3_12 hm_12 i12_1 i12_2 i12_3
      refine h12 n1 n2 u3_12 ?_
      refine ⟨fun c2 => ?_, fun c2 => ?_⟩
      ·
        exact (show 0 ≤ 1 ∧ 1 ≤ 1 from by (first | omega | (simp only [st_s] <;> omega) | assumption | omega))
      ·
        refine ⟨(show 0 ≤ u3_12 ∧ u3_12 < 1002 from by (first | omega | (simp only [st_s] <;> omega) | assumption | omega)), ?_⟩
        intro x4 r_x4 e_x4
        have b_x4 : 0 ≤ x4 ∧ x4 ≤ 999 := by rw [e_x4]; exact hT.2 50 _
        refine ⟨(show 0 ≤ (n1 + u3_12) ∧ (n1 + u3_12) < 42000 from by (first | omega | (simp only [st_s] <;> omega) | assumption | omega)), ?_⟩
        intro x6 r_x6 e_x6
        have b_x6 : 0 ≤ x6 ∧ x6 ≤ 999 := by rw [e_x6]; exact hT.2 43 _
        refine ⟨fun c7 => ?_, fun c7 => ?_⟩
        ·
          refine ⟨(⟨by (first | omega | (simp only [st_s] <;> omega) | assumption | omega), by (first | omega | (simp only [st_s] <;> omega) | assumption | omega)⟩ : rg (u3_12 + 1)), ?_⟩
          exact ih_12 _ (show (1002 - (u3_12 + 1) : Int) < ((m_12 : Nat) : Int) from by ((first | omega | (simp only [st_s] <;> omega) | assumption | omega))) (show 0 ≤ (u3_12 + 1) from by (first | omega | (simp only [st_s] <;> omega) | assumption | omega)) (show n2 = (σ.1 34) from by (first | omega | (simp only [st_s] <;> omega) | assumption | omega)) (show (u3_12 + 1) ≤ 1001 from by (first | omega | (simp only [st_s] <;> omega) | assumption | omega))
        ·
          exact (show 0 ≤ 0 ∧ 0 ≤ 1 from by (first | omega | (simp only [st_s] <;> omega) | assumption | omega))
  refine ⟨fun c1 => ?_, fun c1 => ?_⟩
  ·
    exact l_12 ((1002 - 0 : Int).toNat + 1) _ (show (1002 - 0 : Int) < (((1002 - 0 : Int).toNat + 1 : Nat) : Int) from by ((first | omega | (simp only [st_s] <;> omega) | assumption | omega))) (show 0 ≤ 0 from by (first | omega | (simp only [st_s] <;> omega) | assumption | omega)) (show n2 = (σ.1 34) from by (first | omega | (simp only [st_s] <;> omega) | assumption | omega)) (show 0 ≤ 1001 from by (first | omega | (simp only [st_s] <;> omega) | assumption | omega))
  ·
    exact (show 0 ≤ 0 ∧ 0 ≤ 1 from by (first | omega | (simp only [st_s] <;> omega) | assumption | omega))
set_option maxHeartbeats 1000000 in
theorem K_X13_areKept {n1 : Int} {n2 : Int} {σ : S0} (hT : m_T σ) (p1 : 0 ≤ n1) (p2 : n1 < 1000) (p3 : 0 ≤ n2) (p4 : n2 < 1000) : W_X13_areKept n1 n2 σ (fun (x : Int) => (0 ≤ x ∧ x ≤ 1)) := by
  intro P2 P30 h2 h30
  have l_2 : ∀ (m_2 : Nat) (u3_2 : Int), 1001 - u3_2 < (m_2 : Int) → (0 ≤ u3_2) → (u3_2 ≤ 1000) → P2 n1 n2 u3_2 := by
    intro m_2
    induction m_2 with
    | zero =>
      intro u3_2 hm i2_1 i2_2
      exfalso; (first | omega | (simp only [st_s] <;> omega) | assumption | omega)
    | succ m_2 ih_2 =>
      intro u3_2 hm_2 i2_1 i2_2
      have l_30 : ∀ (m_30 : Nat) (u3_30 : Int) (u4_30 : Int) (u5_30 : Int), 1001 - u5_30 < (m_30 : Int) → (0 ≤ u3_30) → (u3_30 < 1000) → (0 ≤ u4_30) → (u4_30 ≤ 999) → (0 ≤ u5_30) → (u5_30 ≤ 1000) → (u3_30 + (m_2 : Int) ≥ 1001) → P30 n1 n2 u3_30 u4_30 u5_30 := by
        intro m_30
        induction m_30 with
        | zero =>
          intro u3_30 u4_30 u5_30 hm i30_1 i30_2 i30_3 i30_4 i30_5 i30_6 i30_7
          exfalso; (first | omega | (simp only [st_s] <;> omega) | assumption | omega)
        | succ m_30 ih_30 =>
          intro u3_30 u4_30 u5_30 hm_30 i30_1 i30_2 i30_3 i30_4 i30_5 i30_6 i30_7
          refine h30 n1 n2 u3_30 u4_30 u5_30 ?_
          refine ⟨(show 0 ≤ n2 ∧ n2 < 1001 from by (first | omega | (simp only [st_s] <;> omega) | assumption | omega)), ?_⟩
          intro x8 r_x8 e_x8
          have b_x8 : 0 ≤ x8 ∧ x8 ≤ 1000 := by rw [e_x8]; exact hT.2 49 _
          refine ⟨fun c9 => ?_, fun c9 => ?_⟩
          ·
            refine ⟨(⟨by (first | omega | (simp only [st_s] <;> omega) | assumption | omega), by (first | omega | (simp only [st_s] <;> omega) | assumption | omega)⟩ : rg (u3_30 + 1)), ?_⟩
            exact ih_2 _ (show (1001 - (u3_30 + 1) : Int) < ((m_2 : Nat) : Int) from by ((first | omega | (simp only [st_s] <;> omega) | assumption | omega))) (show 0 ≤ (u3_30 + 1) from by (first | omega | (simp only [st_s] <;> omega) | assumption | omega)) (show (u3_30 + 1) ≤ 1000 from by (first | omega | (simp only [st_s] <;> omega) | assumption | omega))
          ·
            refine ⟨(show 0 ≤ u4_30 ∧ u4_30 < 1001 from by (first | omega | (simp only [st_s] <;> omega) | assumption | omega)), ?_⟩
            intro x12 r_x12 e_x12
            have b_x12 : 0 ≤ x12 ∧ x12 ≤ 1 := by rw [e_x12]; exact hT.2 8 _
            refine ⟨fun c13 => ?_, fun c13 => ?_⟩
            ·
              refine ⟨(⟨by (first | omega | (simp only [st_s] <;> omega) | assumption | omega), by (first | omega | (simp only [st_s] <;> omega) | assumption | omega)⟩ : rg (u3_30 + 1)), ?_⟩
              exact ih_2 _ (show (1001 - (u3_30 + 1) : Int) < ((m_2 : Nat) : Int) from by ((first | omega | (simp only [st_s] <;> omega) | assumption | omega))) (show 0 ≤ (u3_30 + 1) from by (first | omega | (simp only [st_s] <;> omega) | assumption | omega)) (show (u3_30 + 1) ≤ 1000 from by (first | omega | (simp only [st_s] <;> omega) | assumption | omega))
            ·
              intro x15 r_x15 e_x15
              have b_x15 : 0 ≤ x15 ∧ x15 ≤ 40001 := by rw [e_x15]; exact hT.2 48 _
              refine ⟨(show 0 ≤ (x15 + u5_30) ∧ (x15 + u5_30) < 42000 from by (first | omega | (simp only [st_s] <;> omega) | assumption | omega)), ?_⟩
              intro x17 r_x17 e_x17
              have b_x17 : 0 ≤ x17 ∧ x17 ≤ 999 := by rw [e_x17]; exact hT.2 43 _
              refine ⟨(show 0 ≤ x17 ∧ x17 < 1001 from by (first | omega | (simp only [st_s] <;> omega) | assumption | omega)), ?_⟩
              intro x19 r_x19 e_x19
              have b_x19 : 0 ≤ x19 ∧ x19 ≤ 1 := by rw [e_x19]; exact hT.2 8 _
              refine ⟨fun c20 => ?_, fun c20 => ?_⟩
              ·
                refine ⟨(⟨by (first | omega | (simp only [st_s] <;> omega) | assumption | omega), by (first | omega | (simp only [st_s] <;> omega) | assumption | omega)⟩ : rg (u5_30 + 1)), ?_⟩
                exact ih_30 _ _ _ (show (1001 - (u5_30 + 1) : Int) < ((m_30 : Nat) : Int) from by ((first | omega | (simp only [st_s] <;> omega) | assumption | omega))) (show 0 ≤ u3_30 from by (first | omega | (simp only [st_s] <;> omega) | assumption | omega)) (show u3_30 < 1000 from by (first | omega | (simp only [st_s] <;> omega) | assumption | omega)) (show 0 ≤ u4_30 from by (first | omega | (simp only [st_s] <;> omega) | assumption | omega)) (show u4_30 ≤ 999 from by (first | omega | (simp only [st_s] <;> omega) | assumption | omega)) (show 0 ≤ (u5_30 + 1) from by (first | omega | (simp only [st_s] <;> omega) | assumption | omega)) (show (u5_30 + 1) ≤ 1000 from by (first | omega | (simp only [st_s] <;> omega) | assumption | omega)) (show u3_30 + (m_2 : Int) ≥ 1001 from by (first | omega | (simp only [st_s] <;> omega) | assumption | omega))
              ·
                refine ⟨fun c22 => ?_, fun c22 => ?_⟩
                ·
                  exact (show 0 ≤ 0 ∧ 0 ≤ 1 from by (first | omega | (simp only [st_s] <;> omega) | assumption | omega))
                ·
                  refine ⟨_, K_X13_areApart hT (show 0 ≤ u4_30 from by (first | omega | (simp only [st_s] <;> omega) | assumption | omega)) (show u4_30 < 1000 from by (first | omega | (simp only [st_s] <;> omega) | assumption | omega)) (show 0 ≤ x17 from by (first | omega | (simp only [st_s] <;> omega) | assumption | omega)) (show x17 < 1000 from by (first | omega | (simp only [st_s] <;> omega) | assumption | omega)), ?_⟩
                  intro x24 r_x24 hq
                  have q23_1 := hq
                  replace q23_1 : 0 ≤ x24 ∧ x24 ≤ 1 := q23_1
                  refine ⟨fun c26 => ?_, fun c26 => ?_⟩
                  ·
                    refine ⟨(⟨by (first | omega | (simp only [st_s] <;> omega) | assumption | omega), by (first | omega | (simp only [st_s] <;> omega) | assumption | omega)⟩ : rg (u5_30 + 1)), ?_⟩
                    exact ih_30 _ _ _ (show (1001 - (u5_30 + 1) : Int) < ((m_30 : Nat) : Int) from by ((first | omega | (simp only [st_s] <;> omega) | assumption | omega))) (show 0 ≤ u3_30 from by (first | omega | (simp only [st_s] <;> omega) | assumption | omega)) (show u3_30 < 1000 from by (first | omega | (simp only [st_s] <;> omega) | assumption | omega)) (show 0 ≤ u4_30 from by (first | omega | (simp only [st_s] <;> omega) | assumption | omega)) (show u4_30 ≤ 999 from by (first | omega | (simp only [st_s] <;> omega) | assumption | omega)) (show 0 ≤ (u5_30 + 1) from by (first | omega | (simp only [st_s] <;> omega) | assumption | omega)) (show (u5_30 + 1) ≤ 1000 from by (first | omega | (simp only [st_s] <;> omega) | assumption | omega)) (show u3_30 + (m_2 : Int) ≥ 1001 from by (first | omega | (simp only [st_s] <;> omega) | assumption | omega))
                  ·
                    exact (show 0 ≤ 0 ∧ 0 ≤ 1 from by (first | omega | (simp only [st_s] <;> omega) | assumption | omega))
      refine h2 n1 n2 u3_2 ?_
      refine ⟨(show 0 ≤ n1 ∧ n1 < 1001 from by (first | omega | (simp only [st_s] <;> omega) | assumption | omega)), ?_⟩
      intro x2 r_x2 e_x2
      have b_x2 : 0 ≤ x2 ∧ x2 ≤ 1000 := by rw [e_x2]; exact hT.2 49 _
      refine ⟨fun c3 => ?_, fun c3 => ?_⟩
      ·
        exact (show 0 ≤ 1 ∧ 1 ≤ 1 from by (first | omega | (simp only [st_s] <;> omega) | assumption | omega))
      ·
        intro x4 r_x4 e_x4
        have b_x4 : 0 ≤ x4 ∧ x4 ≤ 40001 := by rw [e_x4]; exact hT.2 48 _
        refine ⟨(show 0 ≤ (x4 + u3_2) ∧ (x4 + u3_2) < 42000 from by (first | omega | (simp only [st_s] <;> omega) | assumption | omega)), ?_⟩
        intro x6 r_x6 e_x6
        have b_x6 : 0 ≤ x6 ∧ x6 ≤ 999 := by rw [e_x6]; exact hT.2 43 _
        exact l_30 ((1001 - 0 : Int).toNat + 1) _ _ _ (show (1001 - 0 : Int) < (((1001 - 0 : Int).toNat + 1 : Nat) : Int) from by ((first | omega | (simp only [st_s] <;> omega) | assumption | omega))) (show 0 ≤ u3_2 from by (first | omega | (simp only [st_s] <;> omega) | assumption | omega)) (show u3_2 < 1000 from by (first | omega | (simp only [st_s] <;> omega) | assumption | omega)) (show 0 ≤ x6 from by (first | omega | (simp only [st_s] <;> omega) | assumption | omega)) (show x6 ≤ 999 from by (first | omega | (simp only [st_s] <;> omega) | assumption | omega)) (show 0 ≤ 0 from by (first | omega | (simp only [st_s] <;> omega) | assumption | omega)) (show 0 ≤ 1000 from by (first | omega | (simp only [st_s] <;> omega) | assumption | omega)) (show u3_2 + (m_2 : Int) ≥ 1001 from by (first | omega | (simp only [st_s] <;> omega) | assumption | omega))
  exact l_2 ((1001 - 0 : Int).toNat + 1) _ (show (1001 - 0 : Int) < (((1001 - 0 : Int).toNat + 1 : Nat) : Int) from by ((first | omega | (simp only [st_s] <;> omega) | assumption | omega))) (show 0 ≤ 0 from by (first | omega | (simp only [st_s] <;> omega) | assumption | omega)) (show 0 ≤ 1000 from by (first | omega | (simp only [st_s] <;> omega) | assumption | omega))
set_option maxHeartbeats 1000000 in
theorem K_X13_pushRow_q53 {n2 : Int} {n3 : Int} {n4 : Int} {σ : S0} (hT : m_T σ) (p1 : 0 ≤ n2) (p2 : n2 ≤ 0) (p3 : 0 ≤ n3) (p4 : 0 ≤ n4) (p5 : n4 ≤ 20000) (p6 : n3 ≤ 1001) : W_X13_pushRow_q53 n2 n3 n4 σ (fun (τ : S0) => (m_T τ) ∧ ((σ.1 35) = 0 → (τ.1 35) = 0 → (τ.1 30) = (σ.1 30) + 1 ∧ 1 ≤ (τ.1 30)) ∧ (¬ (σ.1 35) = 0 → (τ.1 35) = (σ.1 35))) := by
  have v30 : 0 ≤ σ.1 30 ∧ σ.1 30 ≤ 200 := hT.1 30
  have v31 : 0 ≤ σ.1 31 ∧ σ.1 31 ≤ 40000 := hT.1 31
  have v33 : 0 ≤ σ.1 33 ∧ σ.1 33 ≤ 40000 := hT.1 33
  have v35 : 0 ≤ σ.1 35 ∧ σ.1 35 ≤ 19 := hT.1 35
  have W33 : σ.1 33 = σ.1 33 := rfl
  intro P34 P43 h34 h43
  have l_43 : ∀ (m_43 : Nat) (u5_43 : Int) (τ_43 : S0), n3 - u5_43 + 1 < (m_43 : Int) → (m_T τ_43) → (τ_43.1 33 = σ.1 33) → (n3 ≤ 1000) → ((τ_43.1 30) = (σ.1 30)) → ((τ_43.1 31) = (σ.1 31)) → ((τ_43.1 35) = (σ.1 35)) → ((τ_43.1 31) + (τ_43.1 33) + n3 ≤ 40000) → (¬ (τ_43.1 30) = 200) → (0 ≤ u5_43) → (u5_43 ≤ n3) → P43 n2 n3 n4 u5_43 τ_43 := by
    intro m_43
    induction m_43 with
    | zero =>
      intro u5_43 τ_43 hm hT W33 i43_1 i43_2 i43_3 i43_4 i43_5 i43_6 i43_7 i43_8
      have v30 : 0 ≤ τ_43.1 30 ∧ τ_43.1 30 ≤ 200 := hT.1 30
      have v31 : 0 ≤ τ_43.1 31 ∧ τ_43.1 31 ≤ 40000 := hT.1 31
      have v33 : 0 ≤ τ_43.1 33 ∧ τ_43.1 33 ≤ 40000 := hT.1 33
      have v35 : 0 ≤ τ_43.1 35 ∧ τ_43.1 35 ≤ 19 := hT.1 35
      exfalso; (first | omega | (simp only [st_s] <;> omega) | assumption | omega)
    | succ m_43 ih_43 =>
      intro u5_43 τ_43 hm_43 hT W33 i43_1 i43_2 i43_3 i43_4 i43_5 i43_6 i43_7 i43_8
      have v30 : 0 ≤ τ_43.1 30 ∧ τ_43.1 30 ≤ 200 := hT.1 30
      have v31 : 0 ≤ τ_43.1 31 ∧ τ_43.1 31 ≤ 40000 := hT.1 31
      have v33 : 0 ≤ τ_43.1 33 ∧ τ_43.1 33 ≤ 40000 := hT.1 33
      have v35 : 0 ≤ τ_43.1 35 ∧ τ_43.1 35 ≤ 19 := hT.1 35
      refine h43 n2 n3 n4 u5_43 τ_43 ?_
      refine ⟨fun c8 => ?_, fun c8 => ?_⟩
      ·
        refine ⟨(show 0 ≤ τ_43.1 30 ∧ τ_43.1 30 < 202 from by (first | omega | (simp only [st_s] <;> omega) | assumption | omega)), ?_⟩
        replace hT := mT_a (k := 40) (j := (τ_43.1 30)) hT (show (0 : Int) ≤ (τ_43.1 31) ∧ (τ_43.1 31) ≤ 40000 from by (first | omega | (simp only [st_s] <;> omega) | assumption | omega))
        replace hT := mT_a (k := 41) (j := (τ_43.1 30)) hT (show (0 : Int) ≤ n3 ∧ n3 ≤ 1000 from by (first | omega | (simp only [st_s] <;> omega) | assumption | omega))
        replace hT := mT_a (k := 42) (j := (τ_43.1 30)) hT (show (0 : Int) ≤ n4 ∧ n4 ≤ 20000 from by (first | omega | (simp only [st_s] <;> omega) | assumption | omega))
        refine ⟨(⟨by (first | omega | (simp only [st_s] <;> omega) | assumption | omega), by (first | omega | (simp only [st_s] <;> omega) | assumption | omega)⟩ : rg (τ_43.1 31 + n3)), ?_⟩
        replace hT := mT_v (i := 31) hT (show 0 ≤ (τ_43.1 31 + n3) ∧ (τ_43.1 31 + n3) ≤ 40000 from by (first | omega | (simp only [st_s] <;> omega) | assumption | omega))
        refine ⟨(⟨by (first | omega | (simp only [st_s] <;> omega) | assumption | omega), by (first | omega | (simp only [st_s] <;> omega) | assumption | omega)⟩ : rg (τ_43.1 30 + 1)), ?_⟩
        replace hT := mT_v (i := 30) hT (show 0 ≤ (τ_43.1 30 + 1) ∧ (τ_43.1 30 + 1) ≤ 200 from by (first | omega | (simp only [st_s] <;> omega) | assumption | omega))
        exact ⟨hT, (show (σ.1 35) = 0 → (τ_43.1 35) = 0 → ((τ_43.1 30 + 1)) = (σ.1 30) + 1 ∧ 1 ≤ ((τ_43.1 30 + 1)) from by (first | omega | (simp only [st_s] <;> omega) | assumption | omega)), (show ¬ (σ.1 35) = 0 → (τ_43.1 35) = (σ.1 35) from by (first | omega | (simp only [st_s] <;> omega) | assumption | omega))⟩
      ·
        refine ⟨(show 0 ≤ (n2 + u5_43) ∧ (n2 + u5_43) < 1002 from by (first | omega | (simp only [st_s] <;> omega) | assumption | omega)), ?_⟩
        intro x13 r_x13 e_x13
        have b_x13 : 0 ≤ x13 ∧ x13 ≤ 999 := by rw [e_x13]; exact hT.2 50 _
        refine ⟨(show 0 ≤ (τ_43.1 31 + u5_43) ∧ (τ_43.1 31 + u5_43) < 42000 from by (first | omega | (simp only [st_s] <;> omega) | assumption | omega)), ?_⟩
        replace hT := mT_a (k := 43) (j := (τ_43.1 31 + u5_43)) hT (show (0 : Int) ≤ x13 ∧ x13 ≤ 999 from by (first | omega | (simp only [st_s] <;> omega) | assumption | omega))
        refine ⟨(⟨by (first | omega | (simp only [st_s] <;> omega) | assumption | omega), by (first | omega | (simp only [st_s] <;> omega) | assumption | omega)⟩ : rg (u5_43 + 1)), ?_⟩
        exact ih_43 _ _ (show (n3 - (u5_43 + 1) + 1 : Int) < ((m_43 : Nat) : Int) from by ((first | omega | (simp only [st_s] <;> omega) | assumption | omega))) hT (show τ_43.1 33 = σ.1 33 from by omega) (show n3 ≤ 1000 from by (first | omega | (simp only [st_s] <;> omega) | assumption | omega)) (show (τ_43.1 30) = (σ.1 30) from by (first | omega | (simp only [st_s] <;> omega) | assumption | omega)) (show (τ_43.1 31) = (σ.1 31) from by (first | omega | (simp only [st_s] <;> omega) | assumption | omega)) (show (τ_43.1 35) = (σ.1 35) from by (first | omega | (simp only [st_s] <;> omega) | assumption | omega)) (show (τ_43.1 31) + (τ_43.1 33) + n3 ≤ 40000 from by (first | omega | (simp only [st_s] <;> omega) | assumption | omega)) (show ¬ (τ_43.1 30) = 200 from by (first | omega | (simp only [st_s] <;> omega) | assumption | omega)) (show 0 ≤ (u5_43 + 1) from by (first | omega | (simp only [st_s] <;> omega) | assumption | omega)) (show (u5_43 + 1) ≤ n3 from by (first | omega | (simp only [st_s] <;> omega) | assumption | omega))
  refine ⟨fun c1 => ?_, fun c1 => ?_⟩
  ·
    refine h34 _ ?_
    refine ⟨_, K_X13_wrong hT (show 1 ≤ 5 from by (first | omega | (simp only [st_s] <;> omega) | assumption | omega)) (show 5 ≤ 19 from by (first | omega | (simp only [st_s] <;> omega) | assumption | omega)), ?_⟩
    intro τ7 hn_τ7 hf_τ7 hq
    obtain ⟨hT, q5_1, q5_2⟩ := hq
    replace q5_1 : ¬ (τ7.1 35) = 0 := q5_1
    replace q5_2 : ¬ (σ.1 35) = 0 → (τ7.1 35) = (σ.1 35) := q5_2
    have w30_τ7 : τ7.1 30 = σ.1 30 := hf_τ7.1 30 (by decide)
    have w31_τ7 : τ7.1 31 = σ.1 31 := hf_τ7.1 31 (by decide)
    have w33_τ7 : τ7.1 33 = σ.1 33 := hf_τ7.1 33 (by decide)
    have W33 : τ7.1 33 = σ.1 33 := by omega
    have v30 : 0 ≤ τ7.1 30 ∧ τ7.1 30 ≤ 200 := hT.1 30
    have v31 : 0 ≤ τ7.1 31 ∧ τ7.1 31 ≤ 40000 := hT.1 31
    have v33 : 0 ≤ τ7.1 33 ∧ τ7.1 33 ≤ 40000 := hT.1 33
    have v35 : 0 ≤ τ7.1 35 ∧ τ7.1 35 ≤ 19 := hT.1 35
    exact ⟨hT, (show (σ.1 35) = 0 → (τ7.1 35) = 0 → (τ7.1 30) = (σ.1 30) + 1 ∧ 1 ≤ (τ7.1 30) from by (first | omega | (simp only [st_s] <;> omega) | assumption | omega)), (show ¬ (σ.1 35) = 0 → (τ7.1 35) = (σ.1 35) from by (first | omega | (simp only [st_s] <;> omega) | assumption | omega))⟩
  ·
    refine ⟨fun c2 => ?_, fun c2 => ?_⟩
    ·
      refine h34 _ ?_
      refine ⟨_, K_X13_wrong hT (show 1 ≤ 5 from by (first | omega | (simp only [st_s] <;> omega) | assumption | omega)) (show 5 ≤ 19 from by (first | omega | (simp only [st_s] <;> omega) | assumption | omega)), ?_⟩
      intro τ7 hn_τ7 hf_τ7 hq
      obtain ⟨hT, q5_1, q5_2⟩ := hq
      replace q5_1 : ¬ (τ7.1 35) = 0 := q5_1
      replace q5_2 : ¬ (σ.1 35) = 0 → (τ7.1 35) = (σ.1 35) := q5_2
      have w30_τ7 : τ7.1 30 = σ.1 30 := hf_τ7.1 30 (by decide)
      have w31_τ7 : τ7.1 31 = σ.1 31 := hf_τ7.1 31 (by decide)
      have w33_τ7 : τ7.1 33 = σ.1 33 := hf_τ7.1 33 (by decide)
      have W33 : τ7.1 33 = σ.1 33 := by omega
      have v30 : 0 ≤ τ7.1 30 ∧ τ7.1 30 ≤ 200 := hT.1 30
      have v31 : 0 ≤ τ7.1 31 ∧ τ7.1 31 ≤ 40000 := hT.1 31
      have v33 : 0 ≤ τ7.1 33 ∧ τ7.1 33 ≤ 40000 := hT.1 33
      have v35 : 0 ≤ τ7.1 35 ∧ τ7.1 35 ≤ 19 := hT.1 35
      exact ⟨hT, (show (σ.1 35) = 0 → (τ7.1 35) = 0 → (τ7.1 30) = (σ.1 30) + 1 ∧ 1 ≤ (τ7.1 30) from by (first | omega | (simp only [st_s] <;> omega) | assumption | omega)), (show ¬ (σ.1 35) = 0 → (τ7.1 35) = (σ.1 35) from by (first | omega | (simp only [st_s] <;> omega) | assumption | omega))⟩
    ·
      refine ⟨(⟨by (first | omega | (simp only [st_s] <;> omega) | assumption | omega), by (first | omega | (simp only [st_s] <;> omega) | assumption | omega)⟩ : rg ((σ.1 31 + σ.1 33) + n3)), ?_⟩
      refine ⟨fun c4 => ?_, fun c4 => ?_⟩
      ·
        exact l_43 ((n3 - 0 + 1 : Int).toNat + 1) _ _ (show (n3 - 0 + 1 : Int) < (((n3 - 0 + 1 : Int).toNat + 1 : Nat) : Int) from by ((first | omega | (simp only [st_s] <;> omega) | assumption | omega))) hT (show σ.1 33 = σ.1 33 from by omega) (show n3 ≤ 1000 from by (first | omega | (simp only [st_s] <;> omega) | assumption | omega)) (show (σ.1 30) = (σ.1 30) from by (first | omega | (simp only [st_s] <;> omega) | assumption | omega)) (show (σ.1 31) = (σ.1 31) from by (first | omega | (simp only [st_s] <;> omega) | assumption | omega)) (show (σ.1 35) = (σ.1 35) from by (first | omega | (simp only [st_s] <;> omega) | assumption | omega)) (show (σ.1 31) + (σ.1 33) + n3 ≤ 40000 from by (first | omega | (simp only [st_s] <;> omega) | assumption | omega)) (show ¬ (σ.1 30) = 200 from by (first | omega | (simp only [st_s] <;> omega) | assumption | omega)) (show 0 ≤ 0 from by (first | omega | (simp only [st_s] <;> omega) | assumption | omega)) (show 0 ≤ n3 from by (first | omega | (simp only [st_s] <;> omega) | assumption | omega))
      ·
        refine h34 _ ?_
        refine ⟨_, K_X13_wrong hT (show 1 ≤ 5 from by (first | omega | (simp only [st_s] <;> omega) | assumption | omega)) (show 5 ≤ 19 from by (first | omega | (simp only [st_s] <;> omega) | assumption | omega)), ?_⟩
        intro τ7 hn_τ7 hf_τ7 hq
        obtain ⟨hT, q5_1, q5_2⟩ := hq
        replace q5_1 : ¬ (τ7.1 35) = 0 := q5_1
        replace q5_2 : ¬ (σ.1 35) = 0 → (τ7.1 35) = (σ.1 35) := q5_2
        have w30_τ7 : τ7.1 30 = σ.1 30 := hf_τ7.1 30 (by decide)
        have w31_τ7 : τ7.1 31 = σ.1 31 := hf_τ7.1 31 (by decide)
        have w33_τ7 : τ7.1 33 = σ.1 33 := hf_τ7.1 33 (by decide)
        have W33 : τ7.1 33 = σ.1 33 := by omega
        have v30 : 0 ≤ τ7.1 30 ∧ τ7.1 30 ≤ 200 := hT.1 30
        have v31 : 0 ≤ τ7.1 31 ∧ τ7.1 31 ≤ 40000 := hT.1 31
        have v33 : 0 ≤ τ7.1 33 ∧ τ7.1 33 ≤ 40000 := hT.1 33
        have v35 : 0 ≤ τ7.1 35 ∧ τ7.1 35 ≤ 19 := hT.1 35
        exact ⟨hT, (show (σ.1 35) = 0 → (τ7.1 35) = 0 → (τ7.1 30) = (σ.1 30) + 1 ∧ 1 ≤ (τ7.1 30) from by (first | omega | (simp only [st_s] <;> omega) | assumption | omega)), (show ¬ (σ.1 35) = 0 → (τ7.1 35) = (σ.1 35) from by (first | omega | (simp only [st_s] <;> omega) | assumption | omega))⟩
set_option maxHeartbeats 1000000 in
theorem K_X13_applyStep {n1 : Int} {n2 : Int} {n3 : Int} {σ : S0} (hT : m_T σ) (p1 : 0 ≤ n1) (p2 : n1 < 1500) (p3 : 0 ≤ n2) (p4 : n2 ≤ 20000) (p5 : 0 ≤ n3) (p6 : n3 ≤ 1) (p7 : σ.2.1 21 n1 + σ.2.1 22 n1 ≤ 20000) : W_X13_applyStep n1 n2 n3 σ (fun (τ : S0) => (m_T τ) ∧ ((σ.1 35) = 0 → (τ.1 35) = 0 → 1 ≤ (τ.1 30)) ∧ (¬ (σ.1 35) = 0 → (τ.1 35) = (σ.1 35))) := by
  have A21 : ∀ j, 0 ≤ σ.2.1 21 j ∧ σ.2.1 21 j ≤ 20000 := fun j => hT.2 21 j
  have A22 : ∀ j, 0 ≤ σ.2.1 22 j ∧ σ.2.1 22 j ≤ 20000 := fun j => hT.2 22 j
  have v30 : 0 ≤ σ.1 30 ∧ σ.1 30 ≤ 200 := hT.1 30
  have v31 : 0 ≤ σ.1 31 ∧ σ.1 31 ≤ 40000 := hT.1 31
  have v34 : 0 ≤ σ.1 34 ∧ σ.1 34 ≤ 1001 := hT.1 34
  have v35 : 0 ≤ σ.1 35 ∧ σ.1 35 ≤ 19 := hT.1 35
  have G21 : σ.2.1 21 = σ.2.1 21 := rfl
  have G22 : σ.2.1 22 = σ.2.1 22 := rfl
  intro P36 P117 P202 P294 P350 P375 h36 h117 h202 h294 h350 h375
  have l_294 : ∀ (m_294 : Nat) (u4_294 : Int) (u5_294 : Int) (u6_294 : Int) (τ_294 : S0), 20002 - u6_294 < (m_294 : Int) → (m_T τ_294) → (τ_294.2.1 21 = σ.2.1 21) → (τ_294.2.1 22 = σ.2.1 22) → (0 ≤ u4_294) → (u4_294 ≤ 60) → (0 ≤ u5_294) → (u5_294 + u4_294 ≤ 200) → (0 ≤ u6_294) → ((τ_294.1 35) = (σ.1 35)) → (u6_294 ≤ 20001) → P294 n1 n2 n3 u4_294 u5_294 u6_294 τ_294 := by
    intro m_294
    induction m_294 with
    | zero =>
      intro u4_294 u5_294 u6_294 τ_294 hm hT G21 G22 i294_1 i294_2 i294_3 i294_4 i294_5 i294_6 i294_7
      have A21 : ∀ j, 0 ≤ τ_294.2.1 21 j ∧ τ_294.2.1 21 j ≤ 20000 := fun j => hT.2 21 j
      have A22 : ∀ j, 0 ≤ τ_294.2.1 22 j ∧ τ_294.2.1 22 j ≤ 20000 := fun j => hT.2 22 j
      have v30 : 0 ≤ τ_294.1 30 ∧ τ_294.1 30 ≤ 200 := hT.1 30
      have v31 : 0 ≤ τ_294.1 31 ∧ τ_294.1 31 ≤ 40000 := hT.1 31
      have v34 : 0 ≤ τ_294.1 34 ∧ τ_294.1 34 ≤ 1001 := hT.1 34
      have v35 : 0 ≤ τ_294.1 35 ∧ τ_294.1 35 ≤ 19 := hT.1 35
      exfalso; (first | omega | (simp only [st_s] <;> omega) | assumption | omega)
    | succ m_294 ih_294 =>
      intro u4_294 u5_294 u6_294 τ_294 hm_294 hT G21 G22 i294_1 i294_2 i294_3 i294_4 i294_5 i294_6 i294_7
      have A21 : ∀ j, 0 ≤ τ_294.2.1 21 j ∧ τ_294.2.1 21 j ≤ 20000 := fun j => hT.2 21 j
      have A22 : ∀ j, 0 ≤ τ_294.2.1 22 j ∧ τ_294.2.1 22 j ≤ 20000 := fun j => hT.2 22 j
      have v30 : 0 ≤ τ_294.1 30 ∧ τ_294.1 30 ≤ 200 := hT.1 30
      have v31 : 0 ≤ τ_294.1 31 ∧ τ_294.1 31 ≤ 40000 := hT.1 31
      have v34 : 0 ≤ τ_294.1 34 ∧ τ_294.1 34 ≤ 1001 := hT.1 34
      have v35 : 0 ≤ τ_294.1 35 ∧ τ_294.1 35 ≤ 19 := hT.1 35
      refine h294 n1 n2 n3 u4_294 u5_294 u6_294 τ_294 ?_
      refine ⟨(show 0 ≤ n1 ∧ n1 < 1501 from by (first | omega | (simp only [st_s] <;> omega) | assumption | omega)), ?_⟩
      intro x75 r_x75 e_x75
      have b_x75 : 0 ≤ x75 ∧ x75 ≤ 20000 := by rw [e_x75]; exact hT.2 21 _
      intro x76 r_x76 e_x76
      have b_x76 : 0 ≤ x76 ∧ x76 ≤ 20000 := by rw [e_x76]; exact hT.2 22 _
      refine ⟨(⟨by (first | omega | (simp only [st_s] <;> omega) | assumption | omega), by (first | omega | (simp only [st_s] <;> omega) | assumption | omega)⟩ : rg (x75 + x76)), ?_⟩
      refine ⟨fun c78 => ?_, fun c78 => ?_⟩
      ·
        refine h350 _ _ _ _ _ ?_
        refine ⟨_, K_X13_replace hT (show 0 ≤ n1 from by (first | omega | (simp only [st_s] <;> omega) | assumption | omega)) (show n1 < 1500 from by (first | omega | (simp only [st_s] <;> omega) | assumption | omega)), ?_⟩
        intro τ93 hn_τ93 hf_τ93 hq
        obtain ⟨hT, q91_1⟩ := hq
        replace q91_1 : 0 ≤ (τ93.1 34) := q91_1
        have w30_τ93 : τ93.1 30 = τ_294.1 30 := hf_τ93.1 30 (by decide)
        have w31_τ93 : τ93.1 31 = τ_294.1 31 := hf_τ93.1 31 (by decide)
        have w35_τ93 : τ93.1 35 = τ_294.1 35 := hf_τ93.1 35 (by decide)
        have g21_τ93 : τ93.2.1 21 = τ_294.2.1 21 := hf_τ93.2.1 21 (by decide)
        have g22_τ93 : τ93.2.1 22 = τ_294.2.1 22 := hf_τ93.2.1 22 (by decide)
        have G21 : τ93.2.1 21 = σ.2.1 21 := (g21_τ93).trans G21
        have G22 : τ93.2.1 22 = σ.2.1 22 := (g22_τ93).trans G22
        have A21 : ∀ j, 0 ≤ τ93.2.1 21 j ∧ τ93.2.1 21 j ≤ 20000 := fun j => hT.2 21 j
        have A22 : ∀ j, 0 ≤ τ93.2.1 22 j ∧ τ93.2.1 22 j ≤ 20000 := fun j => hT.2 22 j
        have v30 : 0 ≤ τ93.1 30 ∧ τ93.1 30 ≤ 200 := hT.1 30
        have v31 : 0 ≤ τ93.1 31 ∧ τ93.1 31 ≤ 40000 := hT.1 31
        have v34 : 0 ≤ τ93.1 34 ∧ τ93.1 34 ≤ 1001 := hT.1 34
        have v35 : 0 ≤ τ93.1 35 ∧ τ93.1 35 ≤ 19 := hT.1 35
        refine ⟨fun c94 => ?_, fun c94 => ?_⟩
        ·
          refine ⟨(show 0 ≤ u5_294 ∧ u5_294 < 202 from by (first | omega | (simp only [st_s] <;> omega) | assumption | omega)), ?_⟩
          intro x96 r_x96 e_x96
          have b_x96 : 0 ≤ x96 ∧ x96 ≤ 40000 := by rw [e_x96]; exact hT.2 40 _
          refine h375 _ _ _ _ ?_
          replace hT := mT_v (i := 31) hT (show 0 ≤ x96 ∧ x96 ≤ 40000 from by (first | omega | (simp only [st_s] <;> omega) | assumption | omega))
          replace hT := mT_v (i := 30) hT (show 0 ≤ u5_294 ∧ u5_294 ≤ 200 from by (first | omega | (simp only [st_s] <;> omega) | assumption | omega))
          refine ⟨_, K_X13_pushRow_q53 hT (show 0 ≤ 0 from by (first | omega | (simp only [st_s] <;> omega) | assumption | omega)) (show 0 ≤ 0 from by (first | omega | (simp only [st_s] <;> omega) | assumption | omega)) (show 0 ≤ (τ93.1 34) from by (first | omega | (simp only [st_s] <;> omega) | assumption | omega)) (show 0 ≤ n2 from by (first | omega | (simp only [st_s] <;> omega) | assumption | omega)) (show n2 ≤ 20000 from by (first | omega | (simp only [st_s] <;> omega) | assumption | omega)) (show (τ93.1 34) ≤ 1001 from by (first | omega | (simp only [st_s] <;> omega) | assumption | omega)), ?_⟩
          intro τ99 hn_τ99 hf_τ99 hq
          obtain ⟨hT, q97_1, q97_2⟩ := hq
          replace q97_1 : (τ93.1 35) = 0 → (τ99.1 35) = 0 → (τ99.1 30) = (u5_294) + 1 ∧ 1 ≤ (τ99.1 30) := q97_1
          replace q97_2 : ¬ (τ93.1 35) = 0 → (τ99.1 35) = (τ93.1 35) := q97_2
          have w34_τ99 : τ99.1 34 = τ93.1 34 := hf_τ99.1 34 (by decide)
          have g21_τ99 : τ99.2.1 21 = τ93.2.1 21 := hf_τ99.2.1 21 (by decide)
          have g22_τ99 : τ99.2.1 22 = τ93.2.1 22 := hf_τ99.2.1 22 (by decide)
          have G21 : τ99.2.1 21 = σ.2.1 21 := (g21_τ99).trans G21
          have G22 : τ99.2.1 22 = σ.2.1 22 := (g22_τ99).trans G22
          have A21 : ∀ j, 0 ≤ τ99.2.1 21 j ∧ τ99.2.1 21 j ≤ 20000 := fun j => hT.2 21 j
          have A22 : ∀ j, 0 ≤ τ99.2.1 22 j ∧ τ99.2.1 22 j ≤ 20000 := fun j => hT.2 22 j
          have v30 : 0 ≤ τ99.1 30 ∧ τ99.1 30 ≤ 200 := hT.1 30
          have v31 : 0 ≤ τ99.1 31 ∧ τ99.1 31 ≤ 40000 := hT.1 31
          have v34 : 0 ≤ τ99.1 34 ∧ τ99.1 34 ≤ 1001 := hT.1 34
          have v35 : 0 ≤ τ99.1 35 ∧ τ99.1 35 ≤ 19 := hT.1 35
          exact ⟨hT, (show (σ.1 35) = 0 → (τ99.1 35) = 0 → 1 ≤ (τ99.1 30) from by (first | omega | (simp only [st_s] <;> omega) | assumption | omega)), (show ¬ (σ.1 35) = 0 → (τ99.1 35) = (σ.1 35) from by (first | omega | (simp only [st_s] <;> omega) | assumption | omega))⟩
        ·
          refine h375 _ _ _ _ ?_
          replace hT := mT_v (i := 31) hT (show 0 ≤ (τ93.1 31) ∧ (τ93.1 31) ≤ 40000 from by (first | omega | (simp only [st_s] <;> omega) | assumption | omega))
          replace hT := mT_v (i := 30) hT (show 0 ≤ u5_294 ∧ u5_294 ≤ 200 from by (first | omega | (simp only [st_s] <;> omega) | assumption | omega))
          refine ⟨_, K_X13_pushRow_q53 hT (show 0 ≤ 0 from by (first | omega | (simp only [st_s] <;> omega) | assumption | omega)) (show 0 ≤ 0 from by (first | omega | (simp only [st_s] <;> omega) | assumption | omega)) (show 0 ≤ (τ93.1 34) from by (first | omega | (simp only [st_s] <;> omega) | assumption | omega)) (show 0 ≤ n2 from by (first | omega | (simp only [st_s] <;> omega) | assumption | omega)) (show n2 ≤ 20000 from by (first | omega | (simp only [st_s] <;> omega) | assumption | omega)) (show (τ93.1 34) ≤ 1001 from by (first | omega | (simp only [st_s] <;> omega) | assumption | omega)), ?_⟩
          intro τ99 hn_τ99 hf_τ99 hq
          obtain ⟨hT, q97_1, q97_2⟩ := hq
          replace q97_1 : (τ93.1 35) = 0 → (τ99.1 35) = 0 → (τ99.1 30) = (u5_294) + 1 ∧ 1 ≤ (τ99.1 30) := q97_1
          replace q97_2 : ¬ (τ93.1 35) = 0 → (τ99.1 35) = (τ93.1 35) := q97_2
          have w34_τ99 : τ99.1 34 = τ93.1 34 := hf_τ99.1 34 (by decide)
          have g21_τ99 : τ99.2.1 21 = τ93.2.1 21 := hf_τ99.2.1 21 (by decide)
          have g22_τ99 : τ99.2.1 22 = τ93.2.1 22 := hf_τ99.2.1 22 (by decide)
          have G21 : τ99.2.1 21 = σ.2.1 21 := (g21_τ99).trans G21
          have G22 : τ99.2.1 22 = σ.2.1 22 := (g22_τ99).trans G22
          have A21 : ∀ j, 0 ≤ τ99.2.1 21 j ∧ τ99.2.1 21 j ≤ 20000 := fun j => hT.2 21 j
          have A22 : ∀ j, 0 ≤ τ99.2.1 22 j ∧ τ99.2.1 22 j ≤ 20000 := fun j => hT.2 22 j
          have v30 : 0 ≤ τ99.1 30 ∧ τ99.1 30 ≤ 200 := hT.1 30
          have v31 : 0 ≤ τ99.1 31 ∧ τ99.1 31 ≤ 40000 := hT.1 31
          have v34 : 0 ≤ τ99.1 34 ∧ τ99.1 34 ≤ 1001 := hT.1 34
          have v35 : 0 ≤ τ99.1 35 ∧ τ99.1 35 ≤ 19 := hT.1 35
          exact ⟨hT, (show (σ.1 35) = 0 → (τ99.1 35) = 0 → 1 ≤ (τ99.1 30) from by (first | omega | (simp only [st_s] <;> omega) | assumption | omega)), (show ¬ (σ.1 35) = 0 → (τ99.1 35) = (σ.1 35) from by (first | omega | (simp only [st_s] <;> omega) | assumption | omega))⟩
      ·
        refine ⟨fun c79 => ?_, fun c79 => ?_⟩
        ·
          refine h350 _ _ _ _ _ ?_
          refine ⟨_, K_X13_replace hT (show 0 ≤ n1 from by (first | omega | (simp only [st_s] <;> omega) | assumption | omega)) (show n1 < 1500 from by (first | omega | (simp only [st_s] <;> omega) | assumption | omega)), ?_⟩
          intro τ93 hn_τ93 hf_τ93 hq
          obtain ⟨hT, q91_1⟩ := hq
          replace q91_1 : 0 ≤ (τ93.1 34) := q91_1
          have w30_τ93 : τ93.1 30 = τ_294.1 30 := hf_τ93.1 30 (by decide)
          have w31_τ93 : τ93.1 31 = τ_294.1 31 := hf_τ93.1 31 (by decide)
          have w35_τ93 : τ93.1 35 = τ_294.1 35 := hf_τ93.1 35 (by decide)
          have g21_τ93 : τ93.2.1 21 = τ_294.2.1 21 := hf_τ93.2.1 21 (by decide)
          have g22_τ93 : τ93.2.1 22 = τ_294.2.1 22 := hf_τ93.2.1 22 (by decide)
          have G21 : τ93.2.1 21 = σ.2.1 21 := (g21_τ93).trans G21
          have G22 : τ93.2.1 22 = σ.2.1 22 := (g22_τ93).trans G22
          have A21 : ∀ j, 0 ≤ τ93.2.1 21 j ∧ τ93.2.1 21 j ≤ 20000 := fun j => hT.2 21 j
          have A22 : ∀ j, 0 ≤ τ93.2.1 22 j ∧ τ93.2.1 22 j ≤ 20000 := fun j => hT.2 22 j
          have v30 : 0 ≤ τ93.1 30 ∧ τ93.1 30 ≤ 200 := hT.1 30
          have v31 : 0 ≤ τ93.1 31 ∧ τ93.1 31 ≤ 40000 := hT.1 31
          have v34 : 0 ≤ τ93.1 34 ∧ τ93.1 34 ≤ 1001 := hT.1 34
          have v35 : 0 ≤ τ93.1 35 ∧ τ93.1 35 ≤ 19 := hT.1 35
          refine ⟨fun c94 => ?_, fun c94 => ?_⟩
          ·
            refine ⟨(show 0 ≤ u5_294 ∧ u5_294 < 202 from by (first | omega | (simp only [st_s] <;> omega) | assumption | omega)), ?_⟩
            intro x96 r_x96 e_x96
            have b_x96 : 0 ≤ x96 ∧ x96 ≤ 40000 := by rw [e_x96]; exact hT.2 40 _
            refine h375 _ _ _ _ ?_
            replace hT := mT_v (i := 31) hT (show 0 ≤ x96 ∧ x96 ≤ 40000 from by (first | omega | (simp only [st_s] <;> omega) | assumption | omega))
            replace hT := mT_v (i := 30) hT (show 0 ≤ u5_294 ∧ u5_294 ≤ 200 from by (first | omega | (simp only [st_s] <;> omega) | assumption | omega))
            refine ⟨_, K_X13_pushRow_q53 hT (show 0 ≤ 0 from by (first | omega | (simp only [st_s] <;> omega) | assumption | omega)) (show 0 ≤ 0 from by (first | omega | (simp only [st_s] <;> omega) | assumption | omega)) (show 0 ≤ (τ93.1 34) from by (first | omega | (simp only [st_s] <;> omega) | assumption | omega)) (show 0 ≤ n2 from by (first | omega | (simp only [st_s] <;> omega) | assumption | omega)) (show n2 ≤ 20000 from by (first | omega | (simp only [st_s] <;> omega) | assumption | omega)) (show (τ93.1 34) ≤ 1001 from by (first | omega | (simp only [st_s] <;> omega) | assumption | omega)), ?_⟩
            intro τ99 hn_τ99 hf_τ99 hq
            obtain ⟨hT, q97_1, q97_2⟩ := hq
            replace q97_1 : (τ93.1 35) = 0 → (τ99.1 35) = 0 → (τ99.1 30) = (u5_294) + 1 ∧ 1 ≤ (τ99.1 30) := q97_1
            replace q97_2 : ¬ (τ93.1 35) = 0 → (τ99.1 35) = (τ93.1 35) := q97_2
            have w34_τ99 : τ99.1 34 = τ93.1 34 := hf_τ99.1 34 (by decide)
            have g21_τ99 : τ99.2.1 21 = τ93.2.1 21 := hf_τ99.2.1 21 (by decide)
            have g22_τ99 : τ99.2.1 22 = τ93.2.1 22 := hf_τ99.2.1 22 (by decide)
            have G21 : τ99.2.1 21 = σ.2.1 21 := (g21_τ99).trans G21
            have G22 : τ99.2.1 22 = σ.2.1 22 := (g22_τ99).trans G22
            have A21 : ∀ j, 0 ≤ τ99.2.1 21 j ∧ τ99.2.1 21 j ≤ 20000 := fun j => hT.2 21 j
            have A22 : ∀ j, 0 ≤ τ99.2.1 22 j ∧ τ99.2.1 22 j ≤ 20000 := fun j => hT.2 22 j
            have v30 : 0 ≤ τ99.1 30 ∧ τ99.1 30 ≤ 200 := hT.1 30
            have v31 : 0 ≤ τ99.1 31 ∧ τ99.1 31 ≤ 40000 := hT.1 31
            have v34 : 0 ≤ τ99.1 34 ∧ τ99.1 34 ≤ 1001 := hT.1 34
            have v35 : 0 ≤ τ99.1 35 ∧ τ99.1 35 ≤ 19 := hT.1 35
            exact ⟨hT, (show (σ.1 35) = 0 → (τ99.1 35) = 0 → 1 ≤ (τ99.1 30) from by (first | omega | (simp only [st_s] <;> omega) | assumption | omega)), (show ¬ (σ.1 35) = 0 → (τ99.1 35) = (σ.1 35) from by (first | omega | (simp only [st_s] <;> omega) | assumption | omega))⟩
          ·
            refine h375 _ _ _ _ ?_
            replace hT := mT_v (i := 31) hT (show 0 ≤ (τ93.1 31) ∧ (τ93.1 31) ≤ 40000 from by (first | omega | (simp only [st_s] <;> omega) | assumption | omega))
            replace hT := mT_v (i := 30) hT (show 0 ≤ u5_294 ∧ u5_294 ≤ 200 from by (first | omega | (simp only [st_s] <;> omega) | assumption | omega))
            refine ⟨_, K_X13_pushRow_q53 hT (show 0 ≤ 0 from by (first | omega | (simp only [st_s] <;> omega) | assumption | omega)) (show 0 ≤ 0 from by (first | omega | (simp only [st_s] <;> omega) | assumption | omega)) (show 0 ≤ (τ93.1 34) from by (first | omega | (simp only [st_s] <;> omega) | assumption | omega)) (show 0 ≤ n2 from by (first | omega | (simp only [st_s] <;> omega) | assumption | omega)) (show n2 ≤ 20000 from by (first | omega | (simp only [st_s] <;> omega) | assumption | omega)) (show (τ93.1 34) ≤ 1001 from by (first | omega | (simp only [st_s] <;> omega) | assumption | omega)), ?_⟩
            intro τ99 hn_τ99 hf_τ99 hq
            obtain ⟨hT, q97_1, q97_2⟩ := hq
            replace q97_1 : (τ93.1 35) = 0 → (τ99.1 35) = 0 → (τ99.1 30) = (u5_294) + 1 ∧ 1 ≤ (τ99.1 30) := q97_1
            replace q97_2 : ¬ (τ93.1 35) = 0 → (τ99.1 35) = (τ93.1 35) := q97_2
            have w34_τ99 : τ99.1 34 = τ93.1 34 := hf_τ99.1 34 (by decide)
            have g21_τ99 : τ99.2.1 21 = τ93.2.1 21 := hf_τ99.2.1 21 (by decide)
            have g22_τ99 : τ99.2.1 22 = τ93.2.1 22 := hf_τ99.2.1 22 (by decide)
            have G21 : τ99.2.1 21 = σ.2.1 21 := (g21_τ99).trans G21
            have G22 : τ99.2.1 22 = σ.2.1 22 := (g22_τ99).trans G22
            have A21 : ∀ j, 0 ≤ τ99.2.1 21 j ∧ τ99.2.1 21 j ≤ 20000 := fun j => hT.2 21 j
            have A22 : ∀ j, 0 ≤ τ99.2.1 22 j ∧ τ99.2.1 22 j ≤ 20000 := fun j => hT.2 22 j
            have v30 : 0 ≤ τ99.1 30 ∧ τ99.1 30 ≤ 200 := hT.1 30
            have v31 : 0 ≤ τ99.1 31 ∧ τ99.1 31 ≤ 40000 := hT.1 31
            have v34 : 0 ≤ τ99.1 34 ∧ τ99.1 34 ≤ 1001 := hT.1 34
            have v35 : 0 ≤ τ99.1 35 ∧ τ99.1 35 ≤ 19 := hT.1 35
            exact ⟨hT, (show (σ.1 35) = 0 → (τ99.1 35) = 0 → 1 ≤ (τ99.1 30) from by (first | omega | (simp only [st_s] <;> omega) | assumption | omega)), (show ¬ (σ.1 35) = 0 → (τ99.1 35) = (σ.1 35) from by (first | omega | (simp only [st_s] <;> omega) | assumption | omega))⟩
        ·
          rw [G21] at e_x75
          rw [G22] at e_x76
          refine ⟨(show 0 ≤ u6_294 ∧ u6_294 < 20000 from by (first | omega | (simp only [st_s] <;> omega) | assumption | omega)), ?_⟩
          intro x81 r_x81 e_x81
          have b_x81 : 0 ≤ x81 ∧ x81 ≤ 999 := by rw [e_x81]; exact hT.2 23 _
          intro x82 r_x82 e_x82
          have b_x82 : 0 ≤ x82 ∧ x82 ≤ 999 := by rw [e_x82]; exact hT.2 24 _
          refine ⟨_, K_X13_areKept hT (show 0 ≤ x81 from by (first | omega | (simp only [st_s] <;> omega) | assumption | omega)) (show x81 < 1000 from by (first | omega | (simp only [st_s] <;> omega) | assumption | omega)) (show 0 ≤ x82 from by (first | omega | (simp only [st_s] <;> omega) | assumption | omega)) (show x82 < 1000 from by (first | omega | (simp only [st_s] <;> omega) | assumption | omega)), ?_⟩
          intro x84 r_x84 hq
          have q83_1 := hq
          replace q83_1 : 0 ≤ x84 ∧ x84 ≤ 1 := q83_1
          refine ⟨fun c86 => ?_, fun c86 => ?_⟩
          ·
            refine ⟨(⟨by (first | omega | (simp only [st_s] <;> omega) | assumption | omega), by (first | omega | (simp only [st_s] <;> omega) | assumption | omega)⟩ : rg (u6_294 + 1)), ?_⟩
            exact ih_294 _ _ _ _ (show (20002 - (u6_294 + 1) : Int) < ((m_294 : Nat) : Int) from by ((first | omega | (simp only [st_s] <;> omega) | assumption | omega))) hT G21 G22 (show 0 ≤ u4_294 from by (first | omega | (simp only [st_s] <;> omega) | assumption | omega)) (show u4_294 ≤ 60 from by (first | omega | (simp only [st_s] <;> omega) | assumption | omega)) (show 0 ≤ u5_294 from by (first | omega | (simp only [st_s] <;> omega) | assumption | omega)) (show u5_294 + u4_294 ≤ 200 from by (first | omega | (simp only [st_s] <;> omega) | assumption | omega)) (show 0 ≤ (u6_294 + 1) from by (first | omega | (simp only [st_s] <;> omega) | assumption | omega)) (show (τ_294.1 35) = (σ.1 35) from by (first | omega | (simp only [st_s] <;> omega) | assumption | omega)) (show (u6_294 + 1) ≤ 20001 from by (first | omega | (simp only [st_s] <;> omega) | assumption | omega))
          ·
            refine ⟨_, K_X13_wrong hT (show 1 ≤ 17 from by (first | omega | (simp only [st_s] <;> omega) | assumption | omega)) (show 17 ≤ 19 from by (first | omega | (simp only [st_s] <;> omega) | assumption | omega)), ?_⟩
            intro τ90 hn_τ90 hf_τ90 hq
            obtain ⟨hT, q88_1, q88_2⟩ := hq
            replace q88_1 : ¬ (τ90.1 35) = 0 := q88_1
            replace q88_2 : ¬ (τ_294.1 35) = 0 → (τ90.1 35) = (τ_294.1 35) := q88_2
            have w30_τ90 : τ90.1 30 = τ_294.1 30 := hf_τ90.1 30 (by decide)
            have w31_τ90 : τ90.1 31 = τ_294.1 31 := hf_τ90.1 31 (by decide)
            have w34_τ90 : τ90.1 34 = τ_294.1 34 := hf_τ90.1 34 (by decide)
            have g21_τ90 : τ90.2.1 21 = τ_294.2.1 21 := hf_τ90.2.1 21 (by decide)
            have g22_τ90 : τ90.2.1 22 = τ_294.2.1 22 := hf_τ90.2.1 22 (by decide)
            have G21 : τ90.2.1 21 = σ.2.1 21 := (g21_τ90).trans G21
            have G22 : τ90.2.1 22 = σ.2.1 22 := (g22_τ90).trans G22
            have A21 : ∀ j, 0 ≤ τ90.2.1 21 j ∧ τ90.2.1 21 j ≤ 20000 := fun j => hT.2 21 j
            have A22 : ∀ j, 0 ≤ τ90.2.1 22 j ∧ τ90.2.1 22 j ≤ 20000 := fun j => hT.2 22 j
            have v30 : 0 ≤ τ90.1 30 ∧ τ90.1 30 ≤ 200 := hT.1 30
            have v31 : 0 ≤ τ90.1 31 ∧ τ90.1 31 ≤ 40000 := hT.1 31
            have v34 : 0 ≤ τ90.1 34 ∧ τ90.1 34 ≤ 1001 := hT.1 34
            have v35 : 0 ≤ τ90.1 35 ∧ τ90.1 35 ≤ 19 := hT.1 35
            exact ⟨hT, (show (σ.1 35) = 0 → (τ90.1 35) = 0 → 1 ≤ (τ90.1 30) from by (first | omega | (simp only [st_s] <;> omega) | assumption | omega)), (show ¬ (σ.1 35) = 0 → (τ90.1 35) = (σ.1 35) from by (first | omega | (simp only [st_s] <;> omega) | assumption | omega))⟩
  have l_202 : ∀ (m_202 : Nat) (u4_202 : Int) (u5_202 : Int) (u6_202 : Int) (τ_202 : S0), 61 - u6_202 < (m_202 : Int) → (m_T τ_202) → (τ_202.2.1 21 = σ.2.1 21) → (τ_202.2.1 22 = σ.2.1 22) → (0 ≤ u4_202) → (u4_202 ≤ 60) → (0 ≤ u5_202) → (u5_202 + u4_202 ≤ 200) → (0 ≤ u6_202) → (u6_202 ≤ u4_202) → ((τ_202.1 35) = (σ.1 35)) → P202 n1 n2 n3 u4_202 u5_202 u6_202 τ_202 := by
    intro m_202
    induction m_202 with
    | zero =>
      intro u4_202 u5_202 u6_202 τ_202 hm hT G21 G22 i202_1 i202_2 i202_3 i202_4 i202_5 i202_6 i202_7
      have A21 : ∀ j, 0 ≤ τ_202.2.1 21 j ∧ τ_202.2.1 21 j ≤ 20000 := fun j => hT.2 21 j
      have A22 : ∀ j, 0 ≤ τ_202.2.1 22 j ∧ τ_202.2.1 22 j ≤ 20000 := fun j => hT.2 22 j
      have v30 : 0 ≤ τ_202.1 30 ∧ τ_202.1 30 ≤ 200 := hT.1 30
      have v31 : 0 ≤ τ_202.1 31 ∧ τ_202.1 31 ≤ 40000 := hT.1 31
      have v34 : 0 ≤ τ_202.1 34 ∧ τ_202.1 34 ≤ 1001 := hT.1 34
      have v35 : 0 ≤ τ_202.1 35 ∧ τ_202.1 35 ≤ 19 := hT.1 35
      exfalso; (first | omega | (simp only [st_s] <;> omega) | assumption | omega)
    | succ m_202 ih_202 =>
      intro u4_202 u5_202 u6_202 τ_202 hm_202 hT G21 G22 i202_1 i202_2 i202_3 i202_4 i202_5 i202_6 i202_7
      have A21 : ∀ j, 0 ≤ τ_202.2.1 21 j ∧ τ_202.2.1 21 j ≤ 20000 := fun j => hT.2 21 j
      have A22 : ∀ j, 0 ≤ τ_202.2.1 22 j ∧ τ_202.2.1 22 j ≤ 20000 := fun j => hT.2 22 j
      have v30 : 0 ≤ τ_202.1 30 ∧ τ_202.1 30 ≤ 200 := hT.1 30
      have v31 : 0 ≤ τ_202.1 31 ∧ τ_202.1 31 ≤ 40000 := hT.1 31
      have v34 : 0 ≤ τ_202.1 34 ∧ τ_202.1 34 ≤ 1001 := hT.1 34
      have v35 : 0 ≤ τ_202.1 35 ∧ τ_202.1 35 ≤ 19 := hT.1 35
      refine h202 n1 n2 n3 u4_202 u5_202 u6_202 τ_202 ?_
      refine ⟨fun c27 => ?_, fun c27 => ?_⟩
      ·
        refine ⟨(show 0 ≤ n1 ∧ n1 < 1501 from by (first | omega | (simp only [st_s] <;> omega) | assumption | omega)), ?_⟩
        intro x29 r_x29 e_x29
        have b_x29 : 0 ≤ x29 ∧ x29 ≤ 20000 := by rw [e_x29]; exact hT.2 21 _
        exact l_294 ((20002 - x29 : Int).toNat + 1) _ _ _ _ (show (20002 - x29 : Int) < (((20002 - x29 : Int).toNat + 1 : Nat) : Int) from by ((first | omega | (simp only [st_s] <;> omega) | assumption | omega))) hT G21 G22 (show 0 ≤ u4_202 from by (first | omega | (simp only [st_s] <;> omega) | assumption | omega)) (show u4_202 ≤ 60 from by (first | omega | (simp only [st_s] <;> omega) | assumption | omega)) (show 0 ≤ u5_202 from by (first | omega | (simp only [st_s] <;> omega) | assumption | omega)) (show u5_202 + u4_202 ≤ 200 from by (first | omega | (simp only [st_s] <;> omega) | assumption | omega)) (show 0 ≤ x29 from by (first | omega | (simp only [st_s] <;> omega) | assumption | omega)) (show (τ_202.1 35) = (σ.1 35) from by (first | omega | (simp only [st_s] <;> omega) | assumption | omega)) (show x29 ≤ 20001 from by (first | omega | (simp only [st_s] <;> omega) | assumption | omega))
      ·
        refine ⟨fun c30 => ?_, fun c30 => ?_⟩
        ·
          refine ⟨(show 0 ≤ n1 ∧ n1 < 1501 from by (first | omega | (simp only [st_s] <;> omega) | assumption | omega)), ?_⟩
          intro x32 r_x32 e_x32
          have b_x32 : 0 ≤ x32 ∧ x32 ≤ 20000 := by rw [e_x32]; exact hT.2 21 _
          exact l_294 ((20002 - x32 : Int).toNat + 1) _ _ _ _ (show (20002 - x32 : Int) < (((20002 - x32 : Int).toNat + 1 : Nat) : Int) from by ((first | omega | (simp only [st_s] <;> omega) | assumption | omega))) hT G21 G22 (show 0 ≤ u4_202 from by (first | omega | (simp only [st_s] <;> omega) | assumption | omega)) (show u4_202 ≤ 60 from by (first | omega | (simp only [st_s] <;> omega) | assumption | omega)) (show 0 ≤ u5_202 from by (first | omega | (simp only [st_s] <;> omega) | assumption | omega)) (show u5_202 + u4_202 ≤ 200 from by (first | omega | (simp only [st_s] <;> omega) | assumption | omega)) (show 0 ≤ x32 from by (first | omega | (simp only [st_s] <;> omega) | assumption | omega)) (show (τ_202.1 35) = (σ.1 35) from by (first | omega | (simp only [st_s] <;> omega) | assumption | omega)) (show x32 ≤ 20001 from by (first | omega | (simp only [st_s] <;> omega) | assumption | omega))
        ·
          refine ⟨(show 0 ≤ n1 ∧ n1 < 1501 from by (first | omega | (simp only [st_s] <;> omega) | assumption | omega)), ?_⟩
          intro x34 r_x34 e_x34
          have b_x34 : 0 ≤ x34 ∧ x34 ≤ 90000 := by rw [e_x34]; exact hT.2 18 _
          refine ⟨(show 0 ≤ (x34 + u6_202) ∧ (x34 + u6_202) < 90100 from by (first | omega | (simp only [st_s] <;> omega) | assumption | omega)), ?_⟩
          intro x36 r_x36 e_x36
          have b_x36 : 0 ≤ x36 ∧ x36 ≤ 1499 := by rw [e_x36]; exact hT.2 20 _
          refine ⟨(show 0 ≤ x36 ∧ x36 < 1501 from by (first | omega | (simp only [st_s] <;> omega) | assumption | omega)), ?_⟩
          intro x38 r_x38 e_x38
          have b_x38 : 0 ≤ x38 ∧ x38 ≤ 4 := by rw [e_x38]; exact hT.2 13 _
          refine ⟨fun c39 => ?_, fun c39 => ?_⟩
          ·
            refine ⟨(⟨by (first | omega | (simp only [st_s] <;> omega) | assumption | omega), by (first | omega | (simp only [st_s] <;> omega) | assumption | omega)⟩ : rg (u6_202 + 1)), ?_⟩
            exact ih_202 _ _ _ _ (show (61 - (u6_202 + 1) : Int) < ((m_202 : Nat) : Int) from by ((first | omega | (simp only [st_s] <;> omega) | assumption | omega))) hT G21 G22 (show 0 ≤ u4_202 from by (first | omega | (simp only [st_s] <;> omega) | assumption | omega)) (show u4_202 ≤ 60 from by (first | omega | (simp only [st_s] <;> omega) | assumption | omega)) (show 0 ≤ u5_202 from by (first | omega | (simp only [st_s] <;> omega) | assumption | omega)) (show u5_202 + u4_202 ≤ 200 from by (first | omega | (simp only [st_s] <;> omega) | assumption | omega)) (show 0 ≤ (u6_202 + 1) from by (first | omega | (simp only [st_s] <;> omega) | assumption | omega)) (show (u6_202 + 1) ≤ u4_202 from by (first | omega | (simp only [st_s] <;> omega) | assumption | omega)) (show (τ_202.1 35) = (σ.1 35) from by (first | omega | (simp only [st_s] <;> omega) | assumption | omega))
          ·
            refine ⟨_, K_X13_replace hT (show 0 ≤ x36 from by (first | omega | (simp only [st_s] <;> omega) | assumption | omega)) (show x36 < 1500 from by (first | omega | (simp only [st_s] <;> omega) | assumption | omega)), ?_⟩
            intro τ43 hn_τ43 hf_τ43 hq
            obtain ⟨hT, q41_1⟩ := hq
            replace q41_1 : 0 ≤ (τ43.1 34) := q41_1
            have w30_τ43 : τ43.1 30 = τ_202.1 30 := hf_τ43.1 30 (by decide)
            have w31_τ43 : τ43.1 31 = τ_202.1 31 := hf_τ43.1 31 (by decide)
            have w35_τ43 : τ43.1 35 = τ_202.1 35 := hf_τ43.1 35 (by decide)
            have g21_τ43 : τ43.2.1 21 = τ_202.2.1 21 := hf_τ43.2.1 21 (by decide)
            have g22_τ43 : τ43.2.1 22 = τ_202.2.1 22 := hf_τ43.2.1 22 (by decide)
            have G21 : τ43.2.1 21 = σ.2.1 21 := (g21_τ43).trans G21
            have G22 : τ43.2.1 22 = σ.2.1 22 := (g22_τ43).trans G22
            have A21 : ∀ j, 0 ≤ τ43.2.1 21 j ∧ τ43.2.1 21 j ≤ 20000 := fun j => hT.2 21 j
            have A22 : ∀ j, 0 ≤ τ43.2.1 22 j ∧ τ43.2.1 22 j ≤ 20000 := fun j => hT.2 22 j
            have v30 : 0 ≤ τ43.1 30 ∧ τ43.1 30 ≤ 200 := hT.1 30
            have v31 : 0 ≤ τ43.1 31 ∧ τ43.1 31 ≤ 40000 := hT.1 31
            have v34 : 0 ≤ τ43.1 34 ∧ τ43.1 34 ≤ 1001 := hT.1 34
            have v35 : 0 ≤ τ43.1 35 ∧ τ43.1 35 ≤ 19 := hT.1 35
            refine ⟨(show 0 ≤ (u5_202 + u6_202) ∧ (u5_202 + u6_202) < 202 from by (first | omega | (simp only [st_s] <;> omega) | assumption | omega)), ?_⟩
            intro x45 r_x45 e_x45
            have b_x45 : 0 ≤ x45 ∧ x45 ≤ 40000 := by rw [e_x45]; exact hT.2 40 _
            intro x46 r_x46 e_x46
            have b_x46 : 0 ≤ x46 ∧ x46 ≤ 1000 := by rw [e_x46]; exact hT.2 41 _
            refine ⟨_, K_X13_isMade hT (show 0 ≤ x45 from by (first | omega | (simp only [st_s] <;> omega) | assumption | omega)) (show x45 ≤ 40000 from by (first | omega | (simp only [st_s] <;> omega) | assumption | omega)), ?_⟩
            intro x48 r_x48 hq
            have q47_1 := hq
            replace q47_1 : 0 ≤ x48 ∧ x48 ≤ 1 := q47_1
            refine ⟨fun c50 => ?_, fun c50 => ?_⟩
            ·
              refine ⟨(⟨by (first | omega | (simp only [st_s] <;> omega) | assumption | omega), by (first | omega | (simp only [st_s] <;> omega) | assumption | omega)⟩ : rg (u6_202 + 1)), ?_⟩
              exact ih_202 _ _ _ _ (show (61 - (u6_202 + 1) : Int) < ((m_202 : Nat) : Int) from by ((first | omega | (simp only [st_s] <;> omega) | assumption | omega))) hT G21 G22 (show 0 ≤ u4_202 from by (first | omega | (simp only [st_s] <;> omega) | assumption | omega)) (show u4_202 ≤ 60 from by (first | omega | (simp only [st_s] <;> omega) | assumption | omega)) (show 0 ≤ u5_202 from by (first | omega | (simp only [st_s] <;> omega) | assumption | omega)) (show u5_202 + u4_202 ≤ 200 from by (first | omega | (simp only [st_s] <;> omega) | assumption | omega)) (show 0 ≤ (u6_202 + 1) from by (first | omega | (simp only [st_s] <;> omega) | assumption | omega)) (show (u6_202 + 1) ≤ u4_202 from by (first | omega | (simp only [st_s] <;> omega) | assumption | omega)) (show (τ43.1 35) = (σ.1 35) from by (first | omega | (simp only [st_s] <;> omega) | assumption | omega))
            ·
              refine ⟨_, K_X13_wrong hT (show 1 ≤ 16 from by (first | omega | (simp only [st_s] <;> omega) | assumption | omega)) (show 16 ≤ 19 from by (first | omega | (simp only [st_s] <;> omega) | assumption | omega)), ?_⟩
              intro τ54 hn_τ54 hf_τ54 hq
              obtain ⟨hT, q52_1, q52_2⟩ := hq
              replace q52_1 : ¬ (τ54.1 35) = 0 := q52_1
              replace q52_2 : ¬ (τ43.1 35) = 0 → (τ54.1 35) = (τ43.1 35) := q52_2
              have w30_τ54 : τ54.1 30 = τ43.1 30 := hf_τ54.1 30 (by decide)
              have w31_τ54 : τ54.1 31 = τ43.1 31 := hf_τ54.1 31 (by decide)
              have w34_τ54 : τ54.1 34 = τ43.1 34 := hf_τ54.1 34 (by decide)
              have g21_τ54 : τ54.2.1 21 = τ43.2.1 21 := hf_τ54.2.1 21 (by decide)
              have g22_τ54 : τ54.2.1 22 = τ43.2.1 22 := hf_τ54.2.1 22 (by decide)
              have G21 : τ54.2.1 21 = σ.2.1 21 := (g21_τ54).trans G21
              have G22 : τ54.2.1 22 = σ.2.1 22 := (g22_τ54).trans G22
              have A21 : ∀ j, 0 ≤ τ54.2.1 21 j ∧ τ54.2.1 21 j ≤ 20000 := fun j => hT.2 21 j
              have A22 : ∀ j, 0 ≤ τ54.2.1 22 j ∧ τ54.2.1 22 j ≤ 20000 := fun j => hT.2 22 j
              have v30 : 0 ≤ τ54.1 30 ∧ τ54.1 30 ≤ 200 := hT.1 30
              have v31 : 0 ≤ τ54.1 31 ∧ τ54.1 31 ≤ 40000 := hT.1 31
              have v34 : 0 ≤ τ54.1 34 ∧ τ54.1 34 ≤ 1001 := hT.1 34
              have v35 : 0 ≤ τ54.1 35 ∧ τ54.1 35 ≤ 19 := hT.1 35
              exact ⟨hT, (show (σ.1 35) = 0 → (τ54.1 35) = 0 → 1 ≤ (τ54.1 30) from by (first | omega | (simp only [st_s] <;> omega) | assumption | omega)), (show ¬ (σ.1 35) = 0 → (τ54.1 35) = (σ.1 35) from by (first | omega | (simp only [st_s] <;> omega) | assumption | omega))⟩
  have l_36 : ∀ (m_36 : Nat) (u4_36 : Int) (u5_36 : Int) (u6_36 : Int) (τ_36 : S0), 61 - u6_36 < (m_36 : Int) → (m_T τ_36) → (τ_36.2.1 21 = σ.2.1 21) → (τ_36.2.1 22 = σ.2.1 22) → (0 ≤ u4_36) → (u4_36 ≤ 60) → (0 ≤ u5_36) → (u5_36 + u4_36 ≤ 200) → (0 ≤ u6_36) → (u6_36 ≤ u4_36) → ((τ_36.1 35) = (σ.1 35)) → P36 n1 n2 n3 u4_36 u5_36 u6_36 τ_36 := by
    intro m_36
    induction m_36 with
    | zero =>
      intro u4_36 u5_36 u6_36 τ_36 hm hT G21 G22 i36_1 i36_2 i36_3 i36_4 i36_5 i36_6 i36_7
      have A21 : ∀ j, 0 ≤ τ_36.2.1 21 j ∧ τ_36.2.1 21 j ≤ 20000 := fun j => hT.2 21 j
      have A22 : ∀ j, 0 ≤ τ_36.2.1 22 j ∧ τ_36.2.1 22 j ≤ 20000 := fun j => hT.2 22 j
      have v30 : 0 ≤ τ_36.1 30 ∧ τ_36.1 30 ≤ 200 := hT.1 30
      have v31 : 0 ≤ τ_36.1 31 ∧ τ_36.1 31 ≤ 40000 := hT.1 31
      have v34 : 0 ≤ τ_36.1 34 ∧ τ_36.1 34 ≤ 1001 := hT.1 34
      have v35 : 0 ≤ τ_36.1 35 ∧ τ_36.1 35 ≤ 19 := hT.1 35
      exfalso; (first | omega | (simp only [st_s] <;> omega) | assumption | omega)
    | succ m_36 ih_36 =>
      intro u4_36 u5_36 u6_36 τ_36 hm_36 hT G21 G22 i36_1 i36_2 i36_3 i36_4 i36_5 i36_6 i36_7
      have A21 : ∀ j, 0 ≤ τ_36.2.1 21 j ∧ τ_36.2.1 21 j ≤ 20000 := fun j => hT.2 21 j
      have A22 : ∀ j, 0 ≤ τ_36.2.1 22 j ∧ τ_36.2.1 22 j ≤ 20000 := fun j => hT.2 22 j
      have v30 : 0 ≤ τ_36.1 30 ∧ τ_36.1 30 ≤ 200 := hT.1 30
      have v31 : 0 ≤ τ_36.1 31 ∧ τ_36.1 31 ≤ 40000 := hT.1 31
      have v34 : 0 ≤ τ_36.1 34 ∧ τ_36.1 34 ≤ 1001 := hT.1 34
      have v35 : 0 ≤ τ_36.1 35 ∧ τ_36.1 35 ≤ 19 := hT.1 35
      refine h36 n1 n2 n3 u4_36 u5_36 u6_36 τ_36 ?_
      refine ⟨fun c8 => ?_, fun c8 => ?_⟩
      ·
        exact l_202 ((61 - 0 : Int).toNat + 1) _ _ _ _ (show (61 - 0 : Int) < (((61 - 0 : Int).toNat + 1 : Nat) : Int) from by ((first | omega | (simp only [st_s] <;> omega) | assumption | omega))) hT G21 G22 (show 0 ≤ u4_36 from by (first | omega | (simp only [st_s] <;> omega) | assumption | omega)) (show u4_36 ≤ 60 from by (first | omega | (simp only [st_s] <;> omega) | assumption | omega)) (show 0 ≤ u5_36 from by (first | omega | (simp only [st_s] <;> omega) | assumption | omega)) (show u5_36 + u4_36 ≤ 200 from by (first | omega | (simp only [st_s] <;> omega) | assumption | omega)) (show 0 ≤ 0 from by (first | omega | (simp only [st_s] <;> omega) | assumption | omega)) (show 0 ≤ u4_36 from by (first | omega | (simp only [st_s] <;> omega) | assumption | omega)) (show (τ_36.1 35) = (σ.1 35) from by (first | omega | (simp only [st_s] <;> omega) | assumption | omega))
      ·
        refine ⟨(show 0 ≤ n1 ∧ n1 < 1501 from by (first | omega | (simp only [st_s] <;> omega) | assumption | omega)), ?_⟩
        intro x10 r_x10 e_x10
        have b_x10 : 0 ≤ x10 ∧ x10 ≤ 90000 := by rw [e_x10]; exact hT.2 18 _
        refine ⟨(show 0 ≤ (x10 + u6_36) ∧ (x10 + u6_36) < 90100 from by (first | omega | (simp only [st_s] <;> omega) | assumption | omega)), ?_⟩
        intro x12 r_x12 e_x12
        have b_x12 : 0 ≤ x12 ∧ x12 ≤ 1499 := by rw [e_x12]; exact hT.2 20 _
        refine ⟨(show 0 ≤ x12 ∧ x12 < 1501 from by (first | omega | (simp only [st_s] <;> omega) | assumption | omega)), ?_⟩
        intro x14 r_x14 e_x14
        have b_x14 : 0 ≤ x14 ∧ x14 ≤ 4 := by rw [e_x14]; exact hT.2 13 _
        refine ⟨fun c15 => ?_, fun c15 => ?_⟩
        ·
          refine ⟨(⟨by (first | omega | (simp only [st_s] <;> omega) | assumption | omega), by (first | omega | (simp only [st_s] <;> omega) | assumption | omega)⟩ : rg (u6_36 + 1)), ?_⟩
          exact ih_36 _ _ _ _ (show (61 - (u6_36 + 1) : Int) < ((m_36 : Nat) : Int) from by ((first | omega | (simp only [st_s] <;> omega) | assumption | omega))) hT G21 G22 (show 0 ≤ u4_36 from by (first | omega | (simp only [st_s] <;> omega) | assumption | omega)) (show u4_36 ≤ 60 from by (first | omega | (simp only [st_s] <;> omega) | assumption | omega)) (show 0 ≤ u5_36 from by (first | omega | (simp only [st_s] <;> omega) | assumption | omega)) (show u5_36 + u4_36 ≤ 200 from by (first | omega | (simp only [st_s] <;> omega) | assumption | omega)) (show 0 ≤ (u6_36 + 1) from by (first | omega | (simp only [st_s] <;> omega) | assumption | omega)) (show (u6_36 + 1) ≤ u4_36 from by (first | omega | (simp only [st_s] <;> omega) | assumption | omega)) (show (τ_36.1 35) = (σ.1 35) from by (first | omega | (simp only [st_s] <;> omega) | assumption | omega))
        ·
          refine ⟨(show 0 ≤ (u5_36 + u6_36) ∧ (u5_36 + u6_36) < 202 from by (first | omega | (simp only [st_s] <;> omega) | assumption | omega)), ?_⟩
          intro x18 r_x18 e_x18
          have b_x18 : 0 ≤ x18 ∧ x18 ≤ 1000 := by rw [e_x18]; exact hT.2 41 _
          refine ⟨fun c19 => ?_, fun c19 => ?_⟩
          ·
            refine h117 _ _ _ _ _ _ _ _ _ ?_
            refine ⟨fun c55 => ?_, fun c55 => ?_⟩
            ·
              refine ⟨(show 0 ≤ x12 ∧ x12 < 1501 from by (first | omega | (simp only [st_s] <;> omega) | assumption | omega)), ?_⟩
              intro x57 r_x57 e_x57
              have b_x57 : 0 ≤ x57 ∧ x57 ≤ 30000 := by rw [e_x57]; exact hT.2 14 _
              refine ⟨(show 0 ≤ (x57 + 1) ∧ (x57 + 1) < 30400 from by (first | omega | (simp only [st_s] <;> omega) | assumption | omega)), ?_⟩
              intro x59 r_x59 e_x59
              have b_x59 : 0 ≤ x59 ∧ x59 ≤ 999 := by rw [e_x59]; exact hT.2 16 _
              refine ⟨(show 0 ≤ (u5_36 + u6_36) ∧ (u5_36 + u6_36) < 202 from by (first | omega | (simp only [st_s] <;> omega) | assumption | omega)), ?_⟩
              intro x61 r_x61 e_x61
              have b_x61 : 0 ≤ x61 ∧ x61 ≤ 40000 := by rw [e_x61]; exact hT.2 40 _
              refine ⟨(show 0 ≤ x59 ∧ x59 < 1001 from by (first | omega | (simp only [st_s] <;> omega) | assumption | omega)), ?_⟩
              refine ⟨(⟨by (first | omega | (simp only [st_s] <;> omega) | assumption | omega), by (first | omega | (simp only [st_s] <;> omega) | assumption | omega)⟩ : rg (x61 + 1)), ?_⟩
              replace hT := mT_a (k := 48) (j := x59) hT (show (0 : Int) ≤ (x61 + 1) ∧ (x61 + 1) ≤ 40001 from by (first | omega | (simp only [st_s] <;> omega) | assumption | omega))
              intro x64 r_x64 e_x64
              have b_x64 : 0 ≤ x64 ∧ x64 ≤ 30000 := by rw [e_x64]; exact hT.2 14 _
              refine ⟨(show 0 ≤ (x64 + 1) ∧ (x64 + 1) < 30400 from by (first | omega | (simp only [st_s] <;> omega) | assumption | omega)), ?_⟩
              intro x66 r_x66 e_x66
              have b_x66 : 0 ≤ x66 ∧ x66 ≤ 999 := by rw [e_x66]; exact hT.2 16 _
              intro x67 r_x67 e_x67
              have b_x67 : 0 ≤ x67 ∧ x67 ≤ 1000 := by rw [e_x67]; exact hT.2 41 _
              refine ⟨(show 0 ≤ x66 ∧ x66 < 1001 from by (first | omega | (simp only [st_s] <;> omega) | assumption | omega)), ?_⟩
              refine ⟨(⟨by (first | omega | (simp only [st_s] <;> omega) | assumption | omega), by (first | omega | (simp only [st_s] <;> omega) | assumption | omega)⟩ : rg (x67 - 1)), ?_⟩
              replace hT := mT_a (k := 49) (j := x66) hT (show (0 : Int) ≤ (x67 - 1) ∧ (x67 - 1) ≤ 1000 from by (first | omega | (simp only [st_s] <;> omega) | assumption | omega))
              refine ⟨(⟨by (first | omega | (simp only [st_s] <;> omega) | assumption | omega), by (first | omega | (simp only [st_s] <;> omega) | assumption | omega)⟩ : rg (u6_36 + 1)), ?_⟩
              exact ih_36 _ _ _ _ (show (61 - (u6_36 + 1) : Int) < ((m_36 : Nat) : Int) from by ((first | omega | (simp only [st_s] <;> omega) | assumption | omega))) hT G21 G22 (show 0 ≤ u4_36 from by (first | omega | (simp only [st_s] <;> omega) | assumption | omega)) (show u4_36 ≤ 60 from by (first | omega | (simp only [st_s] <;> omega) | assumption | omega)) (show 0 ≤ u5_36 from by (first | omega | (simp only [st_s] <;> omega) | assumption | omega)) (show u5_36 + u4_36 ≤ 200 from by (first | omega | (simp only [st_s] <;> omega) | assumption | omega)) (show 0 ≤ (u6_36 + 1) from by (first | omega | (simp only [st_s] <;> omega) | assumption | omega)) (show (u6_36 + 1) ≤ u4_36 from by (first | omega | (simp only [st_s] <;> omega) | assumption | omega)) (show (τ_36.1 35) = (σ.1 35) from by (first | omega | (simp only [st_s] <;> omega) | assumption | omega))
            ·
              refine ⟨_, K_X13_wrong hT (show 1 ≤ 16 from by (first | omega | (simp only [st_s] <;> omega) | assumption | omega)) (show 16 ≤ 19 from by (first | omega | (simp only [st_s] <;> omega) | assumption | omega)), ?_⟩
              intro τ73 hn_τ73 hf_τ73 hq
              obtain ⟨hT, q71_1, q71_2⟩ := hq
              replace q71_1 : ¬ (τ73.1 35) = 0 := q71_1
              replace q71_2 : ¬ (τ_36.1 35) = 0 → (τ73.1 35) = (τ_36.1 35) := q71_2
              have w30_τ73 : τ73.1 30 = τ_36.1 30 := hf_τ73.1 30 (by decide)
              have w31_τ73 : τ73.1 31 = τ_36.1 31 := hf_τ73.1 31 (by decide)
              have w34_τ73 : τ73.1 34 = τ_36.1 34 := hf_τ73.1 34 (by decide)
              have g21_τ73 : τ73.2.1 21 = τ_36.2.1 21 := hf_τ73.2.1 21 (by decide)
              have g22_τ73 : τ73.2.1 22 = τ_36.2.1 22 := hf_τ73.2.1 22 (by decide)
              have G21 : τ73.2.1 21 = σ.2.1 21 := (g21_τ73).trans G21
              have G22 : τ73.2.1 22 = σ.2.1 22 := (g22_τ73).trans G22
              have A21 : ∀ j, 0 ≤ τ73.2.1 21 j ∧ τ73.2.1 21 j ≤ 20000 := fun j => hT.2 21 j
              have A22 : ∀ j, 0 ≤ τ73.2.1 22 j ∧ τ73.2.1 22 j ≤ 20000 := fun j => hT.2 22 j
              have v30 : 0 ≤ τ73.1 30 ∧ τ73.1 30 ≤ 200 := hT.1 30
              have v31 : 0 ≤ τ73.1 31 ∧ τ73.1 31 ≤ 40000 := hT.1 31
              have v34 : 0 ≤ τ73.1 34 ∧ τ73.1 34 ≤ 1001 := hT.1 34
              have v35 : 0 ≤ τ73.1 35 ∧ τ73.1 35 ≤ 19 := hT.1 35
              exact ⟨hT, (show (σ.1 35) = 0 → (τ73.1 35) = 0 → 1 ≤ (τ73.1 30) from by (first | omega | (simp only [st_s] <;> omega) | assumption | omega)), (show ¬ (σ.1 35) = 0 → (τ73.1 35) = (σ.1 35) from by (first | omega | (simp only [st_s] <;> omega) | assumption | omega))⟩
          ·
            intro x20 r_x20 e_x20
            have b_x20 : 0 ≤ x20 ∧ x20 ≤ 40000 := by rw [e_x20]; exact hT.2 40 _
            refine ⟨(show 0 ≤ x20 ∧ x20 < 42000 from by (first | omega | (simp only [st_s] <;> omega) | assumption | omega)), ?_⟩
            intro x22 r_x22 e_x22
            have b_x22 : 0 ≤ x22 ∧ x22 ≤ 999 := by rw [e_x22]; exact hT.2 43 _
            intro x23 r_x23 e_x23
            have b_x23 : 0 ≤ x23 ∧ x23 ≤ 30000 := by rw [e_x23]; exact hT.2 14 _
            refine ⟨(show 0 ≤ x23 ∧ x23 < 30400 from by (first | omega | (simp only [st_s] <;> omega) | assumption | omega)), ?_⟩
            intro x25 r_x25 e_x25
            have b_x25 : 0 ≤ x25 ∧ x25 ≤ 999 := by rw [e_x25]; exact hT.2 16 _
            refine ⟨fun c26 => ?_, fun c26 => ?_⟩
            ·
              refine h117 _ _ _ _ _ _ _ _ _ ?_
              refine ⟨fun c55 => ?_, fun c55 => ?_⟩
              ·
                refine ⟨(show 0 ≤ x12 ∧ x12 < 1501 from by (first | omega | (simp only [st_s] <;> omega) | assumption | omega)), ?_⟩
                intro x57 r_x57 e_x57
                have b_x57 : 0 ≤ x57 ∧ x57 ≤ 30000 := by rw [e_x57]; exact hT.2 14 _
                refine ⟨(show 0 ≤ (x57 + 1) ∧ (x57 + 1) < 30400 from by (first | omega | (simp only [st_s] <;> omega) | assumption | omega)), ?_⟩
                intro x59 r_x59 e_x59
                have b_x59 : 0 ≤ x59 ∧ x59 ≤ 999 := by rw [e_x59]; exact hT.2 16 _
                refine ⟨(show 0 ≤ (u5_36 + u6_36) ∧ (u5_36 + u6_36) < 202 from by (first | omega | (simp only [st_s] <;> omega) | assumption | omega)), ?_⟩
                intro x61 r_x61 e_x61
                have b_x61 : 0 ≤ x61 ∧ x61 ≤ 40000 := by rw [e_x61]; exact hT.2 40 _
                refine ⟨(show 0 ≤ x59 ∧ x59 < 1001 from by (first | omega | (simp only [st_s] <;> omega) | assumption | omega)), ?_⟩
                refine ⟨(⟨by (first | omega | (simp only [st_s] <;> omega) | assumption | omega), by (first | omega | (simp only [st_s] <;> omega) | assumption | omega)⟩ : rg (x61 + 1)), ?_⟩
                replace hT := mT_a (k := 48) (j := x59) hT (show (0 : Int) ≤ (x61 + 1) ∧ (x61 + 1) ≤ 40001 from by (first | omega | (simp only [st_s] <;> omega) | assumption | omega))
                intro x64 r_x64 e_x64
                have b_x64 : 0 ≤ x64 ∧ x64 ≤ 30000 := by rw [e_x64]; exact hT.2 14 _
                refine ⟨(show 0 ≤ (x64 + 1) ∧ (x64 + 1) < 30400 from by (first | omega | (simp only [st_s] <;> omega) | assumption | omega)), ?_⟩
                intro x66 r_x66 e_x66
                have b_x66 : 0 ≤ x66 ∧ x66 ≤ 999 := by rw [e_x66]; exact hT.2 16 _
                intro x67 r_x67 e_x67
                have b_x67 : 0 ≤ x67 ∧ x67 ≤ 1000 := by rw [e_x67]; exact hT.2 41 _
                refine ⟨(show 0 ≤ x66 ∧ x66 < 1001 from by (first | omega | (simp only [st_s] <;> omega) | assumption | omega)), ?_⟩
                refine ⟨(⟨by (first | omega | (simp only [st_s] <;> omega) | assumption | omega), by (first | omega | (simp only [st_s] <;> omega) | assumption | omega)⟩ : rg (x67 - 1)), ?_⟩
                replace hT := mT_a (k := 49) (j := x66) hT (show (0 : Int) ≤ (x67 - 1) ∧ (x67 - 1) ≤ 1000 from by (first | omega | (simp only [st_s] <;> omega) | assumption | omega))
                refine ⟨(⟨by (first | omega | (simp only [st_s] <;> omega) | assumption | omega), by (first | omega | (simp only [st_s] <;> omega) | assumption | omega)⟩ : rg (u6_36 + 1)), ?_⟩
                exact ih_36 _ _ _ _ (show (61 - (u6_36 + 1) : Int) < ((m_36 : Nat) : Int) from by ((first | omega | (simp only [st_s] <;> omega) | assumption | omega))) hT G21 G22 (show 0 ≤ u4_36 from by (first | omega | (simp only [st_s] <;> omega) | assumption | omega)) (show u4_36 ≤ 60 from by (first | omega | (simp only [st_s] <;> omega) | assumption | omega)) (show 0 ≤ u5_36 from by (first | omega | (simp only [st_s] <;> omega) | assumption | omega)) (show u5_36 + u4_36 ≤ 200 from by (first | omega | (simp only [st_s] <;> omega) | assumption | omega)) (show 0 ≤ (u6_36 + 1) from by (first | omega | (simp only [st_s] <;> omega) | assumption | omega)) (show (u6_36 + 1) ≤ u4_36 from by (first | omega | (simp only [st_s] <;> omega) | assumption | omega)) (show (τ_36.1 35) = (σ.1 35) from by (first | omega | (simp only [st_s] <;> omega) | assumption | omega))
              ·
                refine ⟨_, K_X13_wrong hT (show 1 ≤ 16 from by (first | omega | (simp only [st_s] <;> omega) | assumption | omega)) (show 16 ≤ 19 from by (first | omega | (simp only [st_s] <;> omega) | assumption | omega)), ?_⟩
                intro τ73 hn_τ73 hf_τ73 hq
                obtain ⟨hT, q71_1, q71_2⟩ := hq
                replace q71_1 : ¬ (τ73.1 35) = 0 := q71_1
                replace q71_2 : ¬ (τ_36.1 35) = 0 → (τ73.1 35) = (τ_36.1 35) := q71_2
                have w30_τ73 : τ73.1 30 = τ_36.1 30 := hf_τ73.1 30 (by decide)
                have w31_τ73 : τ73.1 31 = τ_36.1 31 := hf_τ73.1 31 (by decide)
                have w34_τ73 : τ73.1 34 = τ_36.1 34 := hf_τ73.1 34 (by decide)
                have g21_τ73 : τ73.2.1 21 = τ_36.2.1 21 := hf_τ73.2.1 21 (by decide)
                have g22_τ73 : τ73.2.1 22 = τ_36.2.1 22 := hf_τ73.2.1 22 (by decide)
                have G21 : τ73.2.1 21 = σ.2.1 21 := (g21_τ73).trans G21
                have G22 : τ73.2.1 22 = σ.2.1 22 := (g22_τ73).trans G22
                have A21 : ∀ j, 0 ≤ τ73.2.1 21 j ∧ τ73.2.1 21 j ≤ 20000 := fun j => hT.2 21 j
                have A22 : ∀ j, 0 ≤ τ73.2.1 22 j ∧ τ73.2.1 22 j ≤ 20000 := fun j => hT.2 22 j
                have v30 : 0 ≤ τ73.1 30 ∧ τ73.1 30 ≤ 200 := hT.1 30
                have v31 : 0 ≤ τ73.1 31 ∧ τ73.1 31 ≤ 40000 := hT.1 31
                have v34 : 0 ≤ τ73.1 34 ∧ τ73.1 34 ≤ 1001 := hT.1 34
                have v35 : 0 ≤ τ73.1 35 ∧ τ73.1 35 ≤ 19 := hT.1 35
                exact ⟨hT, (show (σ.1 35) = 0 → (τ73.1 35) = 0 → 1 ≤ (τ73.1 30) from by (first | omega | (simp only [st_s] <;> omega) | assumption | omega)), (show ¬ (σ.1 35) = 0 → (τ73.1 35) = (σ.1 35) from by (first | omega | (simp only [st_s] <;> omega) | assumption | omega))⟩
            ·
              refine h117 _ _ _ _ _ _ _ _ _ ?_
              refine ⟨fun c55 => ?_, fun c55 => ?_⟩
              ·
                refine ⟨(show 0 ≤ x12 ∧ x12 < 1501 from by (first | omega | (simp only [st_s] <;> omega) | assumption | omega)), ?_⟩
                intro x57 r_x57 e_x57
                have b_x57 : 0 ≤ x57 ∧ x57 ≤ 30000 := by rw [e_x57]; exact hT.2 14 _
                refine ⟨(show 0 ≤ (x57 + 1) ∧ (x57 + 1) < 30400 from by (first | omega | (simp only [st_s] <;> omega) | assumption | omega)), ?_⟩
                intro x59 r_x59 e_x59
                have b_x59 : 0 ≤ x59 ∧ x59 ≤ 999 := by rw [e_x59]; exact hT.2 16 _
                refine ⟨(show 0 ≤ (u5_36 + u6_36) ∧ (u5_36 + u6_36) < 202 from by (first | omega | (simp only [st_s] <;> omega) | assumption | omega)), ?_⟩
                intro x61 r_x61 e_x61
                have b_x61 : 0 ≤ x61 ∧ x61 ≤ 40000 := by rw [e_x61]; exact hT.2 40 _
                refine ⟨(show 0 ≤ x59 ∧ x59 < 1001 from by (first | omega | (simp only [st_s] <;> omega) | assumption | omega)), ?_⟩
                refine ⟨(⟨by (first | omega | (simp only [st_s] <;> omega) | assumption | omega), by (first | omega | (simp only [st_s] <;> omega) | assumption | omega)⟩ : rg (x61 + 1)), ?_⟩
                replace hT := mT_a (k := 48) (j := x59) hT (show (0 : Int) ≤ (x61 + 1) ∧ (x61 + 1) ≤ 40001 from by (first | omega | (simp only [st_s] <;> omega) | assumption | omega))
                intro x64 r_x64 e_x64
                have b_x64 : 0 ≤ x64 ∧ x64 ≤ 30000 := by rw [e_x64]; exact hT.2 14 _
                refine ⟨(show 0 ≤ (x64 + 1) ∧ (x64 + 1) < 30400 from by (first | omega | (simp only [st_s] <;> omega) | assumption | omega)), ?_⟩
                intro x66 r_x66 e_x66
                have b_x66 : 0 ≤ x66 ∧ x66 ≤ 999 := by rw [e_x66]; exact hT.2 16 _
                intro x67 r_x67 e_x67
                have b_x67 : 0 ≤ x67 ∧ x67 ≤ 1000 := by rw [e_x67]; exact hT.2 41 _
                refine ⟨(show 0 ≤ x66 ∧ x66 < 1001 from by (first | omega | (simp only [st_s] <;> omega) | assumption | omega)), ?_⟩
                refine ⟨(⟨by (first | omega | (simp only [st_s] <;> omega) | assumption | omega), by (first | omega | (simp only [st_s] <;> omega) | assumption | omega)⟩ : rg (x67 - 1)), ?_⟩
                replace hT := mT_a (k := 49) (j := x66) hT (show (0 : Int) ≤ (x67 - 1) ∧ (x67 - 1) ≤ 1000 from by (first | omega | (simp only [st_s] <;> omega) | assumption | omega))
                refine ⟨(⟨by (first | omega | (simp only [st_s] <;> omega) | assumption | omega), by (first | omega | (simp only [st_s] <;> omega) | assumption | omega)⟩ : rg (u6_36 + 1)), ?_⟩
                exact ih_36 _ _ _ _ (show (61 - (u6_36 + 1) : Int) < ((m_36 : Nat) : Int) from by ((first | omega | (simp only [st_s] <;> omega) | assumption | omega))) hT G21 G22 (show 0 ≤ u4_36 from by (first | omega | (simp only [st_s] <;> omega) | assumption | omega)) (show u4_36 ≤ 60 from by (first | omega | (simp only [st_s] <;> omega) | assumption | omega)) (show 0 ≤ u5_36 from by (first | omega | (simp only [st_s] <;> omega) | assumption | omega)) (show u5_36 + u4_36 ≤ 200 from by (first | omega | (simp only [st_s] <;> omega) | assumption | omega)) (show 0 ≤ (u6_36 + 1) from by (first | omega | (simp only [st_s] <;> omega) | assumption | omega)) (show (u6_36 + 1) ≤ u4_36 from by (first | omega | (simp only [st_s] <;> omega) | assumption | omega)) (show (τ_36.1 35) = (σ.1 35) from by (first | omega | (simp only [st_s] <;> omega) | assumption | omega))
              ·
                refine ⟨_, K_X13_wrong hT (show 1 ≤ 16 from by (first | omega | (simp only [st_s] <;> omega) | assumption | omega)) (show 16 ≤ 19 from by (first | omega | (simp only [st_s] <;> omega) | assumption | omega)), ?_⟩
                intro τ73 hn_τ73 hf_τ73 hq
                obtain ⟨hT, q71_1, q71_2⟩ := hq
                replace q71_1 : ¬ (τ73.1 35) = 0 := q71_1
                replace q71_2 : ¬ (τ_36.1 35) = 0 → (τ73.1 35) = (τ_36.1 35) := q71_2
                have w30_τ73 : τ73.1 30 = τ_36.1 30 := hf_τ73.1 30 (by decide)
                have w31_τ73 : τ73.1 31 = τ_36.1 31 := hf_τ73.1 31 (by decide)
                have w34_τ73 : τ73.1 34 = τ_36.1 34 := hf_τ73.1 34 (by decide)
                have g21_τ73 : τ73.2.1 21 = τ_36.2.1 21 := hf_τ73.2.1 21 (by decide)
                have g22_τ73 : τ73.2.1 22 = τ_36.2.1 22 := hf_τ73.2.1 22 (by decide)
                have G21 : τ73.2.1 21 = σ.2.1 21 := (g21_τ73).trans G21
                have G22 : τ73.2.1 22 = σ.2.1 22 := (g22_τ73).trans G22
                have A21 : ∀ j, 0 ≤ τ73.2.1 21 j ∧ τ73.2.1 21 j ≤ 20000 := fun j => hT.2 21 j
                have A22 : ∀ j, 0 ≤ τ73.2.1 22 j ∧ τ73.2.1 22 j ≤ 20000 := fun j => hT.2 22 j
                have v30 : 0 ≤ τ73.1 30 ∧ τ73.1 30 ≤ 200 := hT.1 30
                have v31 : 0 ≤ τ73.1 31 ∧ τ73.1 31 ≤ 40000 := hT.1 31
                have v34 : 0 ≤ τ73.1 34 ∧ τ73.1 34 ≤ 1001 := hT.1 34
                have v35 : 0 ≤ τ73.1 35 ∧ τ73.1 35 ≤ 19 := hT.1 35
                exact ⟨hT, (show (σ.1 35) = 0 → (τ73.1 35) = 0 → 1 ≤ (τ73.1 30) from by (first | omega | (simp only [st_s] <;> omega) | assumption | omega)), (show ¬ (σ.1 35) = 0 → (τ73.1 35) = (σ.1 35) from by (first | omega | (simp only [st_s] <;> omega) | assumption | omega))⟩
  refine ⟨(show 0 ≤ n1 ∧ n1 < 1501 from by (first | omega | (simp only [st_s] <;> omega) | assumption | omega)), ?_⟩
  intro x2 r_x2 e_x2
  have b_x2 : 0 ≤ x2 ∧ x2 ≤ 60 := by rw [e_x2]; exact hT.2 19 _
  refine ⟨fun c3 => ?_, fun c3 => ?_⟩
  ·
    refine ⟨(⟨by (first | omega | (simp only [st_s] <;> omega) | assumption | omega), by (first | omega | (simp only [st_s] <;> omega) | assumption | omega)⟩ : rg (σ.1 30 - x2)), ?_⟩
    exact l_36 ((61 - 0 : Int).toNat + 1) _ _ _ _ (show (61 - 0 : Int) < (((61 - 0 : Int).toNat + 1 : Nat) : Int) from by ((first | omega | (simp only [st_s] <;> omega) | assumption | omega))) hT G21 G22 (show 0 ≤ x2 from by (first | omega | (simp only [st_s] <;> omega) | assumption | omega)) (show x2 ≤ 60 from by (first | omega | (simp only [st_s] <;> omega) | assumption | omega)) (show 0 ≤ (σ.1 30 - x2) from by (first | omega | (simp only [st_s] <;> omega) | assumption | omega)) (show (σ.1 30 - x2) + x2 ≤ 200 from by (first | omega | (simp only [st_s] <;> omega) | assumption | omega)) (show 0 ≤ 0 from by (first | omega | (simp only [st_s] <;> omega) | assumption | omega)) (show 0 ≤ x2 from by (first | omega | (simp only [st_s] <;> omega) | assumption | omega)) (show (σ.1 35) = (σ.1 35) from by (first | omega | (simp only [st_s] <;> omega) | assumption | omega))
  ·
    refine ⟨_, K_X13_wrong hT (show 1 ≤ 15 from by (first | omega | (simp only [st_s] <;> omega) | assumption | omega)) (show 15 ≤ 19 from by (first | omega | (simp only [st_s] <;> omega) | assumption | omega)), ?_⟩
    intro τ7 hn_τ7 hf_τ7 hq
    obtain ⟨hT, q5_1, q5_2⟩ := hq
    replace q5_1 : ¬ (τ7.1 35) = 0 := q5_1
    replace q5_2 : ¬ (σ.1 35) = 0 → (τ7.1 35) = (σ.1 35) := q5_2
    have w30_τ7 : τ7.1 30 = σ.1 30 := hf_τ7.1 30 (by decide)
    have w31_τ7 : τ7.1 31 = σ.1 31 := hf_τ7.1 31 (by decide)
    have w34_τ7 : τ7.1 34 = σ.1 34 := hf_τ7.1 34 (by decide)
    have g21_τ7 : τ7.2.1 21 = σ.2.1 21 := hf_τ7.2.1 21 (by decide)
    have g22_τ7 : τ7.2.1 22 = σ.2.1 22 := hf_τ7.2.1 22 (by decide)
    have G21 : τ7.2.1 21 = σ.2.1 21 := (g21_τ7).trans G21
    have G22 : τ7.2.1 22 = σ.2.1 22 := (g22_τ7).trans G22
    have A21 : ∀ j, 0 ≤ τ7.2.1 21 j ∧ τ7.2.1 21 j ≤ 20000 := fun j => hT.2 21 j
    have A22 : ∀ j, 0 ≤ τ7.2.1 22 j ∧ τ7.2.1 22 j ≤ 20000 := fun j => hT.2 22 j
    have v30 : 0 ≤ τ7.1 30 ∧ τ7.1 30 ≤ 200 := hT.1 30
    have v31 : 0 ≤ τ7.1 31 ∧ τ7.1 31 ≤ 40000 := hT.1 31
    have v34 : 0 ≤ τ7.1 34 ∧ τ7.1 34 ≤ 1001 := hT.1 34
    have v35 : 0 ≤ τ7.1 35 ∧ τ7.1 35 ≤ 19 := hT.1 35
    exact ⟨hT, (show (σ.1 35) = 0 → (τ7.1 35) = 0 → 1 ≤ (τ7.1 30) from by (first | omega | (simp only [st_s] <;> omega) | assumption | omega)), (show ¬ (σ.1 35) = 0 → (τ7.1 35) = (σ.1 35) from by (first | omega | (simp only [st_s] <;> omega) | assumption | omega))⟩
set_option maxHeartbeats 1000000 in
theorem K_X13_pushRow_q17 {n2 : Int} {n3 : Int} {n4 : Int} {σ : S0} (hT : m_T σ) (p1 : 0 ≤ n2) (p2 : n2 ≤ 30000) (p3 : 0 ≤ n3) (p4 : 0 ≤ n4) (p5 : n4 ≤ 20000) (p6 : n3 ≤ 300) : W_X13_pushRow_q17 n2 n3 n4 σ (fun (τ : S0) => (m_T τ) ∧ ((σ.1 35) = 0 → (τ.1 35) = 0 → (τ.1 30) = (σ.1 30) + 1 ∧ 1 ≤ (τ.1 30)) ∧ (¬ (σ.1 35) = 0 → (τ.1 35) = (σ.1 35))) := by
  have v30 : 0 ≤ σ.1 30 ∧ σ.1 30 ≤ 200 := hT.1 30
  have v31 : 0 ≤ σ.1 31 ∧ σ.1 31 ≤ 40000 := hT.1 31
  have v33 : 0 ≤ σ.1 33 ∧ σ.1 33 ≤ 40000 := hT.1 33
  have v35 : 0 ≤ σ.1 35 ∧ σ.1 35 ≤ 19 := hT.1 35
  have W33 : σ.1 33 = σ.1 33 := rfl
  intro P34 P43 h34 h43
  have l_43 : ∀ (m_43 : Nat) (u5_43 : Int) (τ_43 : S0), n3 - u5_43 + 1 < (m_43 : Int) → (m_T τ_43) → (τ_43.1 33 = σ.1 33) → (n3 ≤ 1000) → ((τ_43.1 30) = (σ.1 30)) → ((τ_43.1 31) = (σ.1 31)) → ((τ_43.1 35) = (σ.1 35)) → ((τ_43.1 31) + (τ_43.1 33) + n3 ≤ 40000) → (¬ (τ_43.1 30) = 200) → (0 ≤ u5_43) → (u5_43 ≤ n3) → P43 n2 n3 n4 u5_43 τ_43 := by
    intro m_43
    induction m_43 with
    | zero =>
      intro u5_43 τ_43 hm hT W33 i43_1 i43_2 i43_3 i43_4 i43_5 i43_6 i43_7 i43_8
      have v30 : 0 ≤ τ_43.1 30 ∧ τ_43.1 30 ≤ 200 := hT.1 30
      have v31 : 0 ≤ τ_43.1 31 ∧ τ_43.1 31 ≤ 40000 := hT.1 31
      have v33 : 0 ≤ τ_43.1 33 ∧ τ_43.1 33 ≤ 40000 := hT.1 33
      have v35 : 0 ≤ τ_43.1 35 ∧ τ_43.1 35 ≤ 19 := hT.1 35
      exfalso; (first | omega | (simp only [st_s] <;> omega) | assumption | omega)
    | succ m_43 ih_43 =>
      intro u5_43 τ_43 hm_43 hT W33 i43_1 i43_2 i43_3 i43_4 i43_5 i43_6 i43_7 i43_8
      have v30 : 0 ≤ τ_43.1 30 ∧ τ_43.1 30 ≤ 200 := hT.1 30
      have v31 : 0 ≤ τ_43.1 31 ∧ τ_43.1 31 ≤ 40000 := hT.1 31
      have v33 : 0 ≤ τ_43.1 33 ∧ τ_43.1 33 ≤ 40000 := hT.1 33
      have v35 : 0 ≤ τ_43.1 35 ∧ τ_43.1 35 ≤ 19 := hT.1 35
      refine h43 n2 n3 n4 u5_43 τ_43 ?_
      refine ⟨fun c8 => ?_, fun c8 => ?_⟩
      ·
        refine ⟨(show 0 ≤ τ_43.1 30 ∧ τ_43.1 30 < 202 from by (first | omega | (simp only [st_s] <;> omega) | assumption | omega)), ?_⟩
        replace hT := mT_a (k := 40) (j := (τ_43.1 30)) hT (show (0 : Int) ≤ (τ_43.1 31) ∧ (τ_43.1 31) ≤ 40000 from by (first | omega | (simp only [st_s] <;> omega) | assumption | omega))
        replace hT := mT_a (k := 41) (j := (τ_43.1 30)) hT (show (0 : Int) ≤ n3 ∧ n3 ≤ 1000 from by (first | omega | (simp only [st_s] <;> omega) | assumption | omega))
        replace hT := mT_a (k := 42) (j := (τ_43.1 30)) hT (show (0 : Int) ≤ n4 ∧ n4 ≤ 20000 from by (first | omega | (simp only [st_s] <;> omega) | assumption | omega))
        refine ⟨(⟨by (first | omega | (simp only [st_s] <;> omega) | assumption | omega), by (first | omega | (simp only [st_s] <;> omega) | assumption | omega)⟩ : rg (τ_43.1 31 + n3)), ?_⟩
        replace hT := mT_v (i := 31) hT (show 0 ≤ (τ_43.1 31 + n3) ∧ (τ_43.1 31 + n3) ≤ 40000 from by (first | omega | (simp only [st_s] <;> omega) | assumption | omega))
        refine ⟨(⟨by (first | omega | (simp only [st_s] <;> omega) | assumption | omega), by (first | omega | (simp only [st_s] <;> omega) | assumption | omega)⟩ : rg (τ_43.1 30 + 1)), ?_⟩
        replace hT := mT_v (i := 30) hT (show 0 ≤ (τ_43.1 30 + 1) ∧ (τ_43.1 30 + 1) ≤ 200 from by (first | omega | (simp only [st_s] <;> omega) | assumption | omega))
        exact ⟨hT, (show (σ.1 35) = 0 → (τ_43.1 35) = 0 → ((τ_43.1 30 + 1)) = (σ.1 30) + 1 ∧ 1 ≤ ((τ_43.1 30 + 1)) from by (first | omega | (simp only [st_s] <;> omega) | assumption | omega)), (show ¬ (σ.1 35) = 0 → (τ_43.1 35) = (σ.1 35) from by (first | omega | (simp only [st_s] <;> omega) | assumption | omega))⟩
      ·
        refine ⟨(show 0 ≤ (n2 + u5_43) ∧ (n2 + u5_43) < 30400 from by (first | omega | (simp only [st_s] <;> omega) | assumption | omega)), ?_⟩
        intro x13 r_x13 e_x13
        have b_x13 : 0 ≤ x13 ∧ x13 ≤ 999 := by rw [e_x13]; exact hT.2 16 _
        refine ⟨(show 0 ≤ (τ_43.1 31 + u5_43) ∧ (τ_43.1 31 + u5_43) < 42000 from by (first | omega | (simp only [st_s] <;> omega) | assumption | omega)), ?_⟩
        replace hT := mT_a (k := 43) (j := (τ_43.1 31 + u5_43)) hT (show (0 : Int) ≤ x13 ∧ x13 ≤ 999 from by (first | omega | (simp only [st_s] <;> omega) | assumption | omega))
        refine ⟨(⟨by (first | omega | (simp only [st_s] <;> omega) | assumption | omega), by (first | omega | (simp only [st_s] <;> omega) | assumption | omega)⟩ : rg (u5_43 + 1)), ?_⟩
        exact ih_43 _ _ (show (n3 - (u5_43 + 1) + 1 : Int) < ((m_43 : Nat) : Int) from by ((first | omega | (simp only [st_s] <;> omega) | assumption | omega))) hT (show τ_43.1 33 = σ.1 33 from by omega) (show n3 ≤ 1000 from by (first | omega | (simp only [st_s] <;> omega) | assumption | omega)) (show (τ_43.1 30) = (σ.1 30) from by (first | omega | (simp only [st_s] <;> omega) | assumption | omega)) (show (τ_43.1 31) = (σ.1 31) from by (first | omega | (simp only [st_s] <;> omega) | assumption | omega)) (show (τ_43.1 35) = (σ.1 35) from by (first | omega | (simp only [st_s] <;> omega) | assumption | omega)) (show (τ_43.1 31) + (τ_43.1 33) + n3 ≤ 40000 from by (first | omega | (simp only [st_s] <;> omega) | assumption | omega)) (show ¬ (τ_43.1 30) = 200 from by (first | omega | (simp only [st_s] <;> omega) | assumption | omega)) (show 0 ≤ (u5_43 + 1) from by (first | omega | (simp only [st_s] <;> omega) | assumption | omega)) (show (u5_43 + 1) ≤ n3 from by (first | omega | (simp only [st_s] <;> omega) | assumption | omega))
  refine ⟨fun c1 => ?_, fun c1 => ?_⟩
  ·
    refine h34 _ ?_
    refine ⟨_, K_X13_wrong hT (show 1 ≤ 5 from by (first | omega | (simp only [st_s] <;> omega) | assumption | omega)) (show 5 ≤ 19 from by (first | omega | (simp only [st_s] <;> omega) | assumption | omega)), ?_⟩
    intro τ7 hn_τ7 hf_τ7 hq
    obtain ⟨hT, q5_1, q5_2⟩ := hq
    replace q5_1 : ¬ (τ7.1 35) = 0 := q5_1
    replace q5_2 : ¬ (σ.1 35) = 0 → (τ7.1 35) = (σ.1 35) := q5_2
    have w30_τ7 : τ7.1 30 = σ.1 30 := hf_τ7.1 30 (by decide)
    have w31_τ7 : τ7.1 31 = σ.1 31 := hf_τ7.1 31 (by decide)
    have w33_τ7 : τ7.1 33 = σ.1 33 := hf_τ7.1 33 (by decide)
    have W33 : τ7.1 33 = σ.1 33 := by omega
    have v30 : 0 ≤ τ7.1 30 ∧ τ7.1 30 ≤ 200 := hT.1 30
    have v31 : 0 ≤ τ7.1 31 ∧ τ7.1 31 ≤ 40000 := hT.1 31
    have v33 : 0 ≤ τ7.1 33 ∧ τ7.1 33 ≤ 40000 := hT.1 33
    have v35 : 0 ≤ τ7.1 35 ∧ τ7.1 35 ≤ 19 := hT.1 35
    exact ⟨hT, (show (σ.1 35) = 0 → (τ7.1 35) = 0 → (τ7.1 30) = (σ.1 30) + 1 ∧ 1 ≤ (τ7.1 30) from by (first | omega | (simp only [st_s] <;> omega) | assumption | omega)), (show ¬ (σ.1 35) = 0 → (τ7.1 35) = (σ.1 35) from by (first | omega | (simp only [st_s] <;> omega) | assumption | omega))⟩
  ·
    refine ⟨fun c2 => ?_, fun c2 => ?_⟩
    ·
      refine h34 _ ?_
      refine ⟨_, K_X13_wrong hT (show 1 ≤ 5 from by (first | omega | (simp only [st_s] <;> omega) | assumption | omega)) (show 5 ≤ 19 from by (first | omega | (simp only [st_s] <;> omega) | assumption | omega)), ?_⟩
      intro τ7 hn_τ7 hf_τ7 hq
      obtain ⟨hT, q5_1, q5_2⟩ := hq
      replace q5_1 : ¬ (τ7.1 35) = 0 := q5_1
      replace q5_2 : ¬ (σ.1 35) = 0 → (τ7.1 35) = (σ.1 35) := q5_2
      have w30_τ7 : τ7.1 30 = σ.1 30 := hf_τ7.1 30 (by decide)
      have w31_τ7 : τ7.1 31 = σ.1 31 := hf_τ7.1 31 (by decide)
      have w33_τ7 : τ7.1 33 = σ.1 33 := hf_τ7.1 33 (by decide)
      have W33 : τ7.1 33 = σ.1 33 := by omega
      have v30 : 0 ≤ τ7.1 30 ∧ τ7.1 30 ≤ 200 := hT.1 30
      have v31 : 0 ≤ τ7.1 31 ∧ τ7.1 31 ≤ 40000 := hT.1 31
      have v33 : 0 ≤ τ7.1 33 ∧ τ7.1 33 ≤ 40000 := hT.1 33
      have v35 : 0 ≤ τ7.1 35 ∧ τ7.1 35 ≤ 19 := hT.1 35
      exact ⟨hT, (show (σ.1 35) = 0 → (τ7.1 35) = 0 → (τ7.1 30) = (σ.1 30) + 1 ∧ 1 ≤ (τ7.1 30) from by (first | omega | (simp only [st_s] <;> omega) | assumption | omega)), (show ¬ (σ.1 35) = 0 → (τ7.1 35) = (σ.1 35) from by (first | omega | (simp only [st_s] <;> omega) | assumption | omega))⟩
    ·
      refine ⟨(⟨by (first | omega | (simp only [st_s] <;> omega) | assumption | omega), by (first | omega | (simp only [st_s] <;> omega) | assumption | omega)⟩ : rg ((σ.1 31 + σ.1 33) + n3)), ?_⟩
      refine ⟨fun c4 => ?_, fun c4 => ?_⟩
      ·
        exact l_43 ((n3 - 0 + 1 : Int).toNat + 1) _ _ (show (n3 - 0 + 1 : Int) < (((n3 - 0 + 1 : Int).toNat + 1 : Nat) : Int) from by ((first | omega | (simp only [st_s] <;> omega) | assumption | omega))) hT (show σ.1 33 = σ.1 33 from by omega) (show n3 ≤ 1000 from by (first | omega | (simp only [st_s] <;> omega) | assumption | omega)) (show (σ.1 30) = (σ.1 30) from by (first | omega | (simp only [st_s] <;> omega) | assumption | omega)) (show (σ.1 31) = (σ.1 31) from by (first | omega | (simp only [st_s] <;> omega) | assumption | omega)) (show (σ.1 35) = (σ.1 35) from by (first | omega | (simp only [st_s] <;> omega) | assumption | omega)) (show (σ.1 31) + (σ.1 33) + n3 ≤ 40000 from by (first | omega | (simp only [st_s] <;> omega) | assumption | omega)) (show ¬ (σ.1 30) = 200 from by (first | omega | (simp only [st_s] <;> omega) | assumption | omega)) (show 0 ≤ 0 from by (first | omega | (simp only [st_s] <;> omega) | assumption | omega)) (show 0 ≤ n3 from by (first | omega | (simp only [st_s] <;> omega) | assumption | omega))
      ·
        refine h34 _ ?_
        refine ⟨_, K_X13_wrong hT (show 1 ≤ 5 from by (first | omega | (simp only [st_s] <;> omega) | assumption | omega)) (show 5 ≤ 19 from by (first | omega | (simp only [st_s] <;> omega) | assumption | omega)), ?_⟩
        intro τ7 hn_τ7 hf_τ7 hq
        obtain ⟨hT, q5_1, q5_2⟩ := hq
        replace q5_1 : ¬ (τ7.1 35) = 0 := q5_1
        replace q5_2 : ¬ (σ.1 35) = 0 → (τ7.1 35) = (σ.1 35) := q5_2
        have w30_τ7 : τ7.1 30 = σ.1 30 := hf_τ7.1 30 (by decide)
        have w31_τ7 : τ7.1 31 = σ.1 31 := hf_τ7.1 31 (by decide)
        have w33_τ7 : τ7.1 33 = σ.1 33 := hf_τ7.1 33 (by decide)
        have W33 : τ7.1 33 = σ.1 33 := by omega
        have v30 : 0 ≤ τ7.1 30 ∧ τ7.1 30 ≤ 200 := hT.1 30
        have v31 : 0 ≤ τ7.1 31 ∧ τ7.1 31 ≤ 40000 := hT.1 31
        have v33 : 0 ≤ τ7.1 33 ∧ τ7.1 33 ≤ 40000 := hT.1 33
        have v35 : 0 ≤ τ7.1 35 ∧ τ7.1 35 ≤ 19 := hT.1 35
        exact ⟨hT, (show (σ.1 35) = 0 → (τ7.1 35) = 0 → (τ7.1 30) = (σ.1 30) + 1 ∧ 1 ≤ (τ7.1 30) from by (first | omega | (simp only [st_s] <;> omega) | assumption | omega)), (show ¬ (σ.1 35) = 0 → (τ7.1 35) = (σ.1 35) from by (first | omega | (simp only [st_s] <;> omega) | assumption | omega))⟩
set_option maxHeartbeats 1000000 in
theorem K_X13_pushRow_q50 {n2 : Int} {n3 : Int} {n4 : Int} {σ : S0} (hT : m_T σ) (p1 : 0 ≤ n2) (p2 : n2 ≤ 40000) (p3 : 0 ≤ n3) (p4 : 0 ≤ n4) (p5 : n4 ≤ 20000) (p6 : n3 ≤ 1000) : W_X13_pushRow_q50 n2 n3 n4 σ (fun (τ : S0) => (m_T τ) ∧ ((σ.1 35) = 0 → (τ.1 35) = 0 → (τ.1 30) = (σ.1 30) + 1 ∧ 1 ≤ (τ.1 30)) ∧ (¬ (σ.1 35) = 0 → (τ.1 35) = (σ.1 35))) := by
  have v30 : 0 ≤ σ.1 30 ∧ σ.1 30 ≤ 200 := hT.1 30
  have v31 : 0 ≤ σ.1 31 ∧ σ.1 31 ≤ 40000 := hT.1 31
  have v33 : 0 ≤ σ.1 33 ∧ σ.1 33 ≤ 40000 := hT.1 33
  have v35 : 0 ≤ σ.1 35 ∧ σ.1 35 ≤ 19 := hT.1 35
  have W33 : σ.1 33 = σ.1 33 := rfl
  intro P34 P43 h34 h43
  have l_43 : ∀ (m_43 : Nat) (u5_43 : Int) (τ_43 : S0), n3 - u5_43 + 1 < (m_43 : Int) → (m_T τ_43) → (τ_43.1 33 = σ.1 33) → (n3 ≤ 1000) → ((τ_43.1 30) = (σ.1 30)) → ((τ_43.1 31) = (σ.1 31)) → ((τ_43.1 35) = (σ.1 35)) → ((τ_43.1 31) + (τ_43.1 33) + n3 ≤ 40000) → (¬ (τ_43.1 30) = 200) → (0 ≤ u5_43) → (u5_43 ≤ n3) → P43 n2 n3 n4 u5_43 τ_43 := by
    intro m_43
    induction m_43 with
    | zero =>
      intro u5_43 τ_43 hm hT W33 i43_1 i43_2 i43_3 i43_4 i43_5 i43_6 i43_7 i43_8
      have v30 : 0 ≤ τ_43.1 30 ∧ τ_43.1 30 ≤ 200 := hT.1 30
      have v31 : 0 ≤ τ_43.1 31 ∧ τ_43.1 31 ≤ 40000 := hT.1 31
      have v33 : 0 ≤ τ_43.1 33 ∧ τ_43.1 33 ≤ 40000 := hT.1 33
      have v35 : 0 ≤ τ_43.1 35 ∧ τ_43.1 35 ≤ 19 := hT.1 35
      exfalso; (first | omega | (simp only [st_s] <;> omega) | assumption | omega)
    | succ m_43 ih_43 =>
      intro u5_43 τ_43 hm_43 hT W33 i43_1 i43_2 i43_3 i43_4 i43_5 i43_6 i43_7 i43_8
      have v30 : 0 ≤ τ_43.1 30 ∧ τ_43.1 30 ≤ 200 := hT.1 30
      have v31 : 0 ≤ τ_43.1 31 ∧ τ_43.1 31 ≤ 40000 := hT.1 31
      have v33 : 0 ≤ τ_43.1 33 ∧ τ_43.1 33 ≤ 40000 := hT.1 33
      have v35 : 0 ≤ τ_43.1 35 ∧ τ_43.1 35 ≤ 19 := hT.1 35
      refine h43 n2 n3 n4 u5_43 τ_43 ?_
      refine ⟨fun c8 => ?_, fun c8 => ?_⟩
      ·
        refine ⟨(show 0 ≤ τ_43.1 30 ∧ τ_43.1 30 < 202 from by (first | omega | (simp only [st_s] <;> omega) | assumption | omega)), ?_⟩
        replace hT := mT_a (k := 40) (j := (τ_43.1 30)) hT (show (0 : Int) ≤ (τ_43.1 31) ∧ (τ_43.1 31) ≤ 40000 from by (first | omega | (simp only [st_s] <;> omega) | assumption | omega))
        replace hT := mT_a (k := 41) (j := (τ_43.1 30)) hT (show (0 : Int) ≤ n3 ∧ n3 ≤ 1000 from by (first | omega | (simp only [st_s] <;> omega) | assumption | omega))
        replace hT := mT_a (k := 42) (j := (τ_43.1 30)) hT (show (0 : Int) ≤ n4 ∧ n4 ≤ 20000 from by (first | omega | (simp only [st_s] <;> omega) | assumption | omega))
        refine ⟨(⟨by (first | omega | (simp only [st_s] <;> omega) | assumption | omega), by (first | omega | (simp only [st_s] <;> omega) | assumption | omega)⟩ : rg (τ_43.1 31 + n3)), ?_⟩
        replace hT := mT_v (i := 31) hT (show 0 ≤ (τ_43.1 31 + n3) ∧ (τ_43.1 31 + n3) ≤ 40000 from by (first | omega | (simp only [st_s] <;> omega) | assumption | omega))
        refine ⟨(⟨by (first | omega | (simp only [st_s] <;> omega) | assumption | omega), by (first | omega | (simp only [st_s] <;> omega) | assumption | omega)⟩ : rg (τ_43.1 30 + 1)), ?_⟩
        replace hT := mT_v (i := 30) hT (show 0 ≤ (τ_43.1 30 + 1) ∧ (τ_43.1 30 + 1) ≤ 200 from by (first | omega | (simp only [st_s] <;> omega) | assumption | omega))
        exact ⟨hT, (show (σ.1 35) = 0 → (τ_43.1 35) = 0 → ((τ_43.1 30 + 1)) = (σ.1 30) + 1 ∧ 1 ≤ ((τ_43.1 30 + 1)) from by (first | omega | (simp only [st_s] <;> omega) | assumption | omega)), (show ¬ (σ.1 35) = 0 → (τ_43.1 35) = (σ.1 35) from by (first | omega | (simp only [st_s] <;> omega) | assumption | omega))⟩
      ·
        refine ⟨(show 0 ≤ (n2 + u5_43) ∧ (n2 + u5_43) < 42000 from by (first | omega | (simp only [st_s] <;> omega) | assumption | omega)), ?_⟩
        intro x13 r_x13 e_x13
        have b_x13 : 0 ≤ x13 ∧ x13 ≤ 999 := by rw [e_x13]; exact hT.2 47 _
        refine ⟨(show 0 ≤ (τ_43.1 31 + u5_43) ∧ (τ_43.1 31 + u5_43) < 42000 from by (first | omega | (simp only [st_s] <;> omega) | assumption | omega)), ?_⟩
        replace hT := mT_a (k := 43) (j := (τ_43.1 31 + u5_43)) hT (show (0 : Int) ≤ x13 ∧ x13 ≤ 999 from by (first | omega | (simp only [st_s] <;> omega) | assumption | omega))
        refine ⟨(⟨by (first | omega | (simp only [st_s] <;> omega) | assumption | omega), by (first | omega | (simp only [st_s] <;> omega) | assumption | omega)⟩ : rg (u5_43 + 1)), ?_⟩
        exact ih_43 _ _ (show (n3 - (u5_43 + 1) + 1 : Int) < ((m_43 : Nat) : Int) from by ((first | omega | (simp only [st_s] <;> omega) | assumption | omega))) hT (show τ_43.1 33 = σ.1 33 from by omega) (show n3 ≤ 1000 from by (first | omega | (simp only [st_s] <;> omega) | assumption | omega)) (show (τ_43.1 30) = (σ.1 30) from by (first | omega | (simp only [st_s] <;> omega) | assumption | omega)) (show (τ_43.1 31) = (σ.1 31) from by (first | omega | (simp only [st_s] <;> omega) | assumption | omega)) (show (τ_43.1 35) = (σ.1 35) from by (first | omega | (simp only [st_s] <;> omega) | assumption | omega)) (show (τ_43.1 31) + (τ_43.1 33) + n3 ≤ 40000 from by (first | omega | (simp only [st_s] <;> omega) | assumption | omega)) (show ¬ (τ_43.1 30) = 200 from by (first | omega | (simp only [st_s] <;> omega) | assumption | omega)) (show 0 ≤ (u5_43 + 1) from by (first | omega | (simp only [st_s] <;> omega) | assumption | omega)) (show (u5_43 + 1) ≤ n3 from by (first | omega | (simp only [st_s] <;> omega) | assumption | omega))
  refine ⟨fun c1 => ?_, fun c1 => ?_⟩
  ·
    refine h34 _ ?_
    refine ⟨_, K_X13_wrong hT (show 1 ≤ 5 from by (first | omega | (simp only [st_s] <;> omega) | assumption | omega)) (show 5 ≤ 19 from by (first | omega | (simp only [st_s] <;> omega) | assumption | omega)), ?_⟩
    intro τ7 hn_τ7 hf_τ7 hq
    obtain ⟨hT, q5_1, q5_2⟩ := hq
    replace q5_1 : ¬ (τ7.1 35) = 0 := q5_1
    replace q5_2 : ¬ (σ.1 35) = 0 → (τ7.1 35) = (σ.1 35) := q5_2
    have w30_τ7 : τ7.1 30 = σ.1 30 := hf_τ7.1 30 (by decide)
    have w31_τ7 : τ7.1 31 = σ.1 31 := hf_τ7.1 31 (by decide)
    have w33_τ7 : τ7.1 33 = σ.1 33 := hf_τ7.1 33 (by decide)
    have W33 : τ7.1 33 = σ.1 33 := by omega
    have v30 : 0 ≤ τ7.1 30 ∧ τ7.1 30 ≤ 200 := hT.1 30
    have v31 : 0 ≤ τ7.1 31 ∧ τ7.1 31 ≤ 40000 := hT.1 31
    have v33 : 0 ≤ τ7.1 33 ∧ τ7.1 33 ≤ 40000 := hT.1 33
    have v35 : 0 ≤ τ7.1 35 ∧ τ7.1 35 ≤ 19 := hT.1 35
    exact ⟨hT, (show (σ.1 35) = 0 → (τ7.1 35) = 0 → (τ7.1 30) = (σ.1 30) + 1 ∧ 1 ≤ (τ7.1 30) from by (first | omega | (simp only [st_s] <;> omega) | assumption | omega)), (show ¬ (σ.1 35) = 0 → (τ7.1 35) = (σ.1 35) from by (first | omega | (simp only [st_s] <;> omega) | assumption | omega))⟩
  ·
    refine ⟨fun c2 => ?_, fun c2 => ?_⟩
    ·
      refine h34 _ ?_
      refine ⟨_, K_X13_wrong hT (show 1 ≤ 5 from by (first | omega | (simp only [st_s] <;> omega) | assumption | omega)) (show 5 ≤ 19 from by (first | omega | (simp only [st_s] <;> omega) | assumption | omega)), ?_⟩
      intro τ7 hn_τ7 hf_τ7 hq
      obtain ⟨hT, q5_1, q5_2⟩ := hq
      replace q5_1 : ¬ (τ7.1 35) = 0 := q5_1
      replace q5_2 : ¬ (σ.1 35) = 0 → (τ7.1 35) = (σ.1 35) := q5_2
      have w30_τ7 : τ7.1 30 = σ.1 30 := hf_τ7.1 30 (by decide)
      have w31_τ7 : τ7.1 31 = σ.1 31 := hf_τ7.1 31 (by decide)
      have w33_τ7 : τ7.1 33 = σ.1 33 := hf_τ7.1 33 (by decide)
      have W33 : τ7.1 33 = σ.1 33 := by omega
      have v30 : 0 ≤ τ7.1 30 ∧ τ7.1 30 ≤ 200 := hT.1 30
      have v31 : 0 ≤ τ7.1 31 ∧ τ7.1 31 ≤ 40000 := hT.1 31
      have v33 : 0 ≤ τ7.1 33 ∧ τ7.1 33 ≤ 40000 := hT.1 33
      have v35 : 0 ≤ τ7.1 35 ∧ τ7.1 35 ≤ 19 := hT.1 35
      exact ⟨hT, (show (σ.1 35) = 0 → (τ7.1 35) = 0 → (τ7.1 30) = (σ.1 30) + 1 ∧ 1 ≤ (τ7.1 30) from by (first | omega | (simp only [st_s] <;> omega) | assumption | omega)), (show ¬ (σ.1 35) = 0 → (τ7.1 35) = (σ.1 35) from by (first | omega | (simp only [st_s] <;> omega) | assumption | omega))⟩
    ·
      refine ⟨(⟨by (first | omega | (simp only [st_s] <;> omega) | assumption | omega), by (first | omega | (simp only [st_s] <;> omega) | assumption | omega)⟩ : rg ((σ.1 31 + σ.1 33) + n3)), ?_⟩
      refine ⟨fun c4 => ?_, fun c4 => ?_⟩
      ·
        exact l_43 ((n3 - 0 + 1 : Int).toNat + 1) _ _ (show (n3 - 0 + 1 : Int) < (((n3 - 0 + 1 : Int).toNat + 1 : Nat) : Int) from by ((first | omega | (simp only [st_s] <;> omega) | assumption | omega))) hT (show σ.1 33 = σ.1 33 from by omega) (show n3 ≤ 1000 from by (first | omega | (simp only [st_s] <;> omega) | assumption | omega)) (show (σ.1 30) = (σ.1 30) from by (first | omega | (simp only [st_s] <;> omega) | assumption | omega)) (show (σ.1 31) = (σ.1 31) from by (first | omega | (simp only [st_s] <;> omega) | assumption | omega)) (show (σ.1 35) = (σ.1 35) from by (first | omega | (simp only [st_s] <;> omega) | assumption | omega)) (show (σ.1 31) + (σ.1 33) + n3 ≤ 40000 from by (first | omega | (simp only [st_s] <;> omega) | assumption | omega)) (show ¬ (σ.1 30) = 200 from by (first | omega | (simp only [st_s] <;> omega) | assumption | omega)) (show 0 ≤ 0 from by (first | omega | (simp only [st_s] <;> omega) | assumption | omega)) (show 0 ≤ n3 from by (first | omega | (simp only [st_s] <;> omega) | assumption | omega))
      ·
        refine h34 _ ?_
        refine ⟨_, K_X13_wrong hT (show 1 ≤ 5 from by (first | omega | (simp only [st_s] <;> omega) | assumption | omega)) (show 5 ≤ 19 from by (first | omega | (simp only [st_s] <;> omega) | assumption | omega)), ?_⟩
        intro τ7 hn_τ7 hf_τ7 hq
        obtain ⟨hT, q5_1, q5_2⟩ := hq
        replace q5_1 : ¬ (τ7.1 35) = 0 := q5_1
        replace q5_2 : ¬ (σ.1 35) = 0 → (τ7.1 35) = (σ.1 35) := q5_2
        have w30_τ7 : τ7.1 30 = σ.1 30 := hf_τ7.1 30 (by decide)
        have w31_τ7 : τ7.1 31 = σ.1 31 := hf_τ7.1 31 (by decide)
        have w33_τ7 : τ7.1 33 = σ.1 33 := hf_τ7.1 33 (by decide)
        have W33 : τ7.1 33 = σ.1 33 := by omega
        have v30 : 0 ≤ τ7.1 30 ∧ τ7.1 30 ≤ 200 := hT.1 30
        have v31 : 0 ≤ τ7.1 31 ∧ τ7.1 31 ≤ 40000 := hT.1 31
        have v33 : 0 ≤ τ7.1 33 ∧ τ7.1 33 ≤ 40000 := hT.1 33
        have v35 : 0 ≤ τ7.1 35 ∧ τ7.1 35 ≤ 19 := hT.1 35
        exact ⟨hT, (show (σ.1 35) = 0 → (τ7.1 35) = 0 → (τ7.1 30) = (σ.1 30) + 1 ∧ 1 ≤ (τ7.1 30) from by (first | omega | (simp only [st_s] <;> omega) | assumption | omega)), (show ¬ (σ.1 35) = 0 → (τ7.1 35) = (σ.1 35) from by (first | omega | (simp only [st_s] <;> omega) | assumption | omega))⟩
set_option maxHeartbeats 1000000 in
theorem K_X13_saveTop {σ : S0} (hT : m_T σ) (p1 : 1 ≤ (σ.1 30)) (p2 : (σ.1 32) < 300) : W_X13_saveTop σ (fun (τ : S0) => (m_T τ) ∧ (¬ (σ.1 35) = 0 → (τ.1 35) = (σ.1 35)) ∧ ((τ.1 32) ≤ (σ.1 32) + 1)) := by
  have v30 : 0 ≤ σ.1 30 ∧ σ.1 30 ≤ 200 := hT.1 30
  have v31 : 0 ≤ σ.1 31 ∧ σ.1 31 ≤ 40000 := hT.1 31
  have v32 : 0 ≤ σ.1 32 ∧ σ.1 32 ≤ 300 := hT.1 32
  have v33 : 0 ≤ σ.1 33 ∧ σ.1 33 ≤ 40000 := hT.1 33
  have v35 : 0 ≤ σ.1 35 ∧ σ.1 35 ≤ 19 := hT.1 35
  have W30 : σ.1 30 = σ.1 30 := rfl
  have W31 : σ.1 31 = σ.1 31 := rfl
  intro P37 h37
  have l_37 : ∀ (m_37 : Nat) (u1_37 : Int) (u2_37 : Int) (τ_37 : S0), 1001 - u2_37 < (m_37 : Int) → (m_T τ_37) → (τ_37.1 30 = σ.1 30) → (τ_37.1 31 = σ.1 31) → (0 ≤ u1_37) → (u1_37 ≤ 1000) → ((τ_37.1 31) + (τ_37.1 33) + u1_37 ≤ 40000) → ((τ_37.1 32) = (σ.1 32)) → ((τ_37.1 33) = (σ.1 33)) → ((τ_37.1 35) = (σ.1 35)) → (0 ≤ u2_37) → (u2_37 ≤ u1_37) → P37 u1_37 u2_37 τ_37 := by
    intro m_37
    induction m_37 with
    | zero =>
      intro u1_37 u2_37 τ_37 hm hT W30 W31 i37_1 i37_2 i37_3 i37_4 i37_5 i37_6 i37_7 i37_8
      have v30 : 0 ≤ τ_37.1 30 ∧ τ_37.1 30 ≤ 200 := hT.1 30
      have v31 : 0 ≤ τ_37.1 31 ∧ τ_37.1 31 ≤ 40000 := hT.1 31
      have v32 : 0 ≤ τ_37.1 32 ∧ τ_37.1 32 ≤ 300 := hT.1 32
      have v33 : 0 ≤ τ_37.1 33 ∧ τ_37.1 33 ≤ 40000 := hT.1 33
      have v35 : 0 ≤ τ_37.1 35 ∧ τ_37.1 35 ≤ 19 := hT.1 35
      exfalso; (first | omega | (simp only [st_s] <;> omega) | assumption | omega)
    | succ m_37 ih_37 =>
      intro u1_37 u2_37 τ_37 hm_37 hT W30 W31 i37_1 i37_2 i37_3 i37_4 i37_5 i37_6 i37_7 i37_8
      have v30 : 0 ≤ τ_37.1 30 ∧ τ_37.1 30 ≤ 200 := hT.1 30
      have v31 : 0 ≤ τ_37.1 31 ∧ τ_37.1 31 ≤ 40000 := hT.1 31
      have v32 : 0 ≤ τ_37.1 32 ∧ τ_37.1 32 ≤ 300 := hT.1 32
      have v33 : 0 ≤ τ_37.1 33 ∧ τ_37.1 33 ≤ 40000 := hT.1 33
      have v35 : 0 ≤ τ_37.1 35 ∧ τ_37.1 35 ≤ 19 := hT.1 35
      refine h37 u1_37 u2_37 τ_37 ?_
      refine ⟨fun c8 => ?_, fun c8 => ?_⟩
      ·
        refine ⟨(show 0 ≤ τ_37.1 32 ∧ τ_37.1 32 < 300 from by (first | omega | (simp only [st_s] <;> omega) | assumption | omega)), ?_⟩
        replace hT := mT_a (k := 44) (j := (τ_37.1 32)) hT (show (0 : Int) ≤ (τ_37.1 33) ∧ (τ_37.1 33) ≤ 40000 from by (first | omega | (simp only [st_s] <;> omega) | assumption | omega))
        replace hT := mT_a (k := 45) (j := (τ_37.1 32)) hT (show (0 : Int) ≤ u1_37 ∧ u1_37 ≤ 1000 from by (first | omega | (simp only [st_s] <;> omega) | assumption | omega))
        refine ⟨(show 0 ≤ (τ_37.1 30 - 1) ∧ (τ_37.1 30 - 1) < 202 from by (first | omega | (simp only [st_s] <;> omega) | assumption | omega)), ?_⟩
        intro x11 r_x11 e_x11
        have b_x11 : 0 ≤ x11 ∧ x11 ≤ 20000 := by rw [e_x11]; exact hT.2 42 _
        replace hT := mT_a (k := 46) (j := (τ_37.1 32)) hT (show (0 : Int) ≤ x11 ∧ x11 ≤ 20000 from by (first | omega | (simp only [st_s] <;> omega) | assumption | omega))
        refine ⟨(⟨by (first | omega | (simp only [st_s] <;> omega) | assumption | omega), by (first | omega | (simp only [st_s] <;> omega) | assumption | omega)⟩ : rg (τ_37.1 33 + u1_37)), ?_⟩
        replace hT := mT_v (i := 33) hT (show 0 ≤ (τ_37.1 33 + u1_37) ∧ (τ_37.1 33 + u1_37) ≤ 40000 from by (first | omega | (simp only [st_s] <;> omega) | assumption | omega))
        refine ⟨(⟨by (first | omega | (simp only [st_s] <;> omega) | assumption | omega), by (first | omega | (simp only [st_s] <;> omega) | assumption | omega)⟩ : rg (τ_37.1 32 + 1)), ?_⟩
        replace hT := mT_v (i := 32) hT (show 0 ≤ (τ_37.1 32 + 1) ∧ (τ_37.1 32 + 1) ≤ 300 from by (first | omega | (simp only [st_s] <;> omega) | assumption | omega))
        exact ⟨hT, (show ¬ (σ.1 35) = 0 → (τ_37.1 35) = (σ.1 35) from by (first | omega | (simp only [st_s] <;> omega) | assumption | omega)), (show ((τ_37.1 32 + 1)) ≤ (σ.1 32) + 1 from by (first | omega | (simp only [st_s] <;> omega) | assumption | omega))⟩
      ·
        refine ⟨(show 0 ≤ (τ_37.1 30 - 1) ∧ (τ_37.1 30 - 1) < 202 from by (first | omega | (simp only [st_s] <;> omega) | assumption | omega)), ?_⟩
        intro x15 r_x15 e_x15
        have b_x15 : 0 ≤ x15 ∧ x15 ≤ 40000 := by rw [e_x15]; exact hT.2 40 _
        refine ⟨(show 0 ≤ (x15 + u2_37) ∧ (x15 + u2_37) < 42000 from by (first | omega | (simp only [st_s] <;> omega) | assumption | omega)), ?_⟩
        intro x17 r_x17 e_x17
        have b_x17 : 0 ≤ x17 ∧ x17 ≤ 999 := by rw [e_x17]; exact hT.2 43 _
        refine ⟨(show 0 ≤ (τ_37.1 33 + u2_37) ∧ (τ_37.1 33 + u2_37) < 42000 from by (first | omega | (simp only [st_s] <;> omega) | assumption | omega)), ?_⟩
        replace hT := mT_a (k := 47) (j := (τ_37.1 33 + u2_37)) hT (show (0 : Int) ≤ x17 ∧ x17 ≤ 999 from by (first | omega | (simp only [st_s] <;> omega) | assumption | omega))
        refine ⟨(⟨by (first | omega | (simp only [st_s] <;> omega) | assumption | omega), by (first | omega | (simp only [st_s] <;> omega) | assumption | omega)⟩ : rg (u2_37 + 1)), ?_⟩
        exact ih_37 _ _ _ (show (1001 - (u2_37 + 1) : Int) < ((m_37 : Nat) : Int) from by ((first | omega | (simp only [st_s] <;> omega) | assumption | omega))) hT (show τ_37.1 30 = σ.1 30 from by omega) (show τ_37.1 31 = σ.1 31 from by omega) (show 0 ≤ u1_37 from by (first | omega | (simp only [st_s] <;> omega) | assumption | omega)) (show u1_37 ≤ 1000 from by (first | omega | (simp only [st_s] <;> omega) | assumption | omega)) (show (τ_37.1 31) + (τ_37.1 33) + u1_37 ≤ 40000 from by (first | omega | (simp only [st_s] <;> omega) | assumption | omega)) (show (τ_37.1 32) = (σ.1 32) from by (first | omega | (simp only [st_s] <;> omega) | assumption | omega)) (show (τ_37.1 33) = (σ.1 33) from by (first | omega | (simp only [st_s] <;> omega) | assumption | omega)) (show (τ_37.1 35) = (σ.1 35) from by (first | omega | (simp only [st_s] <;> omega) | assumption | omega)) (show 0 ≤ (u2_37 + 1) from by (first | omega | (simp only [st_s] <;> omega) | assumption | omega)) (show (u2_37 + 1) ≤ u1_37 from by (first | omega | (simp only [st_s] <;> omega) | assumption | omega))
  refine ⟨(show 0 ≤ (σ.1 30 - 1) ∧ (σ.1 30 - 1) < 202 from by (first | omega | (simp only [st_s] <;> omega) | assumption | omega)), ?_⟩
  intro x2 r_x2 e_x2
  have b_x2 : 0 ≤ x2 ∧ x2 ≤ 1000 := by rw [e_x2]; exact hT.2 41 _
  refine ⟨(⟨by (first | omega | (simp only [st_s] <;> omega) | assumption | omega), by (first | omega | (simp only [st_s] <;> omega) | assumption | omega)⟩ : rg ((σ.1 31 + σ.1 33) + x2)), ?_⟩
  refine ⟨fun c4 => ?_, fun c4 => ?_⟩
  ·
    exact l_37 ((1001 - 0 : Int).toNat + 1) _ _ _ (show (1001 - 0 : Int) < (((1001 - 0 : Int).toNat + 1 : Nat) : Int) from by ((first | omega | (simp only [st_s] <;> omega) | assumption | omega))) hT (show σ.1 30 = σ.1 30 from by omega) (show σ.1 31 = σ.1 31 from by omega) (show 0 ≤ x2 from by (first | omega | (simp only [st_s] <;> omega) | assumption | omega)) (show x2 ≤ 1000 from by (first | omega | (simp only [st_s] <;> omega) | assumption | omega)) (show (σ.1 31) + (σ.1 33) + x2 ≤ 40000 from by (first | omega | (simp only [st_s] <;> omega) | assumption | omega)) (show (σ.1 32) = (σ.1 32) from by (first | omega | (simp only [st_s] <;> omega) | assumption | omega)) (show (σ.1 33) = (σ.1 33) from by (first | omega | (simp only [st_s] <;> omega) | assumption | omega)) (show (σ.1 35) = (σ.1 35) from by (first | omega | (simp only [st_s] <;> omega) | assumption | omega)) (show 0 ≤ 0 from by (first | omega | (simp only [st_s] <;> omega) | assumption | omega)) (show 0 ≤ x2 from by (first | omega | (simp only [st_s] <;> omega) | assumption | omega))
  ·
    refine ⟨_, K_X13_wrong hT (show 1 ≤ 5 from by (first | omega | (simp only [st_s] <;> omega) | assumption | omega)) (show 5 ≤ 19 from by (first | omega | (simp only [st_s] <;> omega) | assumption | omega)), ?_⟩
    intro τ7 hn_τ7 hf_τ7 hq
    obtain ⟨hT, q5_1, q5_2⟩ := hq
    replace q5_1 : ¬ (τ7.1 35) = 0 := q5_1
    replace q5_2 : ¬ (σ.1 35) = 0 → (τ7.1 35) = (σ.1 35) := q5_2
    have w30_τ7 : τ7.1 30 = σ.1 30 := hf_τ7.1 30 (by decide)
    have w31_τ7 : τ7.1 31 = σ.1 31 := hf_τ7.1 31 (by decide)
    have w32_τ7 : τ7.1 32 = σ.1 32 := hf_τ7.1 32 (by decide)
    have w33_τ7 : τ7.1 33 = σ.1 33 := hf_τ7.1 33 (by decide)
    have W30 : τ7.1 30 = σ.1 30 := by omega
    have W31 : τ7.1 31 = σ.1 31 := by omega
    have v30 : 0 ≤ τ7.1 30 ∧ τ7.1 30 ≤ 200 := hT.1 30
    have v31 : 0 ≤ τ7.1 31 ∧ τ7.1 31 ≤ 40000 := hT.1 31
    have v32 : 0 ≤ τ7.1 32 ∧ τ7.1 32 ≤ 300 := hT.1 32
    have v33 : 0 ≤ τ7.1 33 ∧ τ7.1 33 ≤ 40000 := hT.1 33
    have v35 : 0 ≤ τ7.1 35 ∧ τ7.1 35 ≤ 19 := hT.1 35
    exact ⟨hT, (show ¬ (σ.1 35) = 0 → (τ7.1 35) = (σ.1 35) from by (first | omega | (simp only [st_s] <;> omega) | assumption | omega)), (show (τ7.1 32) ≤ (σ.1 32) + 1 from by (first | omega | (simp only [st_s] <;> omega) | assumption | omega))⟩
set_option maxHeartbeats 1000000 in
theorem K_X13_doStep {n1 : Int} {n2 : Int} {n3 : Int} {σ : S0} (hT : m_T σ) (p1 : 0 ≤ n1) (p2 : n1 < 20000) (p3 : 0 ≤ n2) (p4 : n2 ≤ 20000) (p5 : 0 ≤ n3) (p6 : n3 ≤ 1) (p7 : ¬ σ.2.1 28 n1 = 0 → (σ.1 32) < 300) (p8 : 0 ≤ σ.2.1 27 n1 → σ.2.1 21 (σ.2.1 27 n1) + σ.2.1 22 (σ.2.1 27 n1) ≤ 20000) : W_X13_doStep n1 n2 n3 σ (fun (τ : S0) => (m_T τ) ∧ (¬ (σ.1 35) = 0 → (τ.1 35) = (σ.1 35)) ∧ ((τ.1 32) ≤ (σ.1 32) + 1) ∧ (σ.2.1 28 n1 = 0 → (τ.1 32) = (σ.1 32))) := by
  have A27 : ∀ j, (-300) ≤ σ.2.1 27 j ∧ σ.2.1 27 j ≤ 1499 := fun j => hT.2 27 j
  have A28 : ∀ j, 0 ≤ σ.2.1 28 j ∧ σ.2.1 28 j ≤ 1 := fun j => hT.2 28 j
  have v30 : 0 ≤ σ.1 30 ∧ σ.1 30 ≤ 200 := hT.1 30
  have v32 : 0 ≤ σ.1 32 ∧ σ.1 32 ≤ 300 := hT.1 32
  have v35 : 0 ≤ σ.1 35 ∧ σ.1 35 ≤ 19 := hT.1 35
  have G27 : σ.2.1 27 = σ.2.1 27 := rfl
  have G28 : σ.2.1 28 = σ.2.1 28 := rfl
  intro P96 h96
  refine ⟨(show 0 ≤ n1 ∧ n1 < 20001 from by (first | omega | (simp only [st_s] <;> omega) | assumption | omega)), ?_⟩
  intro x2 r_x2 e_x2
  have b_x2 : (-300) ≤ x2 ∧ x2 ≤ 1499 := by rw [e_x2]; exact hT.2 27 _
  refine ⟨fun c3 => ?_, fun c3 => ?_⟩
  ·
    refine ⟨(show 0 ≤ x2 ∧ x2 < 1501 from by (first | omega | (simp only [st_s] <;> omega) | assumption | omega)), ?_⟩
    intro x5 r_x5 e_x5
    have b_x5 : 0 ≤ x5 ∧ x5 ≤ 4 := by rw [e_x5]; exact hT.2 13 _
    refine ⟨fun c6 => ?_, fun c6 => ?_⟩
    ·
      refine ⟨_, K_X13_applyStep hT (show 0 ≤ x2 from by (first | omega | (simp only [st_s] <;> omega) | assumption | omega)) (show x2 < 1500 from by (first | omega | (simp only [st_s] <;> omega) | assumption | omega)) (show 0 ≤ n2 from by (first | omega | (simp only [st_s] <;> omega) | assumption | omega)) (show n2 ≤ 20000 from by (first | omega | (simp only [st_s] <;> omega) | assumption | omega)) (show 0 ≤ n3 from by (first | omega | (simp only [st_s] <;> omega) | assumption | omega)) (show n3 ≤ 1 from by (first | omega | (simp only [st_s] <;> omega) | assumption | omega)) (show σ.2.1 21 x2 + σ.2.1 22 x2 ≤ 20000 from by (rw [e_x2]; exact p8 (by omega))), ?_⟩
      intro τ9 hn_τ9 hf_τ9 hq
      obtain ⟨hT, q7_1, q7_2⟩ := hq
      replace q7_1 : (σ.1 35) = 0 → (τ9.1 35) = 0 → 1 ≤ (τ9.1 30) := q7_1
      replace q7_2 : ¬ (σ.1 35) = 0 → (τ9.1 35) = (σ.1 35) := q7_2
      have w32_τ9 : τ9.1 32 = σ.1 32 := hf_τ9.1 32 (by decide)
      have g27_τ9 : τ9.2.1 27 = σ.2.1 27 := hf_τ9.2.1 27 (by decide)
      have g28_τ9 : τ9.2.1 28 = σ.2.1 28 := hf_τ9.2.1 28 (by decide)
      have G27 : τ9.2.1 27 = σ.2.1 27 := (g27_τ9).trans G27
      have G28 : τ9.2.1 28 = σ.2.1 28 := (g28_τ9).trans G28
      have A27 : ∀ j, (-300) ≤ τ9.2.1 27 j ∧ τ9.2.1 27 j ≤ 1499 := fun j => hT.2 27 j
      have A28 : ∀ j, 0 ≤ τ9.2.1 28 j ∧ τ9.2.1 28 j ≤ 1 := fun j => hT.2 28 j
      have v30 : 0 ≤ τ9.1 30 ∧ τ9.1 30 ≤ 200 := hT.1 30
      have v32 : 0 ≤ τ9.1 32 ∧ τ9.1 32 ≤ 300 := hT.1 32
      have v35 : 0 ≤ τ9.1 35 ∧ τ9.1 35 ≤ 19 := hT.1 35
      refine h96 _ _ ?_
      refine ⟨fun c22 => ?_, fun c22 => ?_⟩
      ·
        exact ⟨hT, (show ¬ (σ.1 35) = 0 → (τ9.1 35) = (σ.1 35) from by (first | omega | (simp only [st_s] <;> omega) | assumption | omega)), (show (τ9.1 32) ≤ (σ.1 32) + 1 from by (first | omega | (simp only [st_s] <;> omega) | assumption | omega)), (show σ.2.1 28 n1 = 0 → (τ9.1 32) = (σ.1 32) from by (first | omega | (simp only [st_s] <;> omega) | assumption | omega))⟩
      ·
        refine ⟨(show 0 ≤ n1 ∧ n1 < 20001 from by (first | omega | (simp only [st_s] <;> omega) | assumption | omega)), ?_⟩
        intro x24 r_x24 e_x24
        have b_x24 : 0 ≤ x24 ∧ x24 ≤ 1 := by rw [e_x24]; exact hT.2 28 _
        refine ⟨fun c25 => ?_, fun c25 => ?_⟩
        ·
          exact ⟨hT, (show ¬ (σ.1 35) = 0 → (τ9.1 35) = (σ.1 35) from by (first | omega | (simp only [st_s] <;> omega) | assumption | omega)), (show (τ9.1 32) ≤ (σ.1 32) + 1 from by (first | omega | (simp only [st_s] <;> omega) | assumption | omega)), (show σ.2.1 28 n1 = 0 → (τ9.1 32) = (σ.1 32) from by (first | omega | (simp only [st_s] <;> omega) | assumption | omega))⟩
        ·
          first | rw [g28_τ9] at e_x24 | rw [g28_τ14] at e_x24 | rw [g28_τ21] at e_x24
          refine ⟨_, K_X13_saveTop hT (show 1 ≤ (τ9.1 30) from by (first | omega | (simp only [st_s] <;> omega) | assumption | omega)) (show (τ9.1 32) < 300 from by (first | omega | (simp only [st_s] <;> omega) | assumption | omega)), ?_⟩
          intro τ28 hn_τ28 hf_τ28 hq
          obtain ⟨hT, q26_1, q26_2⟩ := hq
          replace q26_1 : ¬ (τ9.1 35) = 0 → (τ28.1 35) = (τ9.1 35) := q26_1
          replace q26_2 : (τ28.1 32) ≤ (τ9.1 32) + 1 := q26_2
          have w30_τ28 : τ28.1 30 = τ9.1 30 := hf_τ28.1 30 (by decide)
          have g27_τ28 : τ28.2.1 27 = τ9.2.1 27 := hf_τ28.2.1 27 (by decide)
          have g28_τ28 : τ28.2.1 28 = τ9.2.1 28 := hf_τ28.2.1 28 (by decide)
          have G27 : τ28.2.1 27 = σ.2.1 27 := (g27_τ28).trans G27
          have G28 : τ28.2.1 28 = σ.2.1 28 := (g28_τ28).trans G28
          have A27 : ∀ j, (-300) ≤ τ28.2.1 27 j ∧ τ28.2.1 27 j ≤ 1499 := fun j => hT.2 27 j
          have A28 : ∀ j, 0 ≤ τ28.2.1 28 j ∧ τ28.2.1 28 j ≤ 1 := fun j => hT.2 28 j
          have v30 : 0 ≤ τ28.1 30 ∧ τ28.1 30 ≤ 200 := hT.1 30
          have v32 : 0 ≤ τ28.1 32 ∧ τ28.1 32 ≤ 300 := hT.1 32
          have v35 : 0 ≤ τ28.1 35 ∧ τ28.1 35 ≤ 19 := hT.1 35
          exact ⟨hT, (show ¬ (σ.1 35) = 0 → (τ28.1 35) = (σ.1 35) from by (first | omega | (simp only [st_s] <;> omega) | assumption | omega)), (show (τ28.1 32) ≤ (σ.1 32) + 1 from by (first | omega | (simp only [st_s] <;> omega) | assumption | omega)), (show σ.2.1 28 n1 = 0 → (τ28.1 32) = (σ.1 32) from by (first | omega | (simp only [st_s] <;> omega) | assumption | omega))⟩
    ·
      intro x10 r_x10 e_x10
      have b_x10 : 0 ≤ x10 ∧ x10 ≤ 30000 := by rw [e_x10]; exact hT.2 14 _
      intro x11 r_x11 e_x11
      have b_x11 : 0 ≤ x11 ∧ x11 ≤ 300 := by rw [e_x11]; exact hT.2 15 _
      refine ⟨_, K_X13_pushRow_q17 hT (show 0 ≤ x10 from by (first | omega | (simp only [st_s] <;> omega) | assumption | omega)) (show x10 ≤ 30000 from by (first | omega | (simp only [st_s] <;> omega) | assumption | omega)) (show 0 ≤ x11 from by (first | omega | (simp only [st_s] <;> omega) | assumption | omega)) (show 0 ≤ n2 from by (first | omega | (simp only [st_s] <;> omega) | assumption | omega)) (show n2 ≤ 20000 from by (first | omega | (simp only [st_s] <;> omega) | assumption | omega)) (show x11 ≤ 300 from by (first | omega | (simp only [st_s] <;> omega) | assumption | omega)), ?_⟩
      intro τ14 hn_τ14 hf_τ14 hq
      obtain ⟨hT, q12_1, q12_2⟩ := hq
      replace q12_1 : (σ.1 35) = 0 → (τ14.1 35) = 0 → (τ14.1 30) = (σ.1 30) + 1 ∧ 1 ≤ (τ14.1 30) := q12_1
      replace q12_2 : ¬ (σ.1 35) = 0 → (τ14.1 35) = (σ.1 35) := q12_2
      have w32_τ14 : τ14.1 32 = σ.1 32 := hf_τ14.1 32 (by decide)
      have g27_τ14 : τ14.2.1 27 = σ.2.1 27 := hf_τ14.2.1 27 (by decide)
      have g28_τ14 : τ14.2.1 28 = σ.2.1 28 := hf_τ14.2.1 28 (by decide)
      have G27 : τ14.2.1 27 = σ.2.1 27 := (g27_τ14).trans G27
      have G28 : τ14.2.1 28 = σ.2.1 28 := (g28_τ14).trans G28
      have A27 : ∀ j, (-300) ≤ τ14.2.1 27 j ∧ τ14.2.1 27 j ≤ 1499 := fun j => hT.2 27 j
      have A28 : ∀ j, 0 ≤ τ14.2.1 28 j ∧ τ14.2.1 28 j ≤ 1 := fun j => hT.2 28 j
      have v30 : 0 ≤ τ14.1 30 ∧ τ14.1 30 ≤ 200 := hT.1 30
      have v32 : 0 ≤ τ14.1 32 ∧ τ14.1 32 ≤ 300 := hT.1 32
      have v35 : 0 ≤ τ14.1 35 ∧ τ14.1 35 ≤ 19 := hT.1 35
      refine h96 _ _ ?_
      refine ⟨fun c22 => ?_, fun c22 => ?_⟩
      ·
        exact ⟨hT, (show ¬ (σ.1 35) = 0 → (τ14.1 35) = (σ.1 35) from by (first | omega | (simp only [st_s] <;> omega) | assumption | omega)), (show (τ14.1 32) ≤ (σ.1 32) + 1 from by (first | omega | (simp only [st_s] <;> omega) | assumption | omega)), (show σ.2.1 28 n1 = 0 → (τ14.1 32) = (σ.1 32) from by (first | omega | (simp only [st_s] <;> omega) | assumption | omega))⟩
      ·
        refine ⟨(show 0 ≤ n1 ∧ n1 < 20001 from by (first | omega | (simp only [st_s] <;> omega) | assumption | omega)), ?_⟩
        intro x24 r_x24 e_x24
        have b_x24 : 0 ≤ x24 ∧ x24 ≤ 1 := by rw [e_x24]; exact hT.2 28 _
        refine ⟨fun c25 => ?_, fun c25 => ?_⟩
        ·
          exact ⟨hT, (show ¬ (σ.1 35) = 0 → (τ14.1 35) = (σ.1 35) from by (first | omega | (simp only [st_s] <;> omega) | assumption | omega)), (show (τ14.1 32) ≤ (σ.1 32) + 1 from by (first | omega | (simp only [st_s] <;> omega) | assumption | omega)), (show σ.2.1 28 n1 = 0 → (τ14.1 32) = (σ.1 32) from by (first | omega | (simp only [st_s] <;> omega) | assumption | omega))⟩
        ·
          first | rw [g28_τ9] at e_x24 | rw [g28_τ14] at e_x24 | rw [g28_τ21] at e_x24
          refine ⟨_, K_X13_saveTop hT (show 1 ≤ (τ14.1 30) from by (first | omega | (simp only [st_s] <;> omega) | assumption | omega)) (show (τ14.1 32) < 300 from by (first | omega | (simp only [st_s] <;> omega) | assumption | omega)), ?_⟩
          intro τ28 hn_τ28 hf_τ28 hq
          obtain ⟨hT, q26_1, q26_2⟩ := hq
          replace q26_1 : ¬ (τ14.1 35) = 0 → (τ28.1 35) = (τ14.1 35) := q26_1
          replace q26_2 : (τ28.1 32) ≤ (τ14.1 32) + 1 := q26_2
          have w30_τ28 : τ28.1 30 = τ14.1 30 := hf_τ28.1 30 (by decide)
          have g27_τ28 : τ28.2.1 27 = τ14.2.1 27 := hf_τ28.2.1 27 (by decide)
          have g28_τ28 : τ28.2.1 28 = τ14.2.1 28 := hf_τ28.2.1 28 (by decide)
          have G27 : τ28.2.1 27 = σ.2.1 27 := (g27_τ28).trans G27
          have G28 : τ28.2.1 28 = σ.2.1 28 := (g28_τ28).trans G28
          have A27 : ∀ j, (-300) ≤ τ28.2.1 27 j ∧ τ28.2.1 27 j ≤ 1499 := fun j => hT.2 27 j
          have A28 : ∀ j, 0 ≤ τ28.2.1 28 j ∧ τ28.2.1 28 j ≤ 1 := fun j => hT.2 28 j
          have v30 : 0 ≤ τ28.1 30 ∧ τ28.1 30 ≤ 200 := hT.1 30
          have v32 : 0 ≤ τ28.1 32 ∧ τ28.1 32 ≤ 300 := hT.1 32
          have v35 : 0 ≤ τ28.1 35 ∧ τ28.1 35 ≤ 19 := hT.1 35
          exact ⟨hT, (show ¬ (σ.1 35) = 0 → (τ28.1 35) = (σ.1 35) from by (first | omega | (simp only [st_s] <;> omega) | assumption | omega)), (show (τ28.1 32) ≤ (σ.1 32) + 1 from by (first | omega | (simp only [st_s] <;> omega) | assumption | omega)), (show σ.2.1 28 n1 = 0 → (τ28.1 32) = (σ.1 32) from by (first | omega | (simp only [st_s] <;> omega) | assumption | omega))⟩
  ·
    refine ⟨(show 0 ≤ ((-1) - x2) ∧ ((-1) - x2) < 300 from by (first | omega | (simp only [st_s] <;> omega) | assumption | omega)), ?_⟩
    intro x16 r_x16 e_x16
    have b_x16 : 0 ≤ x16 ∧ x16 ≤ 40000 := by rw [e_x16]; exact hT.2 44 _
    intro x17 r_x17 e_x17
    have b_x17 : 0 ≤ x17 ∧ x17 ≤ 1000 := by rw [e_x17]; exact hT.2 45 _
    intro x18 r_x18 e_x18
    have b_x18 : 0 ≤ x18 ∧ x18 ≤ 20000 := by rw [e_x18]; exact hT.2 46 _
    refine ⟨_, K_X13_pushRow_q50 hT (show 0 ≤ x16 from by (first | omega | (simp only [st_s] <;> omega) | assumption | omega)) (show x16 ≤ 40000 from by (first | omega | (simp only [st_s] <;> omega) | assumption | omega)) (show 0 ≤ x17 from by (first | omega | (simp only [st_s] <;> omega) | assumption | omega)) (show 0 ≤ x18 from by (first | omega | (simp only [st_s] <;> omega) | assumption | omega)) (show x18 ≤ 20000 from by (first | omega | (simp only [st_s] <;> omega) | assumption | omega)) (show x17 ≤ 1000 from by (first | omega | (simp only [st_s] <;> omega) | assumption | omega)), ?_⟩
    intro τ21 hn_τ21 hf_τ21 hq
    obtain ⟨hT, q19_1, q19_2⟩ := hq
    replace q19_1 : (σ.1 35) = 0 → (τ21.1 35) = 0 → (τ21.1 30) = (σ.1 30) + 1 ∧ 1 ≤ (τ21.1 30) := q19_1
    replace q19_2 : ¬ (σ.1 35) = 0 → (τ21.1 35) = (σ.1 35) := q19_2
    have w32_τ21 : τ21.1 32 = σ.1 32 := hf_τ21.1 32 (by decide)
    have g27_τ21 : τ21.2.1 27 = σ.2.1 27 := hf_τ21.2.1 27 (by decide)
    have g28_τ21 : τ21.2.1 28 = σ.2.1 28 := hf_τ21.2.1 28 (by decide)
    have G27 : τ21.2.1 27 = σ.2.1 27 := (g27_τ21).trans G27
    have G28 : τ21.2.1 28 = σ.2.1 28 := (g28_τ21).trans G28
    have A27 : ∀ j, (-300) ≤ τ21.2.1 27 j ∧ τ21.2.1 27 j ≤ 1499 := fun j => hT.2 27 j
    have A28 : ∀ j, 0 ≤ τ21.2.1 28 j ∧ τ21.2.1 28 j ≤ 1 := fun j => hT.2 28 j
    have v30 : 0 ≤ τ21.1 30 ∧ τ21.1 30 ≤ 200 := hT.1 30
    have v32 : 0 ≤ τ21.1 32 ∧ τ21.1 32 ≤ 300 := hT.1 32
    have v35 : 0 ≤ τ21.1 35 ∧ τ21.1 35 ≤ 19 := hT.1 35
    refine h96 _ _ ?_
    refine ⟨fun c22 => ?_, fun c22 => ?_⟩
    ·
      exact ⟨hT, (show ¬ (σ.1 35) = 0 → (τ21.1 35) = (σ.1 35) from by (first | omega | (simp only [st_s] <;> omega) | assumption | omega)), (show (τ21.1 32) ≤ (σ.1 32) + 1 from by (first | omega | (simp only [st_s] <;> omega) | assumption | omega)), (show σ.2.1 28 n1 = 0 → (τ21.1 32) = (σ.1 32) from by (first | omega | (simp only [st_s] <;> omega) | assumption | omega))⟩
    ·
      refine ⟨(show 0 ≤ n1 ∧ n1 < 20001 from by (first | omega | (simp only [st_s] <;> omega) | assumption | omega)), ?_⟩
      intro x24 r_x24 e_x24
      have b_x24 : 0 ≤ x24 ∧ x24 ≤ 1 := by rw [e_x24]; exact hT.2 28 _
      refine ⟨fun c25 => ?_, fun c25 => ?_⟩
      ·
        exact ⟨hT, (show ¬ (σ.1 35) = 0 → (τ21.1 35) = (σ.1 35) from by (first | omega | (simp only [st_s] <;> omega) | assumption | omega)), (show (τ21.1 32) ≤ (σ.1 32) + 1 from by (first | omega | (simp only [st_s] <;> omega) | assumption | omega)), (show σ.2.1 28 n1 = 0 → (τ21.1 32) = (σ.1 32) from by (first | omega | (simp only [st_s] <;> omega) | assumption | omega))⟩
      ·
        first | rw [g28_τ9] at e_x24 | rw [g28_τ14] at e_x24 | rw [g28_τ21] at e_x24
        refine ⟨_, K_X13_saveTop hT (show 1 ≤ (τ21.1 30) from by (first | omega | (simp only [st_s] <;> omega) | assumption | omega)) (show (τ21.1 32) < 300 from by (first | omega | (simp only [st_s] <;> omega) | assumption | omega)), ?_⟩
        intro τ28 hn_τ28 hf_τ28 hq
        obtain ⟨hT, q26_1, q26_2⟩ := hq
        replace q26_1 : ¬ (τ21.1 35) = 0 → (τ28.1 35) = (τ21.1 35) := q26_1
        replace q26_2 : (τ28.1 32) ≤ (τ21.1 32) + 1 := q26_2
        have w30_τ28 : τ28.1 30 = τ21.1 30 := hf_τ28.1 30 (by decide)
        have g27_τ28 : τ28.2.1 27 = τ21.2.1 27 := hf_τ28.2.1 27 (by decide)
        have g28_τ28 : τ28.2.1 28 = τ21.2.1 28 := hf_τ28.2.1 28 (by decide)
        have G27 : τ28.2.1 27 = σ.2.1 27 := (g27_τ28).trans G27
        have G28 : τ28.2.1 28 = σ.2.1 28 := (g28_τ28).trans G28
        have A27 : ∀ j, (-300) ≤ τ28.2.1 27 j ∧ τ28.2.1 27 j ≤ 1499 := fun j => hT.2 27 j
        have A28 : ∀ j, 0 ≤ τ28.2.1 28 j ∧ τ28.2.1 28 j ≤ 1 := fun j => hT.2 28 j
        have v30 : 0 ≤ τ28.1 30 ∧ τ28.1 30 ≤ 200 := hT.1 30
        have v32 : 0 ≤ τ28.1 32 ∧ τ28.1 32 ≤ 300 := hT.1 32
        have v35 : 0 ≤ τ28.1 35 ∧ τ28.1 35 ≤ 19 := hT.1 35
        exact ⟨hT, (show ¬ (σ.1 35) = 0 → (τ28.1 35) = (σ.1 35) from by (first | omega | (simp only [st_s] <;> omega) | assumption | omega)), (show (τ28.1 32) ≤ (σ.1 32) + 1 from by (first | omega | (simp only [st_s] <;> omega) | assumption | omega)), (show σ.2.1 28 n1 = 0 → (τ28.1 32) = (σ.1 32) from by (first | omega | (simp only [st_s] <;> omega) | assumption | omega))⟩
