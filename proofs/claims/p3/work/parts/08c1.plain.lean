-- pure: more plain methods of the class
set_option maxHeartbeats 1000000 in
theorem K_X0_keep {σ : S0} (hT : c_T σ) : W_X0_keep σ (fun (τ : S0) => (c_T τ) ∧ (τ.2.1 38 = st (st (st (st (σ.2.1 38) 0 (σ.1 13)) 1 (σ.1 14)) 2 (σ.1 15)) 3 (σ.1 16))) := by
  have v13 : 0 ≤ σ.1 13 ∧ σ.1 13 ≤ 90000 := hT.1 13
  have v14 : 0 ≤ σ.1 14 ∧ σ.1 14 ≤ 20000 := hT.1 14
  have v15 : 0 ≤ σ.1 15 ∧ σ.1 15 ≤ 20000 := hT.1 15
  have v16 : 0 ≤ σ.1 16 ∧ σ.1 16 ≤ 20000 := hT.1 16
  have W13 : σ.1 13 = σ.1 13 := rfl
  have W14 : σ.1 14 = σ.1 14 := rfl
  have W15 : σ.1 15 = σ.1 15 := rfl
  have W16 : σ.1 16 = σ.1 16 := rfl
  unfold W_X0_keep
  replace hT := cT_a (k := 38) (j := 0) hT (show (0 : Int) ≤ (σ.1 13) ∧ (σ.1 13) ≤ 90000 from by (first | omega | rfl | grind))
  replace hT := cT_a (k := 38) (j := 1) hT (show (0 : Int) ≤ (σ.1 14) ∧ (σ.1 14) ≤ 20000 from by (first | omega | rfl | grind))
  replace hT := cT_a (k := 38) (j := 2) hT (show (0 : Int) ≤ (σ.1 15) ∧ (σ.1 15) ≤ 20000 from by (first | omega | rfl | grind))
  replace hT := cT_a (k := 38) (j := 3) hT (show (0 : Int) ≤ (σ.1 16) ∧ (σ.1 16) ≤ 20000 from by (first | omega | rfl | grind))
  exact ⟨hT, (show (st (st (st (st (σ.2.1 38) 0 (σ.1 13)) 1 (σ.1 14)) 2 (σ.1 15)) 3 (σ.1 16)) = st (st (st (st (σ.2.1 38) 0 (σ.1 13)) 1 (σ.1 14)) 2 (σ.1 15)) 3 (σ.1 16) from by (first | omega | rfl | grind))⟩
set_option maxHeartbeats 1000000 in
theorem K_X0_goBack {σ : S0} (hT : c_T σ) : W_X0_goBack σ (fun (τ : S0) => (c_T τ) ∧ ((τ.1 13) = σ.2.1 38 0) ∧ ((τ.1 14) = σ.2.1 38 1) ∧ ((τ.1 15) = σ.2.1 38 2) ∧ ((τ.1 16) = σ.2.1 38 3)) := by
  have v13 : 0 ≤ σ.1 13 ∧ σ.1 13 ≤ 90000 := hT.1 13
  have v14 : 0 ≤ σ.1 14 ∧ σ.1 14 ≤ 20000 := hT.1 14
  have v15 : 0 ≤ σ.1 15 ∧ σ.1 15 ≤ 20000 := hT.1 15
  have v16 : 0 ≤ σ.1 16 ∧ σ.1 16 ≤ 20000 := hT.1 16
  unfold W_X0_goBack
  intro x1 r_x1 e_x1
  have b_x1 : 0 ≤ x1 ∧ x1 ≤ 90000 := by rw [e_x1]; exact hT.2 38 _
  replace hT := cT_v (i := 13) hT (show 0 ≤ x1 ∧ x1 ≤ 90000 from by omega)
  intro x2 r_x2 e_x2
  have b_x2 : 0 ≤ x2 ∧ x2 ≤ 20000 := by rw [e_x2]; exact hT.2 38 _
  replace hT := cT_v (i := 14) hT (show 0 ≤ x2 ∧ x2 ≤ 20000 from by omega)
  intro x3 r_x3 e_x3
  have b_x3 : 0 ≤ x3 ∧ x3 ≤ 20000 := by rw [e_x3]; exact hT.2 38 _
  replace hT := cT_v (i := 15) hT (show 0 ≤ x3 ∧ x3 ≤ 20000 from by omega)
  intro x4 r_x4 e_x4
  have b_x4 : 0 ≤ x4 ∧ x4 ≤ 20000 := by rw [e_x4]; exact hT.2 38 _
  replace hT := cT_v (i := 16) hT (show 0 ≤ x4 ∧ x4 ≤ 20000 from by omega)
  exact ⟨hT, (show (x1) = σ.2.1 38 0 from by omega), (show (x2) = σ.2.1 38 1 from by omega), (show (x3) = σ.2.1 38 2 from by omega), (show (x4) = σ.2.1 38 3 from by omega)⟩
set_option maxHeartbeats 1000000 in
theorem K_X9_markVariables {n1 : Int} {σ : S0} (hT : c_T σ) (p1 : 0 ≤ n1) (p2 : n1 < 1500) : W_X9_markVariables n1 σ (fun (τ : S0) => (c_T τ)) := by
  have v12 : (-2147483648) ≤ σ.1 12 ∧ σ.1 12 ≤ 2147483647 := hT.1 12
  have W12 : σ.1 12 = σ.1 12 := rfl
  intro P10 h10
  have l_10 : ∀ (m_10 : Nat) (u1_10 : Int) (u2_10 : Int) (τ_10 : S0), 30001 - u2_10 < (m_10 : Int) → (c_T τ_10) → (τ_10.1 12 = σ.1 12) → (0 ≤ u1_10) → (u1_10 < 1500) → (0 ≤ u2_10) → (u2_10 ≤ 30000) → P10 u1_10 u2_10 τ_10 := by
    intro m_10
    induction m_10 with
    | zero =>
      intro u1_10 u2_10 τ_10 hm hT W12 i10_1 i10_2 i10_3 i10_4
      have v12 : (-2147483648) ≤ τ_10.1 12 ∧ τ_10.1 12 ≤ 2147483647 := hT.1 12
      exfalso; omega
    | succ m_10 ih_10 =>
      intro u1_10 u2_10 τ_10 hm_10 hT W12 i10_1 i10_2 i10_3 i10_4
      have v12 : (-2147483648) ≤ τ_10.1 12 ∧ τ_10.1 12 ≤ 2147483647 := hT.1 12
      refine h10 _ _ _ ?_
      refine ⟨(show 0 ≤ (u1_10 + 1) ∧ (u1_10 + 1) < 1501 from by omega), ?_⟩
      intro x4 r_x4 e_x4
      have b_x4 : 0 ≤ x4 ∧ x4 ≤ 30000 := by rw [e_x4]; exact hT.2 14 _
      refine ⟨fun c5 => ?_, fun c5 => ?_⟩
      ·
        exact hT
      ·
        refine ⟨(show 0 ≤ u2_10 ∧ u2_10 < 30000 from by omega), ?_⟩
        intro x7 r_x7 e_x7
        have b_x7 : (-1) ≤ x7 ∧ x7 ≤ 1499 := by rw [e_x7]; exact hT.2 16 _
        refine ⟨fun c8 => ?_, fun c8 => ?_⟩
        ·
          refine ⟨(⟨by omega, by omega⟩ : rg (u2_10 + 1)), ?_⟩
          exact ih_10 _ _ _ (show (30001 - (u2_10 + 1) : Int) < ((m_10 : Nat) : Int) from by (omega)) hT (show τ_10.1 12 = σ.1 12 from by omega) (show 0 ≤ u1_10 from by omega) (show u1_10 < 1500 from by omega) (show 0 ≤ (u2_10 + 1) from by omega) (show (u2_10 + 1) ≤ 30000 from by omega)
        ·
          intro x10 r_x10 e_x10
          have b_x10 : 0 ≤ x10 ∧ x10 ≤ 999 := by rw [e_x10]; exact hT.2 15 _
          refine ⟨(show 0 ≤ x10 ∧ x10 < 1000 from by omega), ?_⟩
          replace hT := cT_a (k := 26) (j := x10) hT (show (-2147483648 : Int) ≤ (τ_10.1 12) ∧ (τ_10.1 12) ≤ 2147483647 from by omega)
          refine ⟨(⟨by omega, by omega⟩ : rg (u2_10 + 1)), ?_⟩
          exact ih_10 _ _ _ (show (30001 - (u2_10 + 1) : Int) < ((m_10 : Nat) : Int) from by (omega)) hT (show τ_10.1 12 = σ.1 12 from by omega) (show 0 ≤ u1_10 from by omega) (show u1_10 < 1500 from by omega) (show 0 ≤ (u2_10 + 1) from by omega) (show (u2_10 + 1) ≤ 30000 from by omega)
  refine ⟨(show 0 ≤ n1 ∧ n1 < 1501 from by omega), ?_⟩
  intro x2 r_x2 e_x2
  have b_x2 : 0 ≤ x2 ∧ x2 ≤ 30000 := by rw [e_x2]; exact hT.2 14 _
  exact l_10 ((30001 - x2 : Int).toNat + 1) _ _ _ (show (30001 - x2 : Int) < (((30001 - x2 : Int).toNat + 1 : Nat) : Int) from by (omega)) hT (show σ.1 12 = σ.1 12 from by omega) (show 0 ≤ n1 from by omega) (show n1 < 1500 from by omega) (show 0 ≤ x2 from by omega) (show x2 ≤ 30000 from by omega)
set_option maxHeartbeats 1000000 in
theorem K_X9_markFrame {n1 : Int} {σ : S0} (hT : c_T σ) (p1 : 0 ≤ n1) (p2 : n1 < 1500) (p3 : (σ.1 12) < 2147483647) : W_X9_markFrame n1 σ (fun (τ : S0) => (c_T τ)) := by
  have v9 : 0 ≤ σ.1 9 ∧ σ.1 9 ≤ 1500 := hT.1 9
  have v12 : (-2147483648) ≤ σ.1 12 ∧ σ.1 12 ≤ 2147483647 := hT.1 12
  have W9 : σ.1 9 = σ.1 9 := rfl
  intro P17 h17
  have l_17 : ∀ (m_17 : Nat) (u2_17 : Int) (τ_17 : S0), 1501 - u2_17 < (m_17 : Int) → (c_T τ_17) → (τ_17.1 9 = σ.1 9) → (0 ≤ u2_17) → (u2_17 ≤ 1500) → P17 u2_17 τ_17 := by
    intro m_17
    induction m_17 with
    | zero =>
      intro u2_17 τ_17 hm hT W9 i17_1 i17_2
      have v9 : 0 ≤ τ_17.1 9 ∧ τ_17.1 9 ≤ 1500 := hT.1 9
      have v12 : (-2147483648) ≤ τ_17.1 12 ∧ τ_17.1 12 ≤ 2147483647 := hT.1 12
      exfalso; omega
    | succ m_17 ih_17 =>
      intro u2_17 τ_17 hm_17 hT W9 i17_1 i17_2
      have v9 : 0 ≤ τ_17.1 9 ∧ τ_17.1 9 ≤ 1500 := hT.1 9
      have v12 : (-2147483648) ≤ τ_17.1 12 ∧ τ_17.1 12 ≤ 2147483647 := hT.1 12
      refine h17 _ _ ?_
      refine ⟨fun c5 => ?_, fun c5 => ?_⟩
      ·
        exact hT
      ·
        refine ⟨(show 0 ≤ u2_17 ∧ u2_17 < 1500 from by omega), ?_⟩
        intro x7 r_x7 e_x7
        have b_x7 : 0 ≤ x7 ∧ x7 ≤ 1499 := by rw [e_x7]; exact hT.2 22 _
        refine ⟨(show 0 ≤ x7 ∧ x7 < 1500 from by omega), ?_⟩
        intro x9 r_x9 e_x9
        have b_x9 : 0 ≤ x9 ∧ x9 ≤ 4 := by rw [e_x9]; exact hT.2 13 _
        refine ⟨fun c10 => ?_, fun c10 => ?_⟩
        ·
          refine ⟨(⟨by omega, by omega⟩ : rg (u2_17 + 1)), ?_⟩
          exact ih_17 _ _ (show (1501 - (u2_17 + 1) : Int) < ((m_17 : Nat) : Int) from by (omega)) hT (show τ_17.1 9 = σ.1 9 from by omega) (show 0 ≤ (u2_17 + 1) from by omega) (show (u2_17 + 1) ≤ 1500 from by omega)
        ·
          intro x12 r_x12 e_x12
          have b_x12 : 0 ≤ x12 ∧ x12 ≤ 1499 := by rw [e_x12]; exact hT.2 22 _
          refine ⟨_, K_X9_markVariables hT (show 0 ≤ x12 from by omega) (show x12 < 1500 from by omega), ?_⟩
          intro τ15 hn_τ15 hf_τ15 hq
          replace hT := hq
          have w9_τ15 : τ15.1 9 = τ_17.1 9 := hf_τ15.1 9 (by decide)
          have w12_τ15 : τ15.1 12 = τ_17.1 12 := hf_τ15.1 12 (by decide)
          have W9 : τ15.1 9 = σ.1 9 := by omega
          have v9 : 0 ≤ τ15.1 9 ∧ τ15.1 9 ≤ 1500 := hT.1 9
          have v12 : (-2147483648) ≤ τ15.1 12 ∧ τ15.1 12 ≤ 2147483647 := hT.1 12
          refine ⟨(⟨by omega, by omega⟩ : rg (u2_17 + 1)), ?_⟩
          exact ih_17 _ _ (show (1501 - (u2_17 + 1) : Int) < ((m_17 : Nat) : Int) from by (omega)) hT (show τ15.1 9 = σ.1 9 from by omega) (show 0 ≤ (u2_17 + 1) from by omega) (show (u2_17 + 1) ≤ 1500 from by omega)
  refine ⟨(⟨by omega, by omega⟩ : rg (σ.1 12 + 1)), ?_⟩
  replace hT := cT_v (i := 12) hT (show (-2147483648) ≤ (σ.1 12 + 1) ∧ (σ.1 12 + 1) ≤ 2147483647 from by omega)
  refine ⟨_, K_X9_markVariables hT (show 0 ≤ n1 from by omega) (show n1 < 1500 from by omega), ?_⟩
  intro τ4 hn_τ4 hf_τ4 hq
  replace hT := hq
  have w9_τ4 : τ4.1 9 = σ.1 9 := hf_τ4.1 9 (by decide)
  have w12_τ4 : τ4.1 12 = (σ.1 12 + 1) := hf_τ4.1 12 (by decide)
  have W9 : τ4.1 9 = σ.1 9 := by omega
  have v9 : 0 ≤ τ4.1 9 ∧ τ4.1 9 ≤ 1500 := hT.1 9
  have v12 : (-2147483648) ≤ τ4.1 12 ∧ τ4.1 12 ≤ 2147483647 := hT.1 12
  exact l_17 ((1501 - 0 : Int).toNat + 1) _ _ (show (1501 - 0 : Int) < (((1501 - 0 : Int).toNat + 1 : Nat) : Int) from by (omega)) hT (show τ4.1 9 = σ.1 9 from by omega) (show 0 ≤ 0 from by omega) (show 0 ≤ 1500 from by omega)
set_option maxHeartbeats 1000000 in
theorem K_X9_isInFrame {n1 : Int} {σ : S0} (hT : c_T σ) (p1 : 0 ≤ n1) (p2 : n1 < 1000) : W_X9_isInFrame n1 σ (fun (x : Int) => (0 ≤ x ∧ x ≤ 1)) := by
  have v12 : (-2147483648) ≤ σ.1 12 ∧ σ.1 12 ≤ 2147483647 := hT.1 12
  unfold W_X9_isInFrame
  refine ⟨(show 0 ≤ n1 ∧ n1 < 1000 from by omega), ?_⟩
  intro x2 r_x2 e_x2
  have b_x2 : (-2147483648) ≤ x2 ∧ x2 ≤ 2147483647 := by rw [e_x2]; exact hT.2 26 _
  refine ⟨fun c3 => ?_, fun c3 => ?_⟩
  ·
    exact (show 0 ≤ 0 ∧ 0 ≤ 1 from by omega)
  ·
    exact (show 0 ≤ 1 ∧ 1 ≤ 1 from by omega)
set_option maxHeartbeats 1000000 in
theorem K_X0_placeInFrame {n1 : Int} {n2 : Int} {σ : S0} (hT : c_T σ) (p1 : 0 ≤ n1) (p2 : n1 < 1500) (p3 : σ.2.1 27 n1 + σ.2.1 28 n1 ≤ 90000) : W_X0_placeInFrame n1 n2 σ (fun (x : Int) => (-1 ≤ x ∧ x < 60) ∧ (0 ≤ x → x < σ.2.1 28 n1)) := by
  intro P2 h2
  have l_2 : ∀ (m_2 : Nat) (u3_2 : Int), 61 - u3_2 < (m_2 : Int) → (0 ≤ u3_2) → (u3_2 ≤ 60) → P2 n1 n2 u3_2 := by
    intro m_2
    induction m_2 with
    | zero =>
      intro u3_2 hm i2_1 i2_2
      exfalso; omega
    | succ m_2 ih_2 =>
      intro u3_2 hm_2 i2_1 i2_2
      refine h2 _ _ _ ?_
      refine ⟨(show 0 ≤ n1 ∧ n1 < 1500 from by omega), ?_⟩
      intro x2 r_x2 e_x2
      have b_x2 : 0 ≤ x2 ∧ x2 ≤ 60 := by rw [e_x2]; exact hT.2 28 _
      refine ⟨fun c3 => ?_, fun c3 => ?_⟩
      ·
        exact ⟨(show -1 ≤ (-1) ∧ (-1) < 60 from by omega), (show 0 ≤ (-1) → (-1) < σ.2.1 28 n1 from by (first | omega | (intro _; omega)))⟩
      ·
        intro x4 r_x4 e_x4
        have b_x4 : 0 ≤ x4 ∧ x4 ≤ 90000 := by rw [e_x4]; exact hT.2 27 _
        refine ⟨(show 0 ≤ (x4 + u3_2) ∧ (x4 + u3_2) < 90000 from by omega), ?_⟩
        intro x6 r_x6 e_x6
        have b_x6 : 0 ≤ x6 ∧ x6 ≤ 1499 := by rw [e_x6]; exact hT.2 29 _
        refine ⟨fun c7 => ?_, fun c7 => ?_⟩
        ·
          refine ⟨(⟨by omega, by omega⟩ : rg (u3_2 + 1)), ?_⟩
          exact ih_2 _ (show (61 - (u3_2 + 1) : Int) < ((m_2 : Nat) : Int) from by (omega)) (show 0 ≤ (u3_2 + 1) from by omega) (show (u3_2 + 1) ≤ 60 from by omega)
        ·
          exact ⟨(show -1 ≤ u3_2 ∧ u3_2 < 60 from by omega), (show 0 ≤ u3_2 → u3_2 < σ.2.1 28 n1 from by (first | omega | (intro _; omega)))⟩
  exact l_2 ((61 - 0 : Int).toNat + 1) _ (show (61 - 0 : Int) < (((61 - 0 : Int).toNat + 1 : Nat) : Int) from by (omega)) (show 0 ≤ 0 from by omega) (show 0 ≤ 60 from by omega)
set_option maxHeartbeats 1000000 in
theorem K_X0_hasEssential {n1 : Int} {σ : S0} (hT : c_T σ) (p1 : 0 ≤ n1) (p2 : n1 < 1500) (p3 : σ.2.1 27 n1 + σ.2.1 28 n1 ≤ 90000) : W_X0_hasEssential n1 σ (fun (x : Int) => (0 ≤ x ∧ x ≤ 1)) := by
  intro P2 h2
  have l_2 : ∀ (m_2 : Nat) (u2_2 : Int), 61 - u2_2 < (m_2 : Int) → (0 ≤ u2_2) → (u2_2 ≤ 60) → P2 n1 u2_2 := by
    intro m_2
    induction m_2 with
    | zero =>
      intro u2_2 hm i2_1 i2_2
      exfalso; omega
    | succ m_2 ih_2 =>
      intro u2_2 hm_2 i2_1 i2_2
      refine h2 _ _ ?_
      refine ⟨(show 0 ≤ n1 ∧ n1 < 1500 from by omega), ?_⟩
      intro x2 r_x2 e_x2
      have b_x2 : 0 ≤ x2 ∧ x2 ≤ 60 := by rw [e_x2]; exact hT.2 28 _
      refine ⟨fun c3 => ?_, fun c3 => ?_⟩
      ·
        exact (show 0 ≤ 0 ∧ 0 ≤ 1 from by omega)
      ·
        intro x4 r_x4 e_x4
        have b_x4 : 0 ≤ x4 ∧ x4 ≤ 90000 := by rw [e_x4]; exact hT.2 27 _
        refine ⟨(show 0 ≤ (x4 + u2_2) ∧ (x4 + u2_2) < 90000 from by omega), ?_⟩
        intro x6 r_x6 e_x6
        have b_x6 : 0 ≤ x6 ∧ x6 ≤ 1499 := by rw [e_x6]; exact hT.2 29 _
        refine ⟨(show 0 ≤ x6 ∧ x6 < 1500 from by omega), ?_⟩
        intro x8 r_x8 e_x8
        have b_x8 : 0 ≤ x8 ∧ x8 ≤ 4 := by rw [e_x8]; exact hT.2 13 _
        refine ⟨fun c9 => ?_, fun c9 => ?_⟩
        ·
          refine ⟨(⟨by omega, by omega⟩ : rg (u2_2 + 1)), ?_⟩
          exact ih_2 _ (show (61 - (u2_2 + 1) : Int) < ((m_2 : Nat) : Int) from by (omega)) (show 0 ≤ (u2_2 + 1) from by omega) (show (u2_2 + 1) ≤ 60 from by omega)
        ·
          exact (show 0 ≤ 1 ∧ 1 ≤ 1 from by omega)
  exact l_2 ((61 - 0 : Int).toNat + 1) _ (show (61 - 0 : Int) < (((61 - 0 : Int).toNat + 1 : Nat) : Int) from by (omega)) (show 0 ≤ 0 from by omega) (show 0 ≤ 60 from by omega)
set_option maxHeartbeats 1000000 in
theorem K_X0_firstOf {n1 : Int} {σ : S0} (hT : c_T σ) (p1 : 0 ≤ n1) (p2 : n1 < 20000) : W_X0_firstOf n1 σ (fun (x : Int) => (0 ≤ x ∧ x ≤ 999)) := by
  unfold W_X0_firstOf
  refine ⟨(show 0 ≤ n1 ∧ n1 < 20000 from by omega), ?_⟩
  intro x2 r_x2 e_x2
  have b_x2 : 0 ≤ x2 ∧ x2 ≤ 999999 := by rw [e_x2]; exact hT.2 32 _
  intro x3 r_x3 h1_x3 h2_x3
  exact (show 0 ≤ x3 ∧ x3 ≤ 999 from by omega)
set_option maxHeartbeats 1000000 in
theorem K_X0_secondOf {n1 : Int} {σ : S0} (hT : c_T σ) (p1 : 0 ≤ n1) (p2 : n1 < 20000) : W_X0_secondOf n1 σ (fun (x : Int) => (0 ≤ x ∧ x ≤ 999)) := by
  unfold W_X0_secondOf
  refine ⟨(show 0 ≤ n1 ∧ n1 < 20000 from by omega), ?_⟩
  intro x2 r_x2 e_x2
  have b_x2 : 0 ≤ x2 ∧ x2 ≤ 999999 := by rw [e_x2]; exact hT.2 32 _
  intro x3 r_x3 h1_x3 h2_x3
  exact (show 0 ≤ x3 ∧ x3 ≤ 999 from by omega)
set_option maxHeartbeats 1000000 in
theorem K_X0_isPair {n1 : Int} {n2 : Int} {n3 : Int} {σ : S0} (hT : c_T σ) (p1 : 0 ≤ n1) (p2 : n1 < 1500) (p3 : σ.2.1 30 n1 + σ.2.1 31 n1 ≤ 20000) : W_X0_isPair n1 n2 n3 σ (fun (x : Int) => (0 ≤ x ∧ x ≤ 1)) := by
  intro P8 P54 h8 h54
  have l_8 : ∀ (m_8 : Nat) (u2_8 : Int) (u3_8 : Int) (u4_8 : Int), 20001 - u4_8 < (m_8 : Int) → (0 ≤ u4_8) → (u4_8 ≤ 20000) → P8 n1 u2_8 u3_8 u4_8 := by
    intro m_8
    induction m_8 with
    | zero =>
      intro u2_8 u3_8 u4_8 hm i8_1 i8_2
      exfalso; omega
    | succ m_8 ih_8 =>
      intro u2_8 u3_8 u4_8 hm_8 i8_1 i8_2
      refine h8 _ _ _ _ ?_
      refine ⟨(show 0 ≤ n1 ∧ n1 < 1500 from by omega), ?_⟩
      intro x4 r_x4 e_x4
      have b_x4 : 0 ≤ x4 ∧ x4 ≤ 20000 := by rw [e_x4]; exact hT.2 30 _
      intro x5 r_x5 e_x5
      have b_x5 : 0 ≤ x5 ∧ x5 ≤ 20000 := by rw [e_x5]; exact hT.2 31 _
      refine ⟨(⟨by omega, by omega⟩ : rg (x4 + x5)), ?_⟩
      refine ⟨fun c7 => ?_, fun c7 => ?_⟩
      ·
        exact (show 0 ≤ 0 ∧ 0 ≤ 1 from by omega)
      ·
        refine ⟨_, K_X0_firstOf hT (show 0 ≤ u4_8 from by omega) (show u4_8 < 20000 from by omega), ?_⟩
        intro x9 r_x9 hq
        have q8_1 := hq
        replace q8_1 : 0 ≤ x9 ∧ x9 ≤ 999 := q8_1
        refine ⟨_, K_X0_secondOf hT (show 0 ≤ u4_8 from by omega) (show u4_8 < 20000 from by omega), ?_⟩
        intro x12 r_x12 hq
        have q11_1 := hq
        replace q11_1 : 0 ≤ x12 ∧ x12 ≤ 999 := q11_1
        refine ⟨fun c14 => ?_, fun c14 => ?_⟩
        ·
          refine h54 _ _ _ _ _ _ ?_
          refine ⟨fun c16 => ?_, fun c16 => ?_⟩
          ·
            refine ⟨(⟨by omega, by omega⟩ : rg (u4_8 + 1)), ?_⟩
            exact ih_8 _ _ _ (show (20001 - (u4_8 + 1) : Int) < ((m_8 : Nat) : Int) from by (omega)) (show 0 ≤ (u4_8 + 1) from by omega) (show (u4_8 + 1) ≤ 20000 from by omega)
          ·
            refine ⟨fun c18 => ?_, fun c18 => ?_⟩
            ·
              refine ⟨(⟨by omega, by omega⟩ : rg (u4_8 + 1)), ?_⟩
              exact ih_8 _ _ _ (show (20001 - (u4_8 + 1) : Int) < ((m_8 : Nat) : Int) from by (omega)) (show 0 ≤ (u4_8 + 1) from by omega) (show (u4_8 + 1) ≤ 20000 from by omega)
            ·
              exact (show 0 ≤ 1 ∧ 1 ≤ 1 from by omega)
        ·
          refine ⟨fun c15 => ?_, fun c15 => ?_⟩
          ·
            exact (show 0 ≤ 1 ∧ 1 ≤ 1 from by omega)
          ·
            refine h54 _ _ _ _ _ _ ?_
            refine ⟨fun c16 => ?_, fun c16 => ?_⟩
            ·
              refine ⟨(⟨by omega, by omega⟩ : rg (u4_8 + 1)), ?_⟩
              exact ih_8 _ _ _ (show (20001 - (u4_8 + 1) : Int) < ((m_8 : Nat) : Int) from by (omega)) (show 0 ≤ (u4_8 + 1) from by omega) (show (u4_8 + 1) ≤ 20000 from by omega)
            ·
              refine ⟨fun c18 => ?_, fun c18 => ?_⟩
              ·
                refine ⟨(⟨by omega, by omega⟩ : rg (u4_8 + 1)), ?_⟩
                exact ih_8 _ _ _ (show (20001 - (u4_8 + 1) : Int) < ((m_8 : Nat) : Int) from by (omega)) (show 0 ≤ (u4_8 + 1) from by omega) (show (u4_8 + 1) ≤ 20000 from by omega)
              ·
                exact (show 0 ≤ 1 ∧ 1 ≤ 1 from by omega)
  refine ⟨(show 0 ≤ n1 ∧ n1 < 1500 from by omega), ?_⟩
  intro x2 r_x2 e_x2
  have b_x2 : 0 ≤ x2 ∧ x2 ≤ 20000 := by rw [e_x2]; exact hT.2 30 _
  exact l_8 ((20001 - x2 : Int).toNat + 1) _ _ _ (show (20001 - x2 : Int) < (((20001 - x2 : Int).toNat + 1 : Nat) : Int) from by (omega)) (show 0 ≤ x2 from by omega) (show x2 ≤ 20000 from by omega)
set_option maxHeartbeats 1000000 in
theorem K_X0_childCount {n1 : Int} {σ : S0} (hT : c_T σ) (p1 : 0 ≤ n1) (p2 : n1 < 20000) : W_X0_childCount n1 σ (fun (x : Int) => (x = σ.2.1 36 (n1 + 1) - σ.2.1 36 n1)) := by
  unfold W_X0_childCount
  refine ⟨(show 0 ≤ (n1 + 1) ∧ (n1 + 1) < 20001 from by omega), ?_⟩
  intro x2 r_x2 e_x2
  have b_x2 : 0 ≤ x2 ∧ x2 ≤ 20000 := by rw [e_x2]; exact hT.2 36 _
  refine ⟨(show 0 ≤ n1 ∧ n1 < 20001 from by omega), ?_⟩
  intro x4 r_x4 e_x4
  have b_x4 : 0 ≤ x4 ∧ x4 ≤ 20000 := by rw [e_x4]; exact hT.2 36 _
  refine ⟨(⟨by omega, by omega⟩ : rg (x2 - x4)), ?_⟩
  exact (show (x2 - x4) = σ.2.1 36 (n1 + 1) - σ.2.1 36 n1 from by omega)
set_option maxHeartbeats 1000000 in
theorem K_X0_labelsOf {n1 : Int} {σ : S0} (hT : c_T σ) (p1 : 0 ≤ n1) (p2 : n1 < 1500) (p3 : 1 ≤ σ.2.1 33 n1 + σ.2.1 34 n1) (p4 : σ.2.1 33 n1 + σ.2.1 34 n1 ≤ 20000) : W_X0_labelsOf n1 σ (fun (x : Int64) => True) := by
  unfold W_X0_labelsOf
  refine ⟨(show 0 ≤ n1 ∧ n1 < 1500 from by omega), ?_⟩
  intro x2 r_x2 e_x2
  have b_x2 : 0 ≤ x2 ∧ x2 ≤ 20000 := by rw [e_x2]; exact hT.2 33 _
  intro x3 r_x3 e_x3
  have b_x3 : 0 ≤ x3 ∧ x3 ≤ 20000 := by rw [e_x3]; exact hT.2 34 _
  refine ⟨(show 0 ≤ ((x2 + x3) - 1) ∧ ((x2 + x3) - 1) < 20000 from by omega), ?_⟩
  intro x5 e_x5
  exact trivial
set_option maxHeartbeats 1000000 in
theorem K_X0_addRest {n1 : Int} {n2 : Int} {σ : S0} (hT : c_T σ) (p1 : 0 ≤ n1) (p2 : n1 < 1500) (p3 : 0 ≤ n2) (p4 : n2 < 1500) : W_X0_addRest n1 n2 σ (fun (τ : S0) => (c_T τ)) := by
  intro P2 h2
  have l_2 : ∀ (m_2 : Nat) (u1_2 : Int) (u2_2 : Int) (u3_2 : Int) (τ_2 : S0), 25 - u3_2 < (m_2 : Int) → (c_T τ_2) → (0 ≤ u1_2) → (u1_2 < 1500) → (0 ≤ u2_2) → (u2_2 < 1500) → (0 ≤ u3_2) → (u3_2 ≤ 24) → P2 u1_2 u2_2 u3_2 τ_2 := by
    intro m_2
    induction m_2 with
    | zero =>
      intro u1_2 u2_2 u3_2 τ_2 hm hT i2_1 i2_2 i2_3 i2_4 i2_5 i2_6
      exfalso; omega
    | succ m_2 ih_2 =>
      intro u1_2 u2_2 u3_2 τ_2 hm_2 hT i2_1 i2_2 i2_3 i2_4 i2_5 i2_6
      refine h2 _ _ _ _ ?_
      refine ⟨fun c1 => ?_, fun c1 => ?_⟩
      ·
        refine ⟨(show 0 ≤ u2_2 ∧ u2_2 ≤ 2147483647 from by omega), ?_⟩
        refine ⟨(show 0 ≤ ((u1_2 * 24) + (u2_2 / 64)) ∧ ((u1_2 * 24) + (u2_2 / 64)) < 36000 from by omega), ?_⟩
        intro x4 e_x4
        replace hT := cT_b (k := 2) (j := ((u1_2 * 24) + (u2_2 / 64))) (x := (x4 ||| (j_shl 1 (u2_2 % 64)))) hT
        exact hT
      ·
        refine ⟨(show 0 ≤ ((u1_2 * 24) + u3_2) ∧ ((u1_2 * 24) + u3_2) < 36000 from by omega), ?_⟩
        intro x6 e_x6
        refine ⟨(show 0 ≤ ((u2_2 * 24) + u3_2) ∧ ((u2_2 * 24) + u3_2) < 36000 from by omega), ?_⟩
        intro x8 e_x8
        replace hT := cT_b (k := 2) (j := ((u1_2 * 24) + u3_2)) (x := (x6 ||| x8)) hT
        refine ⟨(⟨by omega, by omega⟩ : rg (u3_2 + 1)), ?_⟩
        exact ih_2 _ _ _ _ (show (25 - (u3_2 + 1) : Int) < ((m_2 : Nat) : Int) from by (omega)) hT (show 0 ≤ u1_2 from by omega) (show u1_2 < 1500 from by omega) (show 0 ≤ u2_2 from by omega) (show u2_2 < 1500 from by omega) (show 0 ≤ (u3_2 + 1) from by omega) (show (u3_2 + 1) ≤ 24 from by omega)
  exact l_2 ((25 - 0 : Int).toNat + 1) _ _ _ _ (show (25 - 0 : Int) < (((25 - 0 : Int).toNat + 1 : Nat) : Int) from by (omega)) hT (show 0 ≤ n1 from by omega) (show n1 < 1500 from by omega) (show 0 ≤ n2 from by omega) (show n2 < 1500 from by omega) (show 0 ≤ 0 from by omega) (show 0 ≤ 24 from by omega)
set_option maxHeartbeats 1000000 in
theorem K_X0_restsOn {n1 : Int} {n2 : Int} {σ : S0} (hT : c_T σ) (p1 : 0 ≤ n1) (p2 : n1 < 1500) (p3 : 0 ≤ n2) (p4 : n2 < 1500) : W_X0_restsOn n1 n2 σ (fun (x : Int) => (0 ≤ x ∧ x ≤ 1)) := by
  unfold W_X0_restsOn
  refine ⟨(show 0 ≤ n2 ∧ n2 ≤ 2147483647 from by omega), ?_⟩
  refine ⟨(show 0 ≤ ((n1 * 24) + (n2 / 64)) ∧ ((n1 * 24) + (n2 / 64)) < 36000 from by omega), ?_⟩
  intro x3 e_x3
  refine ⟨fun c4 => ?_, fun c4 => ?_⟩
  ·
    exact (show 0 ≤ 0 ∧ 0 ≤ 1 from by omega)
  ·
    exact (show 0 ≤ 1 ∧ 1 ≤ 1 from by omega)
set_option maxHeartbeats 1000000 in
theorem K_J13_bitCount_95d88 {n0 : Int64} {σ : S0} (hT : c_T σ) : W_J13_bitCount_95d88 n0 σ (fun (x : Int) => True) := by
  unfold W_J13_bitCount_95d88
  intro x1 r_x1 h1_x1
  exact trivial
set_option maxHeartbeats 1000000 in
theorem K_X0_restCount {n1 : Int} {σ : S0} (hT : c_T σ) (p1 : 0 ≤ n1) (p2 : n1 < 1500) : W_X0_restCount n1 σ (fun (x : Int) => True) := by
  intro P4 h4
  have l_4 : ∀ (m_4 : Nat) (u1_4 : Int) (u2_4 : Int) (u3_4 : Int), 25 - u3_4 < (m_4 : Int) → (0 ≤ u1_4) → (u1_4 < 1500) → (0 ≤ u3_4) → (u3_4 ≤ 24) → P4 u1_4 u2_4 u3_4 := by
    intro m_4
    induction m_4 with
    | zero =>
      intro u1_4 u2_4 u3_4 hm i4_1 i4_2 i4_3 i4_4
      exfalso; omega
    | succ m_4 ih_4 =>
      intro u1_4 u2_4 u3_4 hm_4 i4_1 i4_2 i4_3 i4_4
      refine h4 _ _ _ ?_
      refine ⟨fun c1 => ?_, fun c1 => ?_⟩
      ·
        exact trivial
      ·
        refine ⟨(show 0 ≤ ((u1_4 * 24) + u3_4) ∧ ((u1_4 * 24) + u3_4) < 36000 from by omega), ?_⟩
        intro x3 e_x3
        refine ⟨_, K_J13_bitCount_95d88 hT, ?_⟩
        intro x5 r_x5 hq
        intro x7 r_x7
        refine ⟨(⟨by omega, by omega⟩ : rg (u3_4 + 1)), ?_⟩
        exact ih_4 _ _ _ (show (25 - (u3_4 + 1) : Int) < ((m_4 : Nat) : Int) from by (omega)) (show 0 ≤ u1_4 from by omega) (show u1_4 < 1500 from by omega) (show 0 ≤ (u3_4 + 1) from by omega) (show (u3_4 + 1) ≤ 24 from by omega)
  exact l_4 ((25 - 0 : Int).toNat + 1) _ _ _ (show (25 - 0 : Int) < (((25 - 0 : Int).toNat + 1 : Nat) : Int) from by (omega)) (show 0 ≤ n1 from by omega) (show n1 < 1500 from by omega) (show 0 ≤ 0 from by omega) (show 0 ≤ 24 from by omega)
set_option maxHeartbeats 1000000 in
theorem K_X0_restsOnEarlier {n1 : Int} {σ : S0} (hT : c_T σ) (p1 : 0 ≤ n1) (p2 : n1 < 1500) : W_X0_restsOnEarlier n1 σ (fun (x : Int) => (0 ≤ x ∧ x ≤ 1)) := by
  have v7 : 0 ≤ σ.1 7 ∧ σ.1 7 ≤ 1500 := hT.1 7
  intro P2 h2
  have l_2 : ∀ (m_2 : Nat) (u1_2 : Int) (u2_2 : Int), 1501 - u2_2 < (m_2 : Int) → (0 ≤ u1_2) → (u1_2 < 1500) → (0 ≤ u2_2) → (u2_2 ≤ 1500) → P2 u1_2 u2_2 := by
    intro m_2
    induction m_2 with
    | zero =>
      intro u1_2 u2_2 hm i2_1 i2_2 i2_3 i2_4
      exfalso; omega
    | succ m_2 ih_2 =>
      intro u1_2 u2_2 hm_2 i2_1 i2_2 i2_3 i2_4
      refine h2 _ _ ?_
      refine ⟨fun c1 => ?_, fun c1 => ?_⟩
      ·
        exact (show 0 ≤ 1 ∧ 1 ≤ 1 from by omega)
      ·
        refine ⟨_, K_X0_restsOn hT (show 0 ≤ u1_2 from by omega) (show u1_2 < 1500 from by omega) (show 0 ≤ u2_2 from by omega) (show u2_2 < 1500 from by omega), ?_⟩
        intro x3 r_x3 hq
        have q2_1 := hq
        replace q2_1 : 0 ≤ x3 ∧ x3 ≤ 1 := q2_1
        refine ⟨fun c5 => ?_, fun c5 => ?_⟩
        ·
          refine ⟨(⟨by omega, by omega⟩ : rg (u2_2 + 1)), ?_⟩
          exact ih_2 _ _ (show (1501 - (u2_2 + 1) : Int) < ((m_2 : Nat) : Int) from by (omega)) (show 0 ≤ u1_2 from by omega) (show u1_2 < 1500 from by omega) (show 0 ≤ (u2_2 + 1) from by omega) (show (u2_2 + 1) ≤ 1500 from by omega)
        ·
          exact (show 0 ≤ 0 ∧ 0 ≤ 1 from by omega)
  exact l_2 ((1501 - n1 : Int).toNat + 1) _ _ (show (1501 - n1 : Int) < (((1501 - n1 : Int).toNat + 1 : Nat) : Int) from by (omega)) (show 0 ≤ n1 from by omega) (show n1 < 1500 from by omega) (show 0 ≤ n1 from by omega) (show n1 ≤ 1500 from by omega)
set_option maxHeartbeats 1000000 in
theorem K_X8_goalRank {n1 : Int} {σ : S0} (hT : c_T σ) (p1 : 0 ≤ n1) (p2 : n1 < 1000) : W_X8_goalRank n1 σ (fun (x : Int) => (-1 ≤ x ∧ x ≤ 99)) := by
  have v48 : (-1) ≤ σ.1 48 ∧ σ.1 48 ≤ 999 := hT.1 48
  have v49 : (-1) ≤ σ.1 49 ∧ σ.1 49 ≤ 999 := hT.1 49
  intro P16 h16
  refine ⟨fun c1 => ?_, fun c1 => ?_⟩
  ·
    refine h16 _ ?_
    refine ⟨fun c2 => ?_, fun c2 => ?_⟩
    ·
      refine ⟨(show 0 ≤ n1 ∧ n1 < 1000 from by omega), ?_⟩
      intro x4 r_x4 e_x4
      have b_x4 : (-1) ≤ x4 ∧ x4 ≤ 99 := by rw [e_x4]; exact hT.2 10 _
      exact (show -1 ≤ x4 ∧ x4 ≤ 99 from by omega)
    ·
      exact (show -1 ≤ (-1) ∧ (-1) ≤ 99 from by omega)
  ·
    refine h16 _ ?_
    refine ⟨fun c2 => ?_, fun c2 => ?_⟩
    ·
      refine ⟨(show 0 ≤ (σ.1 49) ∧ (σ.1 49) < 1000 from by omega), ?_⟩
      intro x4 r_x4 e_x4
      have b_x4 : (-1) ≤ x4 ∧ x4 ≤ 99 := by rw [e_x4]; exact hT.2 10 _
      exact (show -1 ≤ x4 ∧ x4 ≤ 99 from by omega)
    ·
      exact (show -1 ≤ (-1) ∧ (-1) ≤ 99 from by omega)
set_option maxHeartbeats 1000000 in
theorem K_X8_sortRank {n1 : Int} {σ : S0} (hT : c_T σ) (p1 : 0 ≤ n1) (p2 : n1 < 1000) : W_X8_sortRank n1 σ (fun (x : Int) => (-1 ≤ x ∧ x ≤ 99)) := by
  have v48 : (-1) ≤ σ.1 48 ∧ σ.1 48 ≤ 999 := hT.1 48
  unfold W_X8_sortRank
  refine ⟨fun c1 => ?_, fun c1 => ?_⟩
  ·
    refine ⟨(show 0 ≤ n1 ∧ n1 < 1000 from by omega), ?_⟩
    intro x3 r_x3 e_x3
    have b_x3 : (-1) ≤ x3 ∧ x3 ≤ 99 := by rw [e_x3]; exact hT.2 10 _
    exact (show -1 ≤ x3 ∧ x3 ≤ 99 from by omega)
  ·
    exact (show -1 ≤ (-1) ∧ (-1) ≤ 99 from by omega)
set_option maxHeartbeats 1000000 in
theorem K_X6_clear {σ : S0} (hT : c_T σ) : W_X6_clear σ (fun (τ : S0) => (c_T τ)) := by
  unfold W_X6_clear
  replace hT := cT_v (i := 17) hT (show (0 : Int) ≤ 0 ∧ 0 ≤ 42000 from by omega)
  replace hT := cT_v (i := 18) hT (show (0 : Int) ≤ 42000 ∧ 42000 ≤ 42000 from by omega)
  exact hT
set_option maxHeartbeats 1000000 in
theorem K_X3_constants {σ : S0} (hT : c_T σ) : W_X3_constants σ (fun (x : Int) => True) := by
  have v5 : 0 ≤ σ.1 5 ∧ σ.1 5 ≤ 1000 := hT.1 5
  intro P4 h4
  have l_4 : ∀ (m_4 : Nat) (u1_4 : Int) (u2_4 : Int), 1001 - u2_4 < (m_4 : Int) → (0 ≤ u2_4) → (u2_4 ≤ 1000) → (0 ≤ u1_4) → (u1_4 ≤ u2_4) → P4 u1_4 u2_4 := by
    intro m_4
    induction m_4 with
    | zero =>
      intro u1_4 u2_4 hm i4_1 i4_2 i4_3 i4_4
      exfalso; omega
    | succ m_4 ih_4 =>
      intro u1_4 u2_4 hm_4 i4_1 i4_2 i4_3 i4_4
      refine h4 _ _ ?_
      refine ⟨fun c1 => ?_, fun c1 => ?_⟩
      ·
        exact trivial
      ·
        refine ⟨(show 0 ≤ u2_4 ∧ u2_4 < 1000 from by omega), ?_⟩
        intro x3 r_x3 e_x3
        have b_x3 : 0 ≤ x3 ∧ x3 ≤ 1 := by rw [e_x3]; exact hT.2 8 _
        refine ⟨fun c4 => ?_, fun c4 => ?_⟩
        ·
          refine ⟨(⟨by omega, by omega⟩ : rg (u1_4 + 1)), ?_⟩
          refine ⟨(⟨by omega, by omega⟩ : rg (u2_4 + 1)), ?_⟩
          exact ih_4 _ _ (show (1001 - (u2_4 + 1) : Int) < ((m_4 : Nat) : Int) from by (omega)) (show 0 ≤ (u2_4 + 1) from by omega) (show (u2_4 + 1) ≤ 1000 from by omega) (show 0 ≤ (u1_4 + 1) from by omega) (show (u1_4 + 1) ≤ (u2_4 + 1) from by omega)
        ·
          refine ⟨(⟨by omega, by omega⟩ : rg (u1_4 + 0)), ?_⟩
          refine ⟨(⟨by omega, by omega⟩ : rg (u2_4 + 1)), ?_⟩
          exact ih_4 _ _ (show (1001 - (u2_4 + 1) : Int) < ((m_4 : Nat) : Int) from by (omega)) (show 0 ≤ (u2_4 + 1) from by omega) (show (u2_4 + 1) ≤ 1000 from by omega) (show 0 ≤ (u1_4 + 0) from by omega) (show (u1_4 + 0) ≤ (u2_4 + 1) from by omega)
  exact l_4 ((1001 - 0 : Int).toNat + 1) _ _ (show (1001 - 0 : Int) < (((1001 - 0 : Int).toNat + 1 : Nat) : Int) from by (omega)) (show 0 ≤ 0 from by omega) (show 0 ≤ 1000 from by omega) (show 0 ≤ 0 from by omega) (show 0 ≤ 0 from by omega)
set_option maxHeartbeats 1000000 in
theorem K_X3_ofKind {n1 : Int} {σ : S0} (hT : c_T σ) : W_X3_ofKind n1 σ (fun (x : Int) => (0 ≤ x ∧ x ≤ 1500)) := by
  have v7 : 0 ≤ σ.1 7 ∧ σ.1 7 ≤ 1500 := hT.1 7
  intro P4 h4
  have l_4 : ∀ (m_4 : Nat) (u1_4 : Int) (u2_4 : Int) (u3_4 : Int), 1501 - u3_4 < (m_4 : Int) → (0 ≤ u3_4) → (u3_4 ≤ 1500) → (0 ≤ u2_4) → (u2_4 ≤ u3_4) → P4 u1_4 u2_4 u3_4 := by
    intro m_4
    induction m_4 with
    | zero =>
      intro u1_4 u2_4 u3_4 hm i4_1 i4_2 i4_3 i4_4
      exfalso; omega
    | succ m_4 ih_4 =>
      intro u1_4 u2_4 u3_4 hm_4 i4_1 i4_2 i4_3 i4_4
      refine h4 _ _ _ ?_
      refine ⟨fun c1 => ?_, fun c1 => ?_⟩
      ·
        exact (show 0 ≤ u2_4 ∧ u2_4 ≤ 1500 from by omega)
      ·
        refine ⟨(show 0 ≤ u3_4 ∧ u3_4 < 1500 from by omega), ?_⟩
        intro x3 r_x3 e_x3
        have b_x3 : 0 ≤ x3 ∧ x3 ≤ 4 := by rw [e_x3]; exact hT.2 13 _
        refine ⟨fun c4 => ?_, fun c4 => ?_⟩
        ·
          refine ⟨(⟨by omega, by omega⟩ : rg (u2_4 + 0)), ?_⟩
          refine ⟨(⟨by omega, by omega⟩ : rg (u3_4 + 1)), ?_⟩
          exact ih_4 _ _ _ (show (1501 - (u3_4 + 1) : Int) < ((m_4 : Nat) : Int) from by (omega)) (show 0 ≤ (u3_4 + 1) from by omega) (show (u3_4 + 1) ≤ 1500 from by omega) (show 0 ≤ (u2_4 + 0) from by omega) (show (u2_4 + 0) ≤ (u3_4 + 1) from by omega)
        ·
          refine ⟨(⟨by omega, by omega⟩ : rg (u2_4 + 1)), ?_⟩
          refine ⟨(⟨by omega, by omega⟩ : rg (u3_4 + 1)), ?_⟩
          exact ih_4 _ _ _ (show (1501 - (u3_4 + 1) : Int) < ((m_4 : Nat) : Int) from by (omega)) (show 0 ≤ (u3_4 + 1) from by omega) (show (u3_4 + 1) ≤ 1500 from by omega) (show 0 ≤ (u2_4 + 1) from by omega) (show (u2_4 + 1) ≤ (u3_4 + 1) from by omega)
  exact l_4 ((1501 - 0 : Int).toNat + 1) _ _ _ (show (1501 - 0 : Int) < (((1501 - 0 : Int).toNat + 1 : Nat) : Int) from by (omega)) (show 0 ≤ 0 from by omega) (show 0 ≤ 1500 from by omega) (show 0 ≤ 0 from by omega) (show 0 ≤ 0 from by omega)
set_option maxHeartbeats 1000000 in
theorem K_X6_isSame {n1 : Int} {n2 : Int} {n3 : Int} {σ : S0} (hT : c_T σ) (p1 : 0 ≤ n1) (p2 : 0 ≤ n2) (p3 : n1 + n3 ≤ 42000) (p4 : n2 + n3 ≤ 42000) : W_X6_isSame n1 n2 n3 σ (fun (x : Int) => (0 ≤ x ∧ x ≤ 1)) := by
  intro P3 h3
  have l_3 : ∀ (m_3 : Nat) (u1_3 : Int) (u2_3 : Int) (u3_3 : Int) (u4_3 : Int), 42001 - u4_3 < (m_3 : Int) → (0 ≤ u1_3) → (0 ≤ u2_3) → (u1_3 + u3_3 ≤ 42000) → (u2_3 + u3_3 ≤ 42000) → (0 ≤ u4_3) → (u4_3 ≤ 42000) → P3 u1_3 u2_3 u3_3 u4_3 := by
    intro m_3
    induction m_3 with
    | zero =>
      intro u1_3 u2_3 u3_3 u4_3 hm i3_1 i3_2 i3_3 i3_4 i3_5 i3_6
      exfalso; omega
    | succ m_3 ih_3 =>
      intro u1_3 u2_3 u3_3 u4_3 hm_3 i3_1 i3_2 i3_3 i3_4 i3_5 i3_6
      refine h3 _ _ _ _ ?_
      refine ⟨fun c1 => ?_, fun c1 => ?_⟩
      ·
        exact (show 0 ≤ 1 ∧ 1 ≤ 1 from by omega)
      ·
        refine ⟨(show 0 ≤ (u1_3 + u4_3) ∧ (u1_3 + u4_3) < 42000 from by omega), ?_⟩
        intro x3 r_x3 e_x3
        have b_x3 : 0 ≤ x3 ∧ x3 ≤ 1060 := by rw [e_x3]; exact hT.2 39 _
        refine ⟨(show 0 ≤ (u2_3 + u4_3) ∧ (u2_3 + u4_3) < 42000 from by omega), ?_⟩
        intro x5 r_x5 e_x5
        have b_x5 : 0 ≤ x5 ∧ x5 ≤ 1060 := by rw [e_x5]; exact hT.2 39 _
        refine ⟨fun c6 => ?_, fun c6 => ?_⟩
        ·
          refine ⟨(⟨by omega, by omega⟩ : rg (u4_3 + 1)), ?_⟩
          exact ih_3 _ _ _ _ (show (42001 - (u4_3 + 1) : Int) < ((m_3 : Nat) : Int) from by (omega)) (show 0 ≤ u1_3 from by omega) (show 0 ≤ u2_3 from by omega) (show u1_3 + u3_3 ≤ 42000 from by omega) (show u2_3 + u3_3 ≤ 42000 from by omega) (show 0 ≤ (u4_3 + 1) from by omega) (show (u4_3 + 1) ≤ 42000 from by omega)
        ·
          exact (show 0 ≤ 0 ∧ 0 ≤ 1 from by omega)
  exact l_3 ((42001 - 0 : Int).toNat + 1) _ _ _ _ (show (42001 - 0 : Int) < (((42001 - 0 : Int).toNat + 1 : Nat) : Int) from by (omega)) (show 0 ≤ n1 from by omega) (show 0 ≤ n2 from by omega) (show n1 + n3 ≤ 42000 from by omega) (show n2 + n3 ≤ 42000 from by omega) (show 0 ≤ 0 from by omega) (show 0 ≤ 42000 from by omega)
set_option maxHeartbeats 1000000 in
theorem K_X9_areApart {n1 : Int} {n2 : Int} {σ : S0} (hT : c_T σ) (p1 : 0 ≤ n1) (p2 : n1 < 1000) (p3 : 0 ≤ n2) (p4 : n2 < 1000) : W_X9_areApart n1 n2 σ (fun (x : Int) => (0 ≤ x ∧ x ≤ 1)) := by
  unfold W_X9_areApart
  refine ⟨(show 0 ≤ n2 ∧ n2 ≤ 2147483647 from by omega), ?_⟩
  refine ⟨(show 0 ≤ ((n1 * 16) + (n2 / 64)) ∧ ((n1 * 16) + (n2 / 64)) < 16000 from by omega), ?_⟩
  intro x3 e_x3
  refine ⟨fun c4 => ?_, fun c4 => ?_⟩
  ·
    exact (show 0 ≤ 0 ∧ 0 ≤ 1 from by omega)
  ·
    exact (show 0 ≤ 1 ∧ 1 ≤ 1 from by omega)
set_option maxHeartbeats 1000000 in
theorem K_X7_faultAtEnd {σ : S0} (hT : c_T σ) : W_X7_faultAtEnd σ (fun (x : Int) => (0 ≤ x ∧ x ≤ 19) ∧ (x = 0 → (σ.1 35) = 0 ∧ (σ.1 11) = 0)) := by
  have v11 : 0 ≤ σ.1 11 ∧ σ.1 11 ≤ 50 := hT.1 11
  have v34 : 0 ≤ σ.1 34 ∧ σ.1 34 ≤ 1 := hT.1 34
  have v35 : 0 ≤ σ.1 35 ∧ σ.1 35 ≤ 7 := hT.1 35
  unfold W_X7_faultAtEnd
  refine ⟨fun c1 => ?_, fun c1 => ?_⟩
  ·
    refine ⟨fun c2 => ?_, fun c2 => ?_⟩
    ·
      exact ⟨(show 0 ≤ 4 ∧ 4 ≤ 19 from by omega), (show 4 = 0 → (σ.1 35) = 0 ∧ (σ.1 11) = 0 from by omega)⟩
    ·
      refine ⟨fun c3 => ?_, fun c3 => ?_⟩
      ·
        exact ⟨(show 0 ≤ 0 ∧ 0 ≤ 19 from by omega), (show 0 = 0 → (σ.1 35) = 0 ∧ (σ.1 11) = 0 from by omega)⟩
      ·
        exact ⟨(show 0 ≤ 4 ∧ 4 ≤ 19 from by omega), (show 4 = 0 → (σ.1 35) = 0 ∧ (σ.1 11) = 0 from by omega)⟩
  ·
    exact ⟨(show 0 ≤ 2 ∧ 2 ≤ 19 from by omega), (show 2 = 0 → (σ.1 35) = 0 ∧ (σ.1 11) = 0 from by omega)⟩
set_option maxHeartbeats 1000000 in
theorem K_X7_hasDollar {n1 : Int} {n2 : Int} {σ : S0} (hT : c_T σ) (p1 : 0 ≤ n1) (p2 : 0 ≤ n2) (p3 : n1 + n2 ≤ 60000) (p4 : ¬ σ.1 66 = 0) : W_X7_hasDollar n1 n2 σ (fun (x : Int) => (0 ≤ x ∧ x ≤ 1)) := by
  have v66 : 0 ≤ σ.1 66 ∧ σ.1 66 ≤ 1 := hT.1 66
  intro P2 h2
  have l_2 : ∀ (m_2 : Nat) (u1_2 : Int) (u2_2 : Int) (u3_2 : Int), 60001 - u3_2 < (m_2 : Int) → (0 ≤ u1_2) → (0 ≤ u2_2) → (u1_2 + u2_2 ≤ 60000) → (u1_2 ≤ u3_2) → (u3_2 ≤ 60000) → P2 u1_2 u2_2 u3_2 := by
    intro m_2
    induction m_2 with
    | zero =>
      intro u1_2 u2_2 u3_2 hm i2_1 i2_2 i2_3 i2_4 i2_5
      exfalso; omega
    | succ m_2 ih_2 =>
      intro u1_2 u2_2 u3_2 hm_2 i2_1 i2_2 i2_3 i2_4 i2_5
      refine h2 _ _ _ ?_
      refine ⟨(⟨by omega, by omega⟩ : rg (u1_2 + u2_2)), ?_⟩
      refine ⟨fun c2 => ?_, fun c2 => ?_⟩
      ·
        exact (show 0 ≤ 0 ∧ 0 ≤ 1 from by omega)
      ·
        refine ⟨(show ¬ σ.1 66 = 0 from by omega), ?_⟩
        refine ⟨(show 0 ≤ u3_2 ∧ u3_2 < 60000 from by omega), ?_⟩
        intro x5 r_x5 e_x5
        have b_x5 : 0 ≤ x5 ∧ x5 ≤ 255 := by rw [e_x5]; exact hT.2 0 _
        refine ⟨fun c6 => ?_, fun c6 => ?_⟩
        ·
          refine ⟨(⟨by omega, by omega⟩ : rg (u3_2 + 1)), ?_⟩
          exact ih_2 _ _ _ (show (60001 - (u3_2 + 1) : Int) < ((m_2 : Nat) : Int) from by (omega)) (show 0 ≤ u1_2 from by omega) (show 0 ≤ u2_2 from by omega) (show u1_2 + u2_2 ≤ 60000 from by omega) (show u1_2 ≤ (u3_2 + 1) from by omega) (show (u3_2 + 1) ≤ 60000 from by omega)
        ·
          exact (show 0 ≤ 1 ∧ 1 ≤ 1 from by omega)
  exact l_2 ((60001 - n1 : Int).toNat + 1) _ _ _ (show (60001 - n1 : Int) < (((60001 - n1 : Int).toNat + 1 : Nat) : Int) from by (omega)) (show 0 ≤ n1 from by omega) (show 0 ≤ n2 from by omega) (show n1 + n2 ≤ 60000 from by omega) (show n1 ≤ n1 from by omega) (show n1 ≤ 60000 from by omega)
set_option maxHeartbeats 1000000 in
theorem K_X10_isOne_q13 {n1 : Int} {n2 : Int} {n3 : Int} {σ : S0} (hT : c_T σ) (p1 : 0 ≤ n1) (p2 : n1 < 60000) : W_X10_isOne_q13 n1 n2 n3 σ (fun (x : Int) => (0 ≤ x ∧ x ≤ 1)) := by
  unfold W_X10_isOne_q13
  refine ⟨fun c1 => ?_, fun c1 => ?_⟩
  ·
    exact (show 0 ≤ 0 ∧ 0 ≤ 1 from by omega)
  ·
    refine ⟨(show 0 ≤ n1 ∧ n1 < 60000 from by omega), ?_⟩
    intro x3 r_x3 e_x3
    have b_x3 : 0 ≤ x3 ∧ x3 ≤ 255 := by rw [e_x3]; exact hT.2 0 _
    refine ⟨fun c4 => ?_, fun c4 => ?_⟩
    ·
      exact (show 0 ≤ 0 ∧ 0 ≤ 1 from by omega)
    ·
      exact (show 0 ≤ 1 ∧ 1 ≤ 1 from by omega)
set_option maxHeartbeats 1000000 in
theorem K_X10_isFull {σ : S0} (hT : c_T σ) (p1 : 0 ≤ (σ.1 21)) : W_X10_isFull σ (fun (x : Int) => (0 ≤ x ∧ x ≤ 1) ∧ (x = 0 → (σ.1 16) + (σ.1 21) < 20000)) := by
  have v16 : 0 ≤ σ.1 16 ∧ σ.1 16 ≤ 20000 := hT.1 16
  have v21 : 0 ≤ σ.1 21 ∧ σ.1 21 ≤ 20000 := hT.1 21
  unfold W_X10_isFull
  refine ⟨(⟨by omega, by omega⟩ : rg (σ.1 16 + σ.1 21)), ?_⟩
  refine ⟨fun c2 => ?_, fun c2 => ?_⟩
  ·
    exact ⟨(show 0 ≤ 0 ∧ 0 ≤ 1 from by omega), (show 0 = 0 → (σ.1 16) + (σ.1 21) < 20000 from by omega)⟩
  ·
    exact ⟨(show 0 ≤ 1 ∧ 1 ≤ 1 from by omega), (show 1 = 0 → (σ.1 16) + (σ.1 21) < 20000 from by omega)⟩
set_option maxHeartbeats 1000000 in
theorem K_X10_addStep {n1 : Int} {σ : S0} (hT : c_T σ) (p1 : -300 ≤ n1) (p2 : n1 ≤ 67035) (p3 : (σ.1 21) < 20000) : W_X10_addStep n1 σ (fun (τ : S0) => (c_T τ) ∧ ((τ.1 21) = (σ.1 21) + 1)) := by
  have v21 : 0 ≤ σ.1 21 ∧ σ.1 21 ≤ 20000 := hT.1 21
  have v29 : 0 ≤ σ.1 29 ∧ σ.1 29 ≤ 60000 := hT.1 29
  have W29 : σ.1 29 = σ.1 29 := rfl
  unfold W_X10_addStep
  refine ⟨(show 0 ≤ σ.1 21 ∧ σ.1 21 < 20000 from by omega), ?_⟩
  replace hT := cT_a (k := 49) (j := (σ.1 21)) hT (show (-300 : Int) ≤ n1 ∧ n1 ≤ 67035 from by omega)
  replace hT := cT_a (k := 50) (j := (σ.1 21)) hT (show (0 : Int) ≤ (σ.1 29) ∧ (σ.1 29) ≤ 60000 from by omega)
  refine ⟨(⟨by omega, by omega⟩ : rg (σ.1 21 + 1)), ?_⟩
  replace hT := cT_v (i := 21) hT (show 0 ≤ (σ.1 21 + 1) ∧ (σ.1 21 + 1) ≤ 20000 from by omega)
  exact ⟨hT, (show ((σ.1 21 + 1)) = (σ.1 21) + 1 from by omega)⟩
set_option maxHeartbeats 1000000 in
theorem K_X10_isUsable {n1 : Int} {σ : S0} (hT : c_T σ) (p1 : -1 ≤ n1) (p2 : n1 < 1500) : W_X10_isUsable n1 σ (fun (x : Int) => (0 ≤ x ∧ x ≤ 1) ∧ (¬ x = 0 → 0 ≤ n1 ∧ n1 < (σ.1 24))) := by
  have v24 : 0 ≤ σ.1 24 ∧ σ.1 24 ≤ 1499 := hT.1 24
  unfold W_X10_isUsable
  refine ⟨fun c1 => ?_, fun c1 => ?_⟩
  ·
    exact ⟨(show 0 ≤ 0 ∧ 0 ≤ 1 from by omega), (show ¬ 0 = 0 → 0 ≤ n1 ∧ n1 < (σ.1 24) from by omega)⟩
  ·
    refine ⟨fun c2 => ?_, fun c2 => ?_⟩
    ·
      exact ⟨(show 0 ≤ 0 ∧ 0 ≤ 1 from by omega), (show ¬ 0 = 0 → 0 ≤ n1 ∧ n1 < (σ.1 24) from by omega)⟩
    ·
      refine ⟨(show 0 ≤ n1 ∧ n1 < 1500 from by omega), ?_⟩
      intro x4 r_x4 e_x4
      have b_x4 : 0 ≤ x4 ∧ x4 ≤ 4 := by rw [e_x4]; exact hT.2 13 _
      refine ⟨fun c5 => ?_, fun c5 => ?_⟩
      ·
        exact ⟨(show 0 ≤ 1 ∧ 1 ≤ 1 from by omega), (show ¬ 1 = 0 → 0 ≤ n1 ∧ n1 < (σ.1 24) from by omega)⟩
      ·
        intro x6 r_x6 e_x6
        have b_x6 : 0 ≤ x6 ∧ x6 ≤ 1 := by rw [e_x6]; exact hT.2 21 _
        refine ⟨fun c7 => ?_, fun c7 => ?_⟩
        ·
          exact ⟨(show 0 ≤ 0 ∧ 0 ≤ 1 from by omega), (show ¬ 0 = 0 → 0 ≤ n1 ∧ n1 < (σ.1 24) from by omega)⟩
        ·
          exact ⟨(show 0 ≤ 1 ∧ 1 ≤ 1 from by omega), (show ¬ 1 = 0 → 0 ≤ n1 ∧ n1 < (σ.1 24) from by omega)⟩
set_option maxHeartbeats 1000000 in
theorem K_X10_isListed {n1 : Int} {σ : S0} (hT : c_T σ) : W_X10_isListed n1 σ (fun (x : Int) => (0 ≤ x ∧ x ≤ 1)) := by
  have v22 : 0 ≤ σ.1 22 ∧ σ.1 22 ≤ 300 := hT.1 22
  intro P2 h2
  have l_2 : ∀ (m_2 : Nat) (u1_2 : Int) (u2_2 : Int), 301 - u2_2 < (m_2 : Int) → (0 ≤ u2_2) → (u2_2 ≤ 300) → P2 u1_2 u2_2 := by
    intro m_2
    induction m_2 with
    | zero =>
      intro u1_2 u2_2 hm i2_1 i2_2
      exfalso; omega
    | succ m_2 ih_2 =>
      intro u1_2 u2_2 hm_2 i2_1 i2_2
      refine h2 _ _ ?_
      refine ⟨fun c1 => ?_, fun c1 => ?_⟩
      ·
        exact (show 0 ≤ 0 ∧ 0 ≤ 1 from by omega)
      ·
        refine ⟨(show 0 ≤ u2_2 ∧ u2_2 < 300 from by omega), ?_⟩
        intro x3 r_x3 e_x3
        have b_x3 : 0 ≤ x3 ∧ x3 ≤ 1499 := by rw [e_x3]; exact hT.2 51 _
        refine ⟨fun c4 => ?_, fun c4 => ?_⟩
        ·
          refine ⟨(⟨by omega, by omega⟩ : rg (u2_2 + 1)), ?_⟩
          exact ih_2 _ _ (show (301 - (u2_2 + 1) : Int) < ((m_2 : Nat) : Int) from by (omega)) (show 0 ≤ (u2_2 + 1) from by omega) (show (u2_2 + 1) ≤ 300 from by omega)
        ·
          exact (show 0 ≤ 1 ∧ 1 ≤ 1 from by omega)
  exact l_2 ((301 - 0 : Int).toNat + 1) _ _ (show (301 - 0 : Int) < (((301 - 0 : Int).toNat + 1 : Nat) : Int) from by (omega)) (show 0 ≤ 0 from by omega) (show 0 ≤ 300 from by omega)
set_option maxHeartbeats 1000000 in
theorem K_X9_isKnown {n1 : Int} {σ : S0} (hT : c_T σ) (p1 : -1 ≤ n1) (p2 : n1 < 1000) : W_X9_isKnown n1 σ (fun (x : Int) => (0 ≤ x ∧ x ≤ 1) ∧ (¬ x = 0 → 0 ≤ n1) ∧ (¬ x = 0 → σ.2.1 8 n1 = 0 ∨ ¬ σ.2.1 18 n1 = 0) ∧ (0 ≤ n1 → (σ.2.1 8 n1 = 0 ∨ ¬ σ.2.1 18 n1 = 0) → ¬ x = 0)) := by
  unfold W_X9_isKnown
  refine ⟨fun c1 => ?_, fun c1 => ?_⟩
  ·
    exact ⟨(show 0 ≤ 0 ∧ 0 ≤ 1 from by omega), (show ¬ 0 = 0 → 0 ≤ n1 from by omega), (show ¬ 0 = 0 → σ.2.1 8 n1 = 0 ∨ ¬ σ.2.1 18 n1 = 0 from by omega), (show 0 ≤ n1 → (σ.2.1 8 n1 = 0 ∨ ¬ σ.2.1 18 n1 = 0) → ¬ 0 = 0 from by omega)⟩
  ·
    refine ⟨(show 0 ≤ n1 ∧ n1 < 1000 from by omega), ?_⟩
    intro x3 r_x3 e_x3
    have b_x3 : 0 ≤ x3 ∧ x3 ≤ 1 := by rw [e_x3]; exact hT.2 8 _
    refine ⟨fun c4 => ?_, fun c4 => ?_⟩
    ·
      exact ⟨(show 0 ≤ 1 ∧ 1 ≤ 1 from by omega), (show ¬ 1 = 0 → 0 ≤ n1 from by omega), (show ¬ 1 = 0 → σ.2.1 8 n1 = 0 ∨ ¬ σ.2.1 18 n1 = 0 from by omega), (show 0 ≤ n1 → (σ.2.1 8 n1 = 0 ∨ ¬ σ.2.1 18 n1 = 0) → ¬ 1 = 0 from by omega)⟩
    ·
      intro x5 r_x5 e_x5
      have b_x5 : 0 ≤ x5 ∧ x5 ≤ 1 := by rw [e_x5]; exact hT.2 18 _
      refine ⟨fun c6 => ?_, fun c6 => ?_⟩
      ·
        exact ⟨(show 0 ≤ 0 ∧ 0 ≤ 1 from by omega), (show ¬ 0 = 0 → 0 ≤ n1 from by omega), (show ¬ 0 = 0 → σ.2.1 8 n1 = 0 ∨ ¬ σ.2.1 18 n1 = 0 from by omega), (show 0 ≤ n1 → (σ.2.1 8 n1 = 0 ∨ ¬ σ.2.1 18 n1 = 0) → ¬ 0 = 0 from by omega)⟩
      ·
        exact ⟨(show 0 ≤ 1 ∧ 1 ≤ 1 from by omega), (show ¬ 1 = 0 → 0 ≤ n1 from by omega), (show ¬ 1 = 0 → σ.2.1 8 n1 = 0 ∨ ¬ σ.2.1 18 n1 = 0 from by omega), (show 0 ≤ n1 → (σ.2.1 8 n1 = 0 ∨ ¬ σ.2.1 18 n1 = 0) → ¬ 1 = 0 from by omega)⟩
set_option maxHeartbeats 1000000 in
theorem K_X9_addVariable {n1 : Int} {σ : S0} (hT : c_T σ) (p1 : 0 ≤ n1) (p2 : n1 < 1000) (p3 : (σ.1 8) < 1000) : W_X9_addVariable n1 σ (fun (τ : S0) => (c_T τ) ∧ ((τ.1 8) = (σ.1 8) + 1) ∧ (τ.2.1 18 = st (σ.2.1 18) n1 1) ∧ (τ.2.1 20 = st (σ.2.1 20) ((σ.1 8)) n1)) := by
  have v8 : 0 ≤ σ.1 8 ∧ σ.1 8 ≤ 1000 := hT.1 8
  unfold W_X9_addVariable
  refine ⟨(show 0 ≤ n1 ∧ n1 < 1000 from by omega), ?_⟩
  replace hT := cT_a (k := 18) (j := n1) hT (show (0 : Int) ≤ 1 ∧ 1 ≤ 1 from by omega)
  refine ⟨(show 0 ≤ σ.1 8 ∧ σ.1 8 < 1000 from by omega), ?_⟩
  replace hT := cT_a (k := 20) (j := (σ.1 8)) hT (show (0 : Int) ≤ n1 ∧ n1 ≤ 999 from by omega)
  refine ⟨(⟨by omega, by omega⟩ : rg (σ.1 8 + 1)), ?_⟩
  replace hT := cT_v (i := 8) hT (show 0 ≤ (σ.1 8 + 1) ∧ (σ.1 8 + 1) ≤ 1000 from by omega)
  exact ⟨hT, (show ((σ.1 8 + 1)) = (σ.1 8) + 1 from by omega), (show (st (σ.2.1 18) n1 1) = st (σ.2.1 18) n1 1 from by rfl), (show (st (σ.2.1 20) (σ.1 8) n1) = st (σ.2.1 20) ((σ.1 8)) n1 from by rfl)⟩
set_option maxHeartbeats 1000000 in
theorem K_X9_turnPair {n1 : Int} {n2 : Int} {σ : S0} (hT : c_T σ) (p1 : 0 ≤ n1) (p2 : n1 < 1000) (p3 : 0 ≤ n2) (p4 : n2 < 1000) : W_X9_turnPair n1 n2 σ (fun (τ : S0) => (c_T τ)) := by
  unfold W_X9_turnPair
  refine ⟨(show 0 ≤ n2 ∧ n2 ≤ 2147483647 from by omega), ?_⟩
  refine ⟨(show 0 ≤ ((n1 * 16) + (n2 / 64)) ∧ ((n1 * 16) + (n2 / 64)) < 16000 from by omega), ?_⟩
  intro x3 e_x3
  replace hT := cT_b (k := 0) (j := ((n1 * 16) + (n2 / 64))) (x := (x3 ^^^ (j_shl 1 (n2 % 64)))) hT
  refine ⟨(show 0 ≤ n1 ∧ n1 ≤ 2147483647 from by omega), ?_⟩
  refine ⟨(show 0 ≤ ((n2 * 16) + (n1 / 64)) ∧ ((n2 * 16) + (n1 / 64)) < 16000 from by omega), ?_⟩
  intro x6 e_x6
  replace hT := cT_b (k := 0) (j := ((n2 * 16) + (n1 / 64))) (x := (x6 ^^^ (j_shl 1 (n1 % 64)))) hT
  exact hT
set_option maxHeartbeats 1000000 in
theorem K_X9_addPair {n1 : Int} {n2 : Int} {σ : S0} (hT : c_T σ) (p1 : 0 ≤ n1) (p2 : n1 < 1000) (p3 : 0 ≤ n2) (p4 : n2 < 1000) (p5 : (σ.1 10) < 1000) : W_X9_addPair n1 n2 σ (fun (τ : S0) => (c_T τ) ∧ ((τ.1 10) = (σ.1 10) + 1)) := by
  have v10 : 0 ≤ σ.1 10 ∧ σ.1 10 ≤ 1000 := hT.1 10
  unfold W_X9_addPair
  refine ⟨(show 0 ≤ σ.1 10 ∧ σ.1 10 < 1000 from by omega), ?_⟩
  replace hT := cT_a (k := 23) (j := (σ.1 10)) hT (show (0 : Int) ≤ n1 ∧ n1 ≤ 999 from by omega)
  replace hT := cT_a (k := 24) (j := (σ.1 10)) hT (show (0 : Int) ≤ n2 ∧ n2 ≤ 999 from by omega)
  refine ⟨(⟨by omega, by omega⟩ : rg (σ.1 10 + 1)), ?_⟩
  replace hT := cT_v (i := 10) hT (show 0 ≤ (σ.1 10 + 1) ∧ (σ.1 10 + 1) ≤ 1000 from by omega)
  refine ⟨_, K_X9_turnPair hT (show 0 ≤ n1 from by omega) (show n1 < 1000 from by omega) (show 0 ≤ n2 from by omega) (show n2 < 1000 from by omega), ?_⟩
  intro τ5 hn_τ5 hf_τ5 hq
  replace hT := hq
  have w10_τ5 : τ5.1 10 = (σ.1 10 + 1) := hf_τ5.1 10 (by decide)
  have v10 : 0 ≤ τ5.1 10 ∧ τ5.1 10 ≤ 1000 := hT.1 10
  exact ⟨hT, (show (τ5.1 10) = (σ.1 10) + 1 from by omega)⟩
set_option maxHeartbeats 1000000 in
theorem K_X10_begin {n1 : Int} {σ : S0} (hT : c_T σ) (p1 : 0 ≤ n1) (p2 : n1 < 1500) : W_X10_begin n1 σ (fun (τ : S0) => (c_T τ) ∧ ((τ.1 21) = 0) ∧ ((τ.1 24) = n1) ∧ ((τ.1 25) = 0)) := by
  have v21 : 0 ≤ σ.1 21 ∧ σ.1 21 ≤ 20000 := hT.1 21
  have v24 : 0 ≤ σ.1 24 ∧ σ.1 24 ≤ 1499 := hT.1 24
  have v25 : 0 ≤ σ.1 25 ∧ σ.1 25 ≤ 3 := hT.1 25
  unfold W_X10_begin
  replace hT := cT_v (i := 24) hT (show 0 ≤ n1 ∧ n1 ≤ 1499 from by omega)
  replace hT := cT_v (i := 25) hT (show (0 : Int) ≤ 0 ∧ 0 ≤ 3 from by omega)
  replace hT := cT_v (i := 21) hT (show (0 : Int) ≤ 0 ∧ 0 ≤ 20000 from by omega)
  replace hT := cT_v (i := 22) hT (show (0 : Int) ≤ 0 ∧ 0 ≤ 300 from by omega)
  replace hT := cT_v (i := 23) hT (show (0 : Int) ≤ 0 ∧ 0 ≤ 300 from by omega)
  replace hT := cT_v (i := 26) hT (show (0 : Int) ≤ 0 ∧ 0 ≤ 5000010 from by omega)
  replace hT := cT_v (i := 27) hT (show (0 : Int) ≤ 0 ∧ 0 ≤ 1 from by omega)
  replace hT := cT_v (i := 28) hT (show (0 : Int) ≤ 0 ∧ 0 ≤ 1 from by omega)
  exact ⟨hT, (show ((0 : Int)) = 0 from by omega), (show (n1) = n1 from by omega), (show ((0 : Int)) = 0 from by omega)⟩
set_option maxHeartbeats 1000000 in
theorem K_X9_mark {σ : S0} (hT : c_T σ) (p1 : 0 ≤ (σ.1 11)) : W_X9_mark σ (fun (τ : S0) => (c_T τ) ∧ (τ.2.1 25 = st (st (st (σ.2.1 25) (3 * (σ.1 11)) (σ.1 8)) (3 * (σ.1 11) + 1) (σ.1 9)) (3 * (σ.1 11) + 2) (σ.1 10))) := by
  have v8 : 0 ≤ σ.1 8 ∧ σ.1 8 ≤ 1000 := hT.1 8
  have v9 : 0 ≤ σ.1 9 ∧ σ.1 9 ≤ 1500 := hT.1 9
  have v10 : 0 ≤ σ.1 10 ∧ σ.1 10 ≤ 1000 := hT.1 10
  have v11 : 0 ≤ σ.1 11 ∧ σ.1 11 ≤ 50 := hT.1 11
  have W8 : σ.1 8 = σ.1 8 := rfl
  have W9 : σ.1 9 = σ.1 9 := rfl
  have W10 : σ.1 10 = σ.1 10 := rfl
  have W11 : σ.1 11 = σ.1 11 := rfl
  unfold W_X9_mark
  refine ⟨(show 0 ≤ (3 * σ.1 11) ∧ (3 * σ.1 11) < 153 from by omega), ?_⟩
  replace hT := cT_a (k := 25) (j := (3 * σ.1 11)) hT (marks_s (show (0 : Int) ≤ (σ.1 8) from by omega) (show (σ.1 8) ≤ 1000 ∨ ((3 * σ.1 11) % 3 = 1 ∧ (σ.1 8) ≤ 1500) from by omega))
  refine ⟨(show 0 ≤ ((3 * σ.1 11) + 1) ∧ ((3 * σ.1 11) + 1) < 153 from by omega), ?_⟩
  replace hT := cT_a (k := 25) (j := ((3 * σ.1 11) + 1)) hT (marks_s (show (0 : Int) ≤ (σ.1 9) from by omega) (show (σ.1 9) ≤ 1000 ∨ (((3 * σ.1 11) + 1) % 3 = 1 ∧ (σ.1 9) ≤ 1500) from by omega))
  refine ⟨(show 0 ≤ ((3 * σ.1 11) + 2) ∧ ((3 * σ.1 11) + 2) < 153 from by omega), ?_⟩
  replace hT := cT_a (k := 25) (j := ((3 * σ.1 11) + 2)) hT (marks_s (show (0 : Int) ≤ (σ.1 10) from by omega) (show (σ.1 10) ≤ 1000 ∨ (((3 * σ.1 11) + 2) % 3 = 1 ∧ (σ.1 10) ≤ 1500) from by omega))
  exact ⟨hT, (show (st (st (st (σ.2.1 25) (3 * σ.1 11) (σ.1 8)) ((3 * σ.1 11) + 1) (σ.1 9)) ((3 * σ.1 11) + 2) (σ.1 10)) = st (st (st (σ.2.1 25) (3 * (σ.1 11)) (σ.1 8)) (3 * (σ.1 11) + 1) (σ.1 9)) (3 * (σ.1 11) + 2) (σ.1 10) from by rfl)⟩
set_option maxHeartbeats 1000000 in
theorem K_X7_statement {n1 : Int} {σ : S0} (hT : c_T σ) : W_X7_statement n1 σ (fun (x : Int) (τ : S0) => (c_T τ) ∧ (x = 0) ∧ ((τ.1 36) = 0) ∧ ((τ.1 35) = 5)) := by
  have v35 : 0 ≤ σ.1 35 ∧ σ.1 35 ≤ 7 := hT.1 35
  have v36 : 0 ≤ σ.1 36 ∧ σ.1 36 ≤ 1001 := hT.1 36
  intro P42 h42
  replace hT := cT_v (i := 36) hT (show (0 : Int) ≤ 0 ∧ 0 ≤ 1001 from by omega)
  replace hT := cT_v (i := 35) hT (show (0 : Int) ≤ 5 ∧ 5 ≤ 7 from by omega)
  refine ⟨fun c1 => ?_, fun c1 => ?_⟩
  ·
    refine ⟨fun c2 => ?_, fun c2 => ?_⟩
    ·
      refine ⟨fun c3 => ?_, fun c3 => ?_⟩
      ·
        obtain ⟨τ_42, e_τ_42⟩ : ∃ z : S0, z = s_v (s_v σ 36 0) 35 5 := ⟨_, rfl⟩
        rw [← e_τ_42]
        replace hT : c_T τ_42 := by rw [e_τ_42]; exact hT
        have w35_τ_42 : τ_42.1 35 = 5 := by rw [e_τ_42]; rfl
        have w36_τ_42 : τ_42.1 36 = 0 := by rw [e_τ_42]; rfl
        have v35 : 0 ≤ τ_42.1 35 ∧ τ_42.1 35 ≤ 7 := hT.1 35
        have v36 : 0 ≤ τ_42.1 36 ∧ τ_42.1 36 ≤ 1001 := hT.1 36
        refine h42 _ _ ?_
        replace hT := cT_v (i := 37) hT (show (0 : Int) ≤ 3 ∧ 3 ≤ 4 from by omega)
        exact ⟨hT, (show 0 = 0 from by omega), (show (τ_42.1 36) = 0 from by omega), (show (τ_42.1 35) = 5 from by omega)⟩
      ·
        obtain ⟨τ_42, e_τ_42⟩ : ∃ z : S0, z = s_v (s_v σ 36 0) 35 5 := ⟨_, rfl⟩
        rw [← e_τ_42]
        replace hT : c_T τ_42 := by rw [e_τ_42]; exact hT
        have w35_τ_42 : τ_42.1 35 = 5 := by rw [e_τ_42]; rfl
        have w36_τ_42 : τ_42.1 36 = 0 := by rw [e_τ_42]; rfl
        have v35 : 0 ≤ τ_42.1 35 ∧ τ_42.1 35 ≤ 7 := hT.1 35
        have v36 : 0 ≤ τ_42.1 36 ∧ τ_42.1 36 ≤ 1001 := hT.1 36
        refine h42 _ _ ?_
        replace hT := cT_v (i := 37) hT (show (0 : Int) ≤ 2 ∧ 2 ≤ 4 from by omega)
        exact ⟨hT, (show 0 = 0 from by omega), (show (τ_42.1 36) = 0 from by omega), (show (τ_42.1 35) = 5 from by omega)⟩
    ·
      obtain ⟨τ_42, e_τ_42⟩ : ∃ z : S0, z = s_v (s_v σ 36 0) 35 5 := ⟨_, rfl⟩
      rw [← e_τ_42]
      replace hT : c_T τ_42 := by rw [e_τ_42]; exact hT
      have w35_τ_42 : τ_42.1 35 = 5 := by rw [e_τ_42]; rfl
      have w36_τ_42 : τ_42.1 36 = 0 := by rw [e_τ_42]; rfl
      have v35 : 0 ≤ τ_42.1 35 ∧ τ_42.1 35 ≤ 7 := hT.1 35
      have v36 : 0 ≤ τ_42.1 36 ∧ τ_42.1 36 ≤ 1001 := hT.1 36
      refine h42 _ _ ?_
      replace hT := cT_v (i := 37) hT (show (0 : Int) ≤ 1 ∧ 1 ≤ 4 from by omega)
      exact ⟨hT, (show 0 = 0 from by omega), (show (τ_42.1 36) = 0 from by omega), (show (τ_42.1 35) = 5 from by omega)⟩
  ·
    obtain ⟨τ_42, e_τ_42⟩ : ∃ z : S0, z = s_v (s_v σ 36 0) 35 5 := ⟨_, rfl⟩
    rw [← e_τ_42]
    replace hT : c_T τ_42 := by rw [e_τ_42]; exact hT
    have w35_τ_42 : τ_42.1 35 = 5 := by rw [e_τ_42]; rfl
    have w36_τ_42 : τ_42.1 36 = 0 := by rw [e_τ_42]; rfl
    have v35 : 0 ≤ τ_42.1 35 ∧ τ_42.1 35 ≤ 7 := hT.1 35
    have v36 : 0 ≤ τ_42.1 36 ∧ τ_42.1 36 ≤ 1001 := hT.1 36
    refine h42 _ _ ?_
    replace hT := cT_v (i := 37) hT (show (0 : Int) ≤ 0 ∧ 0 ≤ 4 from by omega)
    exact ⟨hT, (show 0 = 0 from by omega), (show (τ_42.1 36) = 0 from by omega), (show (τ_42.1 35) = 5 from by omega)⟩
set_option maxHeartbeats 1000000 in
theorem K_X7_declaration {n1 : Int} {σ : S0} (hT : c_T σ) : W_X7_declaration n1 σ (fun (x : Int) (τ : S0) => (c_T τ) ∧ (0 ≤ x ∧ x ≤ 19)) := by
  have v11 : 0 ≤ σ.1 11 ∧ σ.1 11 ≤ 50 := hT.1 11
  have W11 : σ.1 11 = σ.1 11 := rfl
  intro P19 P46 h19 h46
  refine ⟨fun c1 => ?_, fun c1 => ?_⟩
  ·
    refine h19 _ _ ?_
    replace hT := cT_v (i := 36) hT (show (0 : Int) ≤ 0 ∧ 0 ≤ 1001 from by omega)
    refine ⟨fun c3 => ?_, fun c3 => ?_⟩
    ·
      refine ⟨fun c4 => ?_, fun c4 => ?_⟩
      ·
        obtain ⟨τ_46, e_τ_46⟩ : ∃ z : S0, z = s_v σ 36 0 := ⟨_, rfl⟩
        rw [← e_τ_46]
        replace hT : c_T τ_46 := by rw [e_τ_46]; exact hT
        have w11_τ_46 : τ_46.1 11 = σ.1 11 := by rw [e_τ_46]; rfl
        have W11 : τ_46.1 11 = σ.1 11 := by omega
        have v11 : 0 ≤ τ_46.1 11 ∧ τ_46.1 11 ≤ 50 := hT.1 11
        refine h46 _ _ ?_
        replace hT := cT_v (i := 35) hT (show (0 : Int) ≤ 4 ∧ 4 ≤ 7 from by omega)
        exact ⟨hT, (show 0 ≤ 0 ∧ 0 ≤ 19 from by omega)⟩
      ·
        obtain ⟨τ_46, e_τ_46⟩ : ∃ z : S0, z = s_v σ 36 0 := ⟨_, rfl⟩
        rw [← e_τ_46]
        replace hT : c_T τ_46 := by rw [e_τ_46]; exact hT
        have w11_τ_46 : τ_46.1 11 = σ.1 11 := by rw [e_τ_46]; rfl
        have W11 : τ_46.1 11 = σ.1 11 := by omega
        have v11 : 0 ≤ τ_46.1 11 ∧ τ_46.1 11 ≤ 50 := hT.1 11
        refine h46 _ _ ?_
        replace hT := cT_v (i := 35) hT (show (0 : Int) ≤ 3 ∧ 3 ≤ 7 from by omega)
        exact ⟨hT, (show 0 ≤ 0 ∧ 0 ≤ 19 from by omega)⟩
    ·
      obtain ⟨τ_46, e_τ_46⟩ : ∃ z : S0, z = s_v σ 36 0 := ⟨_, rfl⟩
      rw [← e_τ_46]
      replace hT : c_T τ_46 := by rw [e_τ_46]; exact hT
      have w11_τ_46 : τ_46.1 11 = σ.1 11 := by rw [e_τ_46]; rfl
      have W11 : τ_46.1 11 = σ.1 11 := by omega
      have v11 : 0 ≤ τ_46.1 11 ∧ τ_46.1 11 ≤ 50 := hT.1 11
      refine h46 _ _ ?_
      replace hT := cT_v (i := 35) hT (show (0 : Int) ≤ 2 ∧ 2 ≤ 7 from by omega)
      exact ⟨hT, (show 0 ≤ 0 ∧ 0 ≤ 19 from by omega)⟩
  ·
    refine ⟨fun c2 => ?_, fun c2 => ?_⟩
    ·
      refine h19 _ _ ?_
      replace hT := cT_v (i := 36) hT (show (0 : Int) ≤ 0 ∧ 0 ≤ 1001 from by omega)
      refine ⟨fun c3 => ?_, fun c3 => ?_⟩
      ·
        refine ⟨fun c4 => ?_, fun c4 => ?_⟩
        ·
          obtain ⟨τ_46, e_τ_46⟩ : ∃ z : S0, z = s_v σ 36 0 := ⟨_, rfl⟩
          rw [← e_τ_46]
          replace hT : c_T τ_46 := by rw [e_τ_46]; exact hT
          have w11_τ_46 : τ_46.1 11 = σ.1 11 := by rw [e_τ_46]; rfl
          have W11 : τ_46.1 11 = σ.1 11 := by omega
          have v11 : 0 ≤ τ_46.1 11 ∧ τ_46.1 11 ≤ 50 := hT.1 11
          refine h46 _ _ ?_
          replace hT := cT_v (i := 35) hT (show (0 : Int) ≤ 4 ∧ 4 ≤ 7 from by omega)
          exact ⟨hT, (show 0 ≤ 0 ∧ 0 ≤ 19 from by omega)⟩
        ·
          obtain ⟨τ_46, e_τ_46⟩ : ∃ z : S0, z = s_v σ 36 0 := ⟨_, rfl⟩
          rw [← e_τ_46]
          replace hT : c_T τ_46 := by rw [e_τ_46]; exact hT
          have w11_τ_46 : τ_46.1 11 = σ.1 11 := by rw [e_τ_46]; rfl
          have W11 : τ_46.1 11 = σ.1 11 := by omega
          have v11 : 0 ≤ τ_46.1 11 ∧ τ_46.1 11 ≤ 50 := hT.1 11
          refine h46 _ _ ?_
          replace hT := cT_v (i := 35) hT (show (0 : Int) ≤ 3 ∧ 3 ≤ 7 from by omega)
          exact ⟨hT, (show 0 ≤ 0 ∧ 0 ≤ 19 from by omega)⟩
      ·
        obtain ⟨τ_46, e_τ_46⟩ : ∃ z : S0, z = s_v σ 36 0 := ⟨_, rfl⟩
        rw [← e_τ_46]
        replace hT : c_T τ_46 := by rw [e_τ_46]; exact hT
        have w11_τ_46 : τ_46.1 11 = σ.1 11 := by rw [e_τ_46]; rfl
        have W11 : τ_46.1 11 = σ.1 11 := by omega
        have v11 : 0 ≤ τ_46.1 11 ∧ τ_46.1 11 ≤ 50 := hT.1 11
        refine h46 _ _ ?_
        replace hT := cT_v (i := 35) hT (show (0 : Int) ≤ 2 ∧ 2 ≤ 7 from by omega)
        exact ⟨hT, (show 0 ≤ 0 ∧ 0 ≤ 19 from by omega)⟩
    ·
      exact ⟨hT, (show 0 ≤ 8 ∧ 8 ≤ 19 from by omega)⟩
set_option maxHeartbeats 1000000 in
theorem K_X7_endDeclaration {n1 : Int} {σ : S0} (hT : c_T σ) (p1 : 0 ≤ n1) (p2 : n1 ≤ 2) : W_X7_endDeclaration n1 σ (fun (x : Int) (τ : S0) => (c_T τ) ∧ (0 ≤ x ∧ x ≤ 19) ∧ ((τ.1 35) = 0)) := by
  have v35 : 0 ≤ σ.1 35 ∧ σ.1 35 ≤ 7 := hT.1 35
  have v36 : 0 ≤ σ.1 36 ∧ σ.1 36 ≤ 1001 := hT.1 36
  have W36 : σ.1 36 = σ.1 36 := rfl
  unfold W_X7_endDeclaration
  replace hT := cT_v (i := 35) hT (show (0 : Int) ≤ 0 ∧ 0 ≤ 7 from by omega)
  refine ⟨fun c1 => ?_, fun c1 => ?_⟩
  ·
    exact ⟨hT, (show 0 ≤ 0 ∧ 0 ≤ 19 from by omega), (show ((0 : Int)) = 0 from by omega)⟩
  ·
    exact ⟨hT, (show 0 ≤ 4 ∧ 4 ≤ 19 from by omega), (show ((0 : Int)) = 0 from by omega)⟩
set_option maxHeartbeats 1000000 in
theorem K_X10_isListing {σ : S0} (hT : c_T σ) : W_X10_isListing σ (fun (x : Int) => (0 ≤ x ∧ x ≤ 1)) := by
  have v25 : 0 ≤ σ.1 25 ∧ σ.1 25 ≤ 3 := hT.1 25
  unfold W_X10_isListing
  refine ⟨fun c1 => ?_, fun c1 => ?_⟩
  ·
    exact (show 0 ≤ 0 ∧ 0 ≤ 1 from by omega)
  ·
    exact (show 0 ≤ 1 ∧ 1 ≤ 1 from by omega)
set_option maxHeartbeats 1000000 in
theorem K_X10_isWithinNumber {σ : S0} (hT : c_T σ) : W_X10_isWithinNumber σ (fun (x : Int) => (0 ≤ x ∧ x ≤ 1)) := by
  have v26 : 0 ≤ σ.1 26 ∧ σ.1 26 ≤ 5000010 := hT.1 26
  unfold W_X10_isWithinNumber
  refine ⟨fun c1 => ?_, fun c1 => ?_⟩
  ·
    exact (show 0 ≤ 0 ∧ 0 ≤ 1 from by omega)
  ·
    exact (show 0 ≤ 1 ∧ 1 ≤ 1 from by omega)
set_option maxHeartbeats 1000000 in
theorem K_X7_endProof {σ : S0} (hT : c_T σ) : W_X7_endProof σ (fun (x : Int) (τ : S0) => (c_T τ) ∧ (0 ≤ x ∧ x ≤ 19)) := by
  unfold W_X7_endProof
  refine ⟨_, K_X10_isListing hT, ?_⟩
  intro x2 r_x2 hq
  have q1_1 := hq
  replace q1_1 : 0 ≤ x2 ∧ x2 ≤ 1 := q1_1
  refine ⟨fun c4 => ?_, fun c4 => ?_⟩
  ·
    replace hT := cT_v (i := 35) hT (show (0 : Int) ≤ 7 ∧ 7 ≤ 7 from by omega)
    refine ⟨_, K_X10_isWithinNumber hT, ?_⟩
    intro x6 r_x6 hq
    have q5_1 := hq
    replace q5_1 : 0 ≤ x6 ∧ x6 ≤ 1 := q5_1
    refine ⟨fun c8 => ?_, fun c8 => ?_⟩
    ·
      exact ⟨hT, (show 0 ≤ 0 ∧ 0 ≤ 19 from by omega)⟩
    ·
      exact ⟨hT, (show 0 ≤ 14 ∧ 14 ≤ 19 from by omega)⟩
  ·
    exact ⟨hT, (show 0 ≤ 4 ∧ 4 ≤ 19 from by omega)⟩
set_option maxHeartbeats 1000000 in
theorem K_X7_hasCommentMark {n1 : Int} {n2 : Int} {σ : S0} (hT : c_T σ) (p1 : 0 ≤ n1) (p2 : 0 ≤ n2) (p3 : n1 + n2 ≤ 60000) (p4 : ¬ σ.1 66 = 0) : W_X7_hasCommentMark n1 n2 σ (fun (x : Int) => (0 ≤ x ∧ x ≤ 1)) := by
  have v66 : 0 ≤ σ.1 66 ∧ σ.1 66 ≤ 1 := hT.1 66
  intro P2 h2
  have l_2 : ∀ (m_2 : Nat) (u1_2 : Int) (u2_2 : Int) (u3_2 : Int), 60001 - u3_2 < (m_2 : Int) → (0 ≤ u1_2) → (0 ≤ u2_2) → (u1_2 + u2_2 ≤ 60000) → (u1_2 ≤ u3_2) → (u3_2 ≤ 60000) → P2 u1_2 u2_2 u3_2 := by
    intro m_2
    induction m_2 with
    | zero =>
      intro u1_2 u2_2 u3_2 hm i2_1 i2_2 i2_3 i2_4 i2_5
      exfalso; omega
    | succ m_2 ih_2 =>
      intro u1_2 u2_2 u3_2 hm_2 i2_1 i2_2 i2_3 i2_4 i2_5
      refine h2 _ _ _ ?_
      refine ⟨(⟨by omega, by omega⟩ : rg ((u1_2 + u2_2) - 1)), ?_⟩
      refine ⟨fun c2 => ?_, fun c2 => ?_⟩
      ·
        exact (show 0 ≤ 0 ∧ 0 ≤ 1 from by omega)
      ·
        refine ⟨(show ¬ σ.1 66 = 0 from by omega), ?_⟩
        refine ⟨(show 0 ≤ u3_2 ∧ u3_2 < 60000 from by omega), ?_⟩
        intro x5 r_x5 e_x5
        have b_x5 : 0 ≤ x5 ∧ x5 ≤ 255 := by rw [e_x5]; exact hT.2 0 _
        refine ⟨fun c6 => ?_, fun c6 => ?_⟩
        ·
          refine ⟨(⟨by omega, by omega⟩ : rg (u3_2 + 1)), ?_⟩
          exact ih_2 _ _ _ (show (60001 - (u3_2 + 1) : Int) < ((m_2 : Nat) : Int) from by (omega)) (show 0 ≤ u1_2 from by omega) (show 0 ≤ u2_2 from by omega) (show u1_2 + u2_2 ≤ 60000 from by omega) (show u1_2 ≤ (u3_2 + 1) from by omega) (show (u3_2 + 1) ≤ 60000 from by omega)
        ·
          refine ⟨(show ¬ σ.1 66 = 0 from by omega), ?_⟩
          refine ⟨(show 0 ≤ (u3_2 + 1) ∧ (u3_2 + 1) < 60000 from by omega), ?_⟩
          intro x10 r_x10 e_x10
          have b_x10 : 0 ≤ x10 ∧ x10 ≤ 255 := by rw [e_x10]; exact hT.2 0 _
          refine ⟨fun c11 => ?_, fun c11 => ?_⟩
          ·
            exact (show 0 ≤ 1 ∧ 1 ≤ 1 from by omega)
          ·
            refine ⟨(show ¬ σ.1 66 = 0 from by omega), ?_⟩
            intro x13 r_x13 e_x13
            have b_x13 : 0 ≤ x13 ∧ x13 ≤ 255 := by rw [e_x13]; exact hT.2 0 _
            refine ⟨fun c14 => ?_, fun c14 => ?_⟩
            ·
              exact ih_2 _ _ _ (show (60001 - (u3_2 + 1) : Int) < ((m_2 : Nat) : Int) from by (omega)) (show 0 ≤ u1_2 from by omega) (show 0 ≤ u2_2 from by omega) (show u1_2 + u2_2 ≤ 60000 from by omega) (show u1_2 ≤ (u3_2 + 1) from by omega) (show (u3_2 + 1) ≤ 60000 from by omega)
            ·
              exact (show 0 ≤ 1 ∧ 1 ≤ 1 from by omega)
  exact l_2 ((60001 - n1 : Int).toNat + 1) _ _ _ (show (60001 - n1 : Int) < (((60001 - n1 : Int).toNat + 1 : Nat) : Int) from by (omega)) (show 0 ≤ n1 from by omega) (show 0 ≤ n2 from by omega) (show n1 + n2 ≤ 60000 from by omega) (show n1 ≤ n1 from by omega) (show n1 ≤ 60000 from by omega)
set_option maxHeartbeats 1000000 in
theorem K_X10_putAgain {n1 : Int} {σ : S0} (hT : c_T σ) (p1 : 0 ≤ n1) (p2 : n1 < 20000) (p3 : -1000000 ≤ (σ.1 31)) (p4 : (σ.1 31) ≤ 1000000) : W_X10_putAgain n1 σ (fun (x : Int) (τ : S0) => (c_T τ) ∧ ((τ.1 31) = (σ.1 31) + σ.2.1 41 n1) ∧ (x = 0 → (τ.1 30) = (σ.1 30) + 1 ∧ (τ.1 31) ≤ 40000) ∧ (¬ x = 0 → (τ.1 30) = (σ.1 30))) := by
  have v30 : 0 ≤ σ.1 30 ∧ σ.1 30 ≤ 200 := hT.1 30
  have v31 : (-2147483648) ≤ σ.1 31 ∧ σ.1 31 ≤ 2147483647 := hT.1 31
  unfold W_X10_putAgain
  refine ⟨(show 0 ≤ n1 ∧ n1 < 20000 from by omega), ?_⟩
  intro x2 r_x2 e_x2
  have b_x2 : (-2) ≤ x2 ∧ x2 ≤ 1000 := by rw [e_x2]; exact hT.2 41 _
  refine ⟨(⟨by omega, by omega⟩ : rg (σ.1 31 + x2)), ?_⟩
  replace hT := cT_v (i := 31) hT (show (-2147483648) ≤ (σ.1 31 + x2) ∧ (σ.1 31 + x2) ≤ 2147483647 from by omega)
  refine ⟨fun c4 => ?_, fun c4 => ?_⟩
  ·
    exact ⟨hT, (show ((σ.1 31 + x2)) = (σ.1 31) + σ.2.1 41 n1 from by omega), (show 5 = 0 → (σ.1 30) = (σ.1 30) + 1 ∧ ((σ.1 31 + x2)) ≤ 40000 from by omega), (show ¬ 5 = 0 → (σ.1 30) = (σ.1 30) from by omega)⟩
  ·
    refine ⟨fun c5 => ?_, fun c5 => ?_⟩
    ·
      refine ⟨(show 0 ≤ σ.1 30 ∧ σ.1 30 < 200 from by omega), ?_⟩
      replace hT := cT_a (k := 52) (j := (σ.1 30)) hT (show (0 : Int) ≤ n1 ∧ n1 ≤ 19999 from by omega)
      refine ⟨(⟨by omega, by omega⟩ : rg (σ.1 30 + 1)), ?_⟩
      replace hT := cT_v (i := 30) hT (show 0 ≤ (σ.1 30 + 1) ∧ (σ.1 30 + 1) ≤ 200 from by omega)
      exact ⟨hT, (show ((σ.1 31 + x2)) = (σ.1 31) + σ.2.1 41 n1 from by omega), (show 0 = 0 → ((σ.1 30 + 1)) = (σ.1 30) + 1 ∧ ((σ.1 31 + x2)) ≤ 40000 from by omega), (show ¬ 0 = 0 → ((σ.1 30 + 1)) = (σ.1 30) from by omega)⟩
    ·
      exact ⟨hT, (show ((σ.1 31 + x2)) = (σ.1 31) + σ.2.1 41 n1 from by omega), (show 5 = 0 → (σ.1 30) = (σ.1 30) + 1 ∧ ((σ.1 31 + x2)) ≤ 40000 from by omega), (show ¬ 5 = 0 → (σ.1 30) = (σ.1 30) from by omega)⟩
set_option maxHeartbeats 1000000 in
theorem K_X8_constantNamed_t1 {σ : S0} (hT : c_T σ) : W_X8_constantNamed_t1 σ (fun (x : Int) => (-1 ≤ x ∧ x ≤ 999)) := by
  unfold W_X8_constantNamed_t1
  refine ⟨_, K_X3_symbolNamed_t1 hT (show 0 ≤ 0 from by omega) (show 0 + 2 ≤ 2 from by omega), ?_⟩
  intro x2 r_x2 hq
  have q1_1 := hq
  replace q1_1 : -1 ≤ x2 ∧ x2 ≤ 999 := q1_1
  refine ⟨fun c4 => ?_, fun c4 => ?_⟩
  ·
    exact (show -1 ≤ (-1) ∧ (-1) ≤ 999 from by omega)
  ·
    refine ⟨(show 0 ≤ x2 ∧ x2 < 1000 from by omega), ?_⟩
    intro x6 r_x6 e_x6
    have b_x6 : 0 ≤ x6 ∧ x6 ≤ 1 := by rw [e_x6]; exact hT.2 8 _
    refine ⟨fun c7 => ?_, fun c7 => ?_⟩
    ·
      exact (show -1 ≤ x2 ∧ x2 ≤ 999 from by omega)
    ·
      exact (show -1 ≤ (-1) ∧ (-1) ≤ 999 from by omega)
set_option maxHeartbeats 1000000 in
theorem K_X8_constantNamed_t2 {σ : S0} (hT : c_T σ) : W_X8_constantNamed_t2 σ (fun (x : Int) => (-1 ≤ x ∧ x ≤ 999)) := by
  unfold W_X8_constantNamed_t2
  refine ⟨_, K_X3_symbolNamed_t2 hT (show 0 ≤ 0 from by omega) (show 0 + 3 ≤ 3 from by omega), ?_⟩
  intro x2 r_x2 hq
  have q1_1 := hq
  replace q1_1 : -1 ≤ x2 ∧ x2 ≤ 999 := q1_1
  refine ⟨fun c4 => ?_, fun c4 => ?_⟩
  ·
    exact (show -1 ≤ (-1) ∧ (-1) ≤ 999 from by omega)
  ·
    refine ⟨(show 0 ≤ x2 ∧ x2 < 1000 from by omega), ?_⟩
    intro x6 r_x6 e_x6
    have b_x6 : 0 ≤ x6 ∧ x6 ≤ 1 := by rw [e_x6]; exact hT.2 8 _
    refine ⟨fun c7 => ?_, fun c7 => ?_⟩
    ·
      exact (show -1 ≤ x2 ∧ x2 ≤ 999 from by omega)
    ·
      exact (show -1 ≤ (-1) ∧ (-1) ≤ 999 from by omega)
set_option maxHeartbeats 1000000 in
theorem K_X12_count {n1 : Int} {σ : S0} (hT : c_T σ) : W_X12_count n1 σ (fun (x : Int) => True) := by
  have v5 : 0 ≤ σ.1 5 ∧ σ.1 5 ≤ 1000 := hT.1 5
  have v7 : 0 ≤ σ.1 7 ∧ σ.1 7 ≤ 1500 := hT.1 7
  have v14 : 0 ≤ σ.1 14 ∧ σ.1 14 ≤ 20000 := hT.1 14
  have v16 : 0 ≤ σ.1 16 ∧ σ.1 16 ≤ 20000 := hT.1 16
  unfold W_X12_count
  refine ⟨fun c1 => ?_, fun c1 => ?_, fun c1 => ?_, fun c1 => ?_, fun c1 => ?_, fun c1 => ?_, fun c1 => ?_, fun c1 => ?_, fun c1 => ?_, fun c1 => ?_, fun c1 => ?_⟩
  ·
    exact trivial
  ·
    exact trivial
  ·
    exact trivial
  ·
    refine ⟨_, K_X3_constants hT, ?_⟩
    intro x3 r_x3 hq
    exact trivial
  ·
    refine ⟨_, K_X3_ofKind hT, ?_⟩
    intro x6 r_x6 hq
    have q5_1 := hq
    replace q5_1 : 0 ≤ x6 ∧ x6 ≤ 1500 := q5_1
    exact trivial
  ·
    refine ⟨_, K_X3_ofKind hT, ?_⟩
    intro x9 r_x9 hq
    have q8_1 := hq
    replace q8_1 : 0 ≤ x9 ∧ x9 ≤ 1500 := q8_1
    exact trivial
  ·
    refine ⟨_, K_X3_ofKind hT, ?_⟩
    intro x12 r_x12 hq
    have q11_1 := hq
    replace q11_1 : 0 ≤ x12 ∧ x12 ≤ 1500 := q11_1
    exact trivial
  ·
    refine ⟨_, K_X3_ofKind hT, ?_⟩
    intro x15 r_x15 hq
    have q14_1 := hq
    replace q14_1 : 0 ≤ x15 ∧ x15 ≤ 1500 := q14_1
    refine ⟨_, K_X3_ofKind hT, ?_⟩
    intro x18 r_x18 hq
    have q17_1 := hq
    replace q17_1 : 0 ≤ x18 ∧ x18 ≤ 1500 := q17_1
    refine ⟨(⟨by omega, by omega⟩ : rg (x15 + x18)), ?_⟩
    exact trivial
  ·
    refine ⟨_, K_X3_ofKind hT, ?_⟩
    intro x22 r_x22 hq
    have q21_1 := hq
    replace q21_1 : 0 ≤ x22 ∧ x22 ≤ 1500 := q21_1
    exact trivial
  ·
    exact trivial
  ·
    exact trivial
set_option maxHeartbeats 1000000 in
theorem K_X12_kind {n1 : Int} {σ : S0} (hT : c_T σ) : W_X12_kind n1 σ (fun (x : Int) => True) := by
  have v7 : 0 ≤ σ.1 7 ∧ σ.1 7 ≤ 1500 := hT.1 7
  unfold W_X12_kind
  refine ⟨_, K_X3_isStatement hT, ?_⟩
  intro x2 r_x2 hq
  obtain ⟨q1_1, q1_2⟩ := hq
  replace q1_1 : 0 ≤ x2 ∧ x2 ≤ 1 := q1_1
  replace q1_2 : ¬ x2 = 0 → 0 ≤ n1 ∧ n1 < (σ.1 7) := q1_2
  refine ⟨fun c4 => ?_, fun c4 => ?_⟩
  ·
    exact trivial
  ·
    refine ⟨(show 0 ≤ n1 ∧ n1 < 1500 from by omega), ?_⟩
    intro x6 r_x6 e_x6
    have b_x6 : 0 ≤ x6 ∧ x6 ≤ 4 := by rw [e_x6]; exact hT.2 13 _
    exact trivial
set_option maxHeartbeats 1000000 in
theorem K_X12_length {n1 : Int} {σ : S0} (hT : c_T σ) : W_X12_length n1 σ (fun (x : Int) => True) := by
  have v7 : 0 ≤ σ.1 7 ∧ σ.1 7 ≤ 1500 := hT.1 7
  unfold W_X12_length
  refine ⟨_, K_X3_isStatement hT, ?_⟩
  intro x2 r_x2 hq
  obtain ⟨q1_1, q1_2⟩ := hq
  replace q1_1 : 0 ≤ x2 ∧ x2 ≤ 1 := q1_1
  replace q1_2 : ¬ x2 = 0 → 0 ≤ n1 ∧ n1 < (σ.1 7) := q1_2
  refine ⟨fun c4 => ?_, fun c4 => ?_⟩
  ·
    exact trivial
  ·
    refine ⟨_, K_X3_lengthOf hT (show 0 ≤ n1 from by omega) (show n1 < 1500 from by omega), ?_⟩
    intro x6 r_x6 hq
    have q5_1 := hq
    replace q5_1 : x6 = σ.2.1 14 (n1 + 1) - σ.2.1 14 n1 := q5_1
    exact trivial
set_option maxHeartbeats 1000000 in
theorem K_X12_variable {n1 : Int} {σ : S0} (hT : c_T σ) : W_X12_variable n1 σ (fun (x : Int) => True) := by
  have v5 : 0 ≤ σ.1 5 ∧ σ.1 5 ≤ 1000 := hT.1 5
  unfold W_X12_variable
  refine ⟨_, K_X3_isSymbol hT, ?_⟩
  intro x2 r_x2 hq
  obtain ⟨q1_1, q1_2⟩ := hq
  replace q1_1 : 0 ≤ x2 ∧ x2 ≤ 1 := q1_1
  replace q1_2 : ¬ x2 = 0 → 0 ≤ n1 ∧ n1 < (σ.1 5) := q1_2
  refine ⟨fun c4 => ?_, fun c4 => ?_⟩
  ·
    refine ⟨(show 0 ≤ n1 ∧ n1 < 1000 from by omega), ?_⟩
    intro x6 r_x6 e_x6
    have b_x6 : 0 ≤ x6 ∧ x6 ≤ 1 := by rw [e_x6]; exact hT.2 8 _
    refine ⟨fun c7 => ?_, fun c7 => ?_⟩
    ·
      exact trivial
    ·
      exact trivial
  ·
    exact trivial
set_option maxHeartbeats 1000000 in
theorem K_X12_find {n1 : Int} {σ : S0} (hT : c_T σ) : W_X12_find n1 σ (fun (x : Int) (τ : S0) => (c_T τ)) := by
  have v0 : 0 ≤ σ.1 0 ∧ σ.1 0 ≤ 60000 := hT.1 0
  have v1 : 0 ≤ σ.1 1 ∧ σ.1 1 ≤ 1 := hT.1 1
  unfold W_X12_find
  refine ⟨_, K_X12_useTape hT, ?_⟩
  intro τ3 hn_τ3 hf_τ3 hq
  obtain ⟨hT, q1_1, q1_2⟩ := hq
  replace q1_1 : (τ3.1 0) = 0 := q1_1
  replace q1_2 : (τ3.1 1) = 0 := q1_2
  have v0 : 0 ≤ τ3.1 0 ∧ τ3.1 0 ≤ 60000 := hT.1 0
  have v1 : 0 ≤ τ3.1 1 ∧ τ3.1 1 ≤ 1 := hT.1 1
  refine ⟨(⟨by omega, by omega⟩ : rg (σ.1 0)), ?_⟩
  refine ⟨_, K_X12_skipBlanks_q13 hT (show 0 ≤ 0 from by omega) (show (σ.1 0) ≤ 60000 from by omega), ?_⟩
  intro x6 r_x6 hq
  have q5_1 := hq
  replace q5_1 : 0 ≤ x6 ∧ (x6 ≤ (σ.1 0) ∨ x6 = 0) := q5_1
  refine ⟨_, K_X12_tokenEnd_q13 hT (show 0 ≤ x6 from by omega) (show (σ.1 0) ≤ 60000 from by omega), ?_⟩
  intro x9 r_x9 hq
  have q8_1 := hq
  replace q8_1 : x6 ≤ x9 ∧ (x9 ≤ (σ.1 0) ∨ x9 = x6) := q8_1
  refine ⟨fun c11 => ?_, fun c11 => ?_⟩
  ·
    exact hT
  ·
    refine ⟨_, K_X12_skipBlanks_q13 hT (show 0 ≤ x9 from by omega) (show (σ.1 0) ≤ 60000 from by omega), ?_⟩
    intro x13 r_x13 hq
    have q12_1 := hq
    replace q12_1 : x9 ≤ x13 ∧ (x13 ≤ (σ.1 0) ∨ x13 = x9) := q12_1
    refine ⟨fun c15 => ?_, fun c15 => ?_⟩
    ·
      refine ⟨fun c16 => ?_, fun c16 => ?_⟩
      ·
        refine ⟨fun c17 => ?_, fun c17 => ?_⟩
        ·
          exact hT
        ·
          refine ⟨(⟨by omega, by omega⟩ : rg (x9 - x6)), ?_⟩
          refine ⟨_, K_X3_symbolNamed_q13 hT (show 0 ≤ x6 from by omega) (show x6 + (x9 - x6) ≤ 60000 from by omega), ?_⟩
          intro x20 r_x20 hq
          have q19_1 := hq
          replace q19_1 : -1 ≤ x20 ∧ x20 ≤ 999 := q19_1
          exact hT
      ·
        refine ⟨(⟨by omega, by omega⟩ : rg (x9 - x6)), ?_⟩
        refine ⟨_, K_X3_statementNamed_q13 hT (show 0 ≤ x6 from by omega) (show x6 + (x9 - x6) ≤ 60000 from by omega), ?_⟩
        intro x24 r_x24 hq
        have q23_1 := hq
        replace q23_1 : -1 ≤ x24 ∧ x24 ≤ 1499 := q23_1
        exact hT
    ·
      exact hT
set_option maxHeartbeats 1000000 in
theorem K_X12_character {n1 : Int} {σ : S0} (hT : c_T σ) : W_X12_character n1 σ (fun (x : Int) => True) := by
  unfold W_X12_character
  refine ⟨_, K_X5_shown hT, ?_⟩
  intro x2 r_x2 hq
  exact trivial
