-- pure: the plain methods of the class
set_option maxHeartbeats 1000000 in
theorem K_X3_variableOf {n1 : Int} {σ : S0} (hT : c_T σ) (p1 : 0 ≤ n1) (p2 : n1 ≤ 1500) (p3 : σ.2.1 14 n1 < 29999) : W_X3_variableOf n1 σ (fun (x : Int) => (x = σ.2.1 15 (σ.2.1 14 n1 + 1)) ∧ (0 ≤ x ∧ x ≤ 999)) := by
  unfold W_X3_variableOf
  refine ⟨(show 0 ≤ n1 ∧ n1 < 1501 from by omega), ?_⟩
  intro x2 r_x2 e_x2
  have b_x2 : 0 ≤ x2 ∧ x2 ≤ 30000 := by rw [e_x2]; exact hT.2 14 _
  refine ⟨(show 0 ≤ (x2 + 1) ∧ (x2 + 1) < 30000 from by omega), ?_⟩
  intro x4 r_x4 e_x4
  have b_x4 : 0 ≤ x4 ∧ x4 ≤ 999 := by rw [e_x4]; exact hT.2 15 _
  exact ⟨(show x4 = σ.2.1 15 (σ.2.1 14 n1 + 1) from by (first | omega | grind (splits := 3))), (show 0 ≤ x4 ∧ x4 ≤ 999 from by omega)⟩
set_option maxHeartbeats 1000000 in
theorem K_X3_lengthOf {n1 : Int} {σ : S0} (hT : c_T σ) (p1 : 0 ≤ n1) (p2 : n1 < 1500) : W_X3_lengthOf n1 σ (fun (x : Int) => (x = σ.2.1 14 (n1 + 1) - σ.2.1 14 n1)) := by
  unfold W_X3_lengthOf
  refine ⟨(show 0 ≤ (n1 + 1) ∧ (n1 + 1) < 1501 from by omega), ?_⟩
  intro x2 r_x2 e_x2
  have b_x2 : 0 ≤ x2 ∧ x2 ≤ 30000 := by rw [e_x2]; exact hT.2 14 _
  refine ⟨(show 0 ≤ n1 ∧ n1 < 1501 from by omega), ?_⟩
  intro x4 r_x4 e_x4
  have b_x4 : 0 ≤ x4 ∧ x4 ≤ 30000 := by rw [e_x4]; exact hT.2 14 _
  refine ⟨(⟨by omega, by omega⟩ : rg (x2 - x4)), ?_⟩
  exact (show (x2 - x4) = σ.2.1 14 (n1 + 1) - σ.2.1 14 n1 from by omega)
set_option maxHeartbeats 1000000 in
theorem K_X3_typeOf {n1 : Int} {σ : S0} (hT : c_T σ) (p1 : 0 ≤ n1) (p2 : n1 ≤ 1500) (p3 : σ.2.1 14 n1 < 30000) : W_X3_typeOf n1 σ (fun (x : Int) => (x = σ.2.1 15 (σ.2.1 14 n1)) ∧ (0 ≤ x ∧ x ≤ 999)) := by
  unfold W_X3_typeOf
  refine ⟨(show 0 ≤ n1 ∧ n1 < 1501 from by omega), ?_⟩
  intro x2 r_x2 e_x2
  have b_x2 : 0 ≤ x2 ∧ x2 ≤ 30000 := by rw [e_x2]; exact hT.2 14 _
  refine ⟨(show 0 ≤ x2 ∧ x2 < 30000 from by omega), ?_⟩
  intro x4 r_x4 e_x4
  have b_x4 : 0 ≤ x4 ∧ x4 ≤ 999 := by rw [e_x4]; exact hT.2 15 _
  exact ⟨(show x4 = σ.2.1 15 (σ.2.1 14 n1) from by (first | omega | grind (splits := 3))), (show 0 ≤ x4 ∧ x4 ≤ 999 from by omega)⟩
set_option maxHeartbeats 1000000 in
theorem K_X3_statementOf {n1 : Int} {σ : S0} (hT : c_T σ) (p1 : -1 ≤ n1) (p2 : n1 < 2500) : W_X3_statementOf n1 σ (fun (x : Int) => (-1 ≤ x ∧ x ≤ 1499)) := by
  unfold W_X3_statementOf
  refine ⟨fun c1 => ?_, fun c1 => ?_⟩
  ·
    refine ⟨(show 0 ≤ n1 ∧ n1 < 2500 from by omega), ?_⟩
    intro x3 r_x3 e_x3
    have b_x3 : (-1000) ≤ x3 ∧ x3 ≤ 1499 := by rw [e_x3]; exact hT.2 4 _
    intro x4 r_x4 h1_x4 h2_x4 h3_x4
    exact (show -1 ≤ x4 ∧ x4 ≤ 1499 from by omega)
  ·
    exact (show -1 ≤ (-1) ∧ (-1) ≤ 1499 from by omega)
set_option maxHeartbeats 1000000 in
theorem K_X3_symbolOf {n1 : Int} {σ : S0} (hT : c_T σ) (p1 : -1 ≤ n1) (p2 : n1 < 2500) : W_X3_symbolOf n1 σ (fun (x : Int) => (-1 ≤ x ∧ x ≤ 999)) := by
  unfold W_X3_symbolOf
  refine ⟨fun c1 => ?_, fun c1 => ?_⟩
  ·
    refine ⟨(show 0 ≤ n1 ∧ n1 < 2500 from by omega), ?_⟩
    intro x3 r_x3 e_x3
    have b_x3 : (-1000) ≤ x3 ∧ x3 ≤ 1499 := by rw [e_x3]; exact hT.2 4 _
    intro x4 r_x4 h1_x4 h2_x4 h3_x4
    exact (show -1 ≤ x4 ∧ x4 ≤ 999 from by omega)
  ·
    exact (show -1 ≤ (-1) ∧ (-1) ≤ 999 from by omega)
set_option maxHeartbeats 1000000 in
theorem K_X3_hasRoomForName {n1 : Int} {σ : S0} (hT : c_T σ) (p1 : -100000 ≤ n1) (p2 : n1 ≤ 100000) : W_X3_hasRoomForName n1 σ (fun (x : Int) => (0 ≤ x ∧ x ≤ 1) ∧ (¬ x = 0 → n1 ≤ 60 ∧ σ.2.1 3 (σ.1 3) + n1 ≤ 30000 ∧ (σ.1 3) < 2500)) := by
  have v3 : 0 ≤ σ.1 3 ∧ σ.1 3 ≤ 2500 := hT.1 3
  unfold W_X3_hasRoomForName
  refine ⟨fun c1 => ?_, fun c1 => ?_⟩
  ·
    exact ⟨(show 0 ≤ 0 ∧ 0 ≤ 1 from by omega), (show ¬ 0 = 0 → n1 ≤ 60 ∧ σ.2.1 3 (σ.1 3) + n1 ≤ 30000 ∧ (σ.1 3) < 2500 from by omega)⟩
  ·
    refine ⟨(show 0 ≤ σ.1 3 ∧ σ.1 3 < 2501 from by omega), ?_⟩
    intro x3 r_x3 e_x3
    have b_x3 : 0 ≤ x3 ∧ x3 ≤ 30000 := by rw [e_x3]; exact hT.2 3 _
    refine ⟨(⟨by omega, by omega⟩ : rg (x3 + n1)), ?_⟩
    refine ⟨fun c5 => ?_, fun c5 => ?_⟩
    ·
      exact ⟨(show 0 ≤ 0 ∧ 0 ≤ 1 from by omega), (show ¬ 0 = 0 → n1 ≤ 60 ∧ σ.2.1 3 (σ.1 3) + n1 ≤ 30000 ∧ (σ.1 3) < 2500 from by omega)⟩
    ·
      refine ⟨fun c6 => ?_, fun c6 => ?_⟩
      ·
        exact ⟨(show 0 ≤ 0 ∧ 0 ≤ 1 from by omega), (show ¬ 0 = 0 → n1 ≤ 60 ∧ σ.2.1 3 (σ.1 3) + n1 ≤ 30000 ∧ (σ.1 3) < 2500 from by omega)⟩
      ·
        exact ⟨(show 0 ≤ 1 ∧ 1 ≤ 1 from by omega), (show ¬ 1 = 0 → n1 ≤ 60 ∧ σ.2.1 3 (σ.1 3) + n1 ≤ 30000 ∧ (σ.1 3) < 2500 from by omega)⟩
set_option maxHeartbeats 1000000 in
theorem K_X3_isStatement {n1 : Int} {σ : S0} (hT : c_T σ) : W_X3_isStatement n1 σ (fun (x : Int) => (0 ≤ x ∧ x ≤ 1) ∧ (¬ x = 0 → 0 ≤ n1 ∧ n1 < (σ.1 7))) := by
  have v7 : 0 ≤ σ.1 7 ∧ σ.1 7 ≤ 1500 := hT.1 7
  unfold W_X3_isStatement
  refine ⟨fun c1 => ?_, fun c1 => ?_⟩
  ·
    exact ⟨(show 0 ≤ 0 ∧ 0 ≤ 1 from by omega), (show ¬ 0 = 0 → 0 ≤ n1 ∧ n1 < (σ.1 7) from by omega)⟩
  ·
    refine ⟨fun c2 => ?_, fun c2 => ?_⟩
    ·
      exact ⟨(show 0 ≤ 0 ∧ 0 ≤ 1 from by omega), (show ¬ 0 = 0 → 0 ≤ n1 ∧ n1 < (σ.1 7) from by omega)⟩
    ·
      exact ⟨(show 0 ≤ 1 ∧ 1 ≤ 1 from by omega), (show ¬ 1 = 0 → 0 ≤ n1 ∧ n1 < (σ.1 7) from by omega)⟩
set_option maxHeartbeats 1000000 in
theorem K_X3_isAssertion {n1 : Int} {σ : S0} (hT : c_T σ) : W_X3_isAssertion n1 σ (fun (x : Int) => (0 ≤ x ∧ x ≤ 1) ∧ (¬ x = 0 → 0 ≤ n1 ∧ n1 < (σ.1 7) ∧ 2 ≤ σ.2.1 13 n1)) := by
  have v7 : 0 ≤ σ.1 7 ∧ σ.1 7 ≤ 1500 := hT.1 7
  unfold W_X3_isAssertion
  refine ⟨_, K_X3_isStatement hT, ?_⟩
  intro x2 r_x2 hq
  obtain ⟨q1_1, q1_2⟩ := hq
  replace q1_1 : 0 ≤ x2 ∧ x2 ≤ 1 := q1_1
  replace q1_2 : ¬ x2 = 0 → 0 ≤ n1 ∧ n1 < (σ.1 7) := q1_2
  refine ⟨fun c4 => ?_, fun c4 => ?_⟩
  ·
    exact ⟨(show 0 ≤ 0 ∧ 0 ≤ 1 from by omega), (show ¬ 0 = 0 → 0 ≤ n1 ∧ n1 < (σ.1 7) ∧ 2 ≤ σ.2.1 13 n1 from by omega)⟩
  ·
    refine ⟨(show 0 ≤ n1 ∧ n1 < 1500 from by omega), ?_⟩
    intro x6 r_x6 e_x6
    have b_x6 : 0 ≤ x6 ∧ x6 ≤ 4 := by rw [e_x6]; exact hT.2 13 _
    refine ⟨fun c7 => ?_, fun c7 => ?_⟩
    ·
      exact ⟨(show 0 ≤ 0 ∧ 0 ≤ 1 from by omega), (show ¬ 0 = 0 → 0 ≤ n1 ∧ n1 < (σ.1 7) ∧ 2 ≤ σ.2.1 13 n1 from by omega)⟩
    ·
      exact ⟨(show 0 ≤ 1 ∧ 1 ≤ 1 from by omega), (show ¬ 1 = 0 → 0 ≤ n1 ∧ n1 < (σ.1 7) ∧ 2 ≤ σ.2.1 13 n1 from by omega)⟩
set_option maxHeartbeats 1000000 in
theorem K_X3_isProved {n1 : Int} {σ : S0} (hT : c_T σ) : W_X3_isProved n1 σ (fun (x : Int) => (0 ≤ x ∧ x ≤ 1) ∧ (¬ x = 0 → 0 ≤ n1 ∧ n1 < (σ.1 7) ∧ σ.2.1 13 n1 = 3)) := by
  have v7 : 0 ≤ σ.1 7 ∧ σ.1 7 ≤ 1500 := hT.1 7
  unfold W_X3_isProved
  refine ⟨_, K_X3_isStatement hT, ?_⟩
  intro x2 r_x2 hq
  obtain ⟨q1_1, q1_2⟩ := hq
  replace q1_1 : 0 ≤ x2 ∧ x2 ≤ 1 := q1_1
  replace q1_2 : ¬ x2 = 0 → 0 ≤ n1 ∧ n1 < (σ.1 7) := q1_2
  refine ⟨fun c4 => ?_, fun c4 => ?_⟩
  ·
    exact ⟨(show 0 ≤ 0 ∧ 0 ≤ 1 from by omega), (show ¬ 0 = 0 → 0 ≤ n1 ∧ n1 < (σ.1 7) ∧ σ.2.1 13 n1 = 3 from by omega)⟩
  ·
    refine ⟨(show 0 ≤ n1 ∧ n1 < 1500 from by omega), ?_⟩
    intro x6 r_x6 e_x6
    have b_x6 : 0 ≤ x6 ∧ x6 ≤ 4 := by rw [e_x6]; exact hT.2 13 _
    refine ⟨fun c7 => ?_, fun c7 => ?_⟩
    ·
      exact ⟨(show 0 ≤ 0 ∧ 0 ≤ 1 from by omega), (show ¬ 0 = 0 → 0 ≤ n1 ∧ n1 < (σ.1 7) ∧ σ.2.1 13 n1 = 3 from by omega)⟩
    ·
      exact ⟨(show 0 ≤ 1 ∧ 1 ≤ 1 from by omega), (show ¬ 1 = 0 → 0 ≤ n1 ∧ n1 < (σ.1 7) ∧ σ.2.1 13 n1 = 3 from by omega)⟩
set_option maxHeartbeats 1000000 in
theorem K_X3_isSymbol {n1 : Int} {σ : S0} (hT : c_T σ) : W_X3_isSymbol n1 σ (fun (x : Int) => (0 ≤ x ∧ x ≤ 1) ∧ (¬ x = 0 → 0 ≤ n1 ∧ n1 < (σ.1 5))) := by
  have v5 : 0 ≤ σ.1 5 ∧ σ.1 5 ≤ 1000 := hT.1 5
  unfold W_X3_isSymbol
  refine ⟨fun c1 => ?_, fun c1 => ?_⟩
  ·
    exact ⟨(show 0 ≤ 0 ∧ 0 ≤ 1 from by omega), (show ¬ 0 = 0 → 0 ≤ n1 ∧ n1 < (σ.1 5) from by omega)⟩
  ·
    refine ⟨fun c2 => ?_, fun c2 => ?_⟩
    ·
      exact ⟨(show 0 ≤ 0 ∧ 0 ≤ 1 from by omega), (show ¬ 0 = 0 → 0 ≤ n1 ∧ n1 < (σ.1 5) from by omega)⟩
    ·
      exact ⟨(show 0 ≤ 1 ∧ 1 ≤ 1 from by omega), (show ¬ 1 = 0 → 0 ≤ n1 ∧ n1 < (σ.1 5) from by omega)⟩
set_option maxHeartbeats 1000000 in
theorem K_X3_bucket_q15 {n1 : Int} {n2 : Int} {σ : S0} (hT : c_T σ) (p1 : 0 ≤ n1) (p2 : n1 + n2 ≤ 30000) : W_X3_bucket_q15 n1 n2 σ (fun (x : Int) => (0 ≤ x ∧ x < 4096) ∧ (x = h_b (σ.2.1 2) n1 n2)) := by
  intro P5 h5
  have l_5 : ∀ (m_5 : Nat) (u3_5 : Int) (u4_5 : Int), 60001 - u4_5 < (m_5 : Int) → (0 ≤ u4_5) → (u4_5 ≤ 60000) → (u3_5 = h_l (σ.2.1 2) n1 0 (Int.toNat u4_5)) → (u4_5 ≤ n2 ∨ u4_5 = 0) → P5 n1 n2 u3_5 u4_5 := by
    intro m_5
    induction m_5 with
    | zero =>
      intro u3_5 u4_5 hm i5_1 i5_2 i5_3 i5_4
      exfalso; omega
    | succ m_5 ih_5 =>
      intro u3_5 u4_5 hm_5 i5_1 i5_2 i5_3 i5_4
      refine h5 _ _ _ _ ?_
      refine ⟨fun c1 => ?_, fun c1 => ?_⟩
      ·
        intro x2 r_x2 e_x2
        intro x3 r_x3 e_x3
        exact ⟨(show 0 ≤ (x3 % 4096) ∧ (x3 % 4096) < 4096 from by omega), (show (x3 % 4096) = h_b (σ.2.1 2) n1 n2 from by (unfold h_b; rw [e_x3, e_x2, i5_3, show n2.toNat = u4_5.toNat from by omega]))⟩
      ·
        refine ⟨(show 0 ≤ (n1 + u4_5) ∧ (n1 + u4_5) < 30000 from by omega), ?_⟩
        intro x5 r_x5 e_x5
        have b_x5 : 0 ≤ x5 ∧ x5 ≤ 65535 := by rw [e_x5]; exact hT.2 2 _
        intro x6 r_x6 e_x6
        refine ⟨(⟨by omega, by omega⟩ : rg (u4_5 + 1)), ?_⟩
        exact ih_5 _ _ (show (60001 - (u4_5 + 1) : Int) < ((m_5 : Nat) : Int) from by (omega)) (show 0 ≤ (u4_5 + 1) from by omega) (show (u4_5 + 1) ≤ 60000 from by omega) (show x6 = h_l (σ.2.1 2) n1 0 (Int.toNat (u4_5 + 1)) from by (first | rfl | (rw [h_l_s _ _ _ (by omega), ← i5_3, ← e_x5, e_x6, Int.mul_comm u3_5 31]))) (show (u4_5 + 1) ≤ n2 ∨ (u4_5 + 1) = 0 from by omega)
  exact l_5 ((60001 - 0 : Int).toNat + 1) _ _ (show (60001 - 0 : Int) < (((60001 - 0 : Int).toNat + 1 : Nat) : Int) from by (omega)) (show 0 ≤ 0 from by omega) (show 0 ≤ 60000 from by omega) (show 0 = h_l (σ.2.1 2) n1 0 (Int.toNat 0) from by (first | rfl | (rw [h_l_s _ _ _ (by omega), ← i5_3, ← e_x5, e_x6, Int.mul_comm u3_5 31]))) (show 0 ≤ n2 ∨ 0 = 0 from by omega)
set_option maxHeartbeats 1000000 in
theorem K_X5_begin {σ : S0} (hT : c_T σ) : W_X5_begin σ (fun (τ : S0) => (c_T τ)) := by
  unfold W_X5_begin
  replace hT := cT_v (i := 63) hT (show (0 : Int) ≤ 0 ∧ 0 ≤ 24000 from by omega)
  replace hT := cT_v (i := 64) hT (show (0 : Int) ≤ 0 ∧ 0 ≤ 1 from by omega)
  exact hT
set_option maxHeartbeats 1000000 in
theorem K_X5_put {n1 : Int} {σ : S0} (hT : c_T σ) : W_X5_put n1 σ (fun (τ : S0) => (c_T τ) ∧ (0 ≤ (τ.1 63))) := by
  have v63 : 0 ≤ σ.1 63 ∧ σ.1 63 ≤ 24000 := hT.1 63
  have v67 : 0 ≤ σ.1 67 ∧ σ.1 67 ≤ 1 := hT.1 67
  have W67 : σ.1 67 = σ.1 67 := rfl
  unfold W_X5_put
  refine ⟨fun c1 => ?_, fun c1 => ?_⟩
  ·
    refine ⟨fun c2 => ?_, fun c2 => ?_⟩
    ·
      intro x3 h0_x3 h1_x3 e_x3
      refine ⟨(show 0 ≤ σ.1 63 ∧ σ.1 63 < 24000 from by omega), ?_⟩
      replace hT := cT_a (k := 101) (j := (σ.1 63)) hT (show (0 : Int) ≤ x3 ∧ x3 ≤ 65535 from by omega)
      refine ⟨(⟨by omega, by omega⟩ : rg (σ.1 63 + 1)), ?_⟩
      replace hT := cT_v (i := 63) hT (show 0 ≤ (σ.1 63 + 1) ∧ (σ.1 63 + 1) ≤ 24000 from by omega)
      exact ⟨hT, (show 0 ≤ ((σ.1 63 + 1)) from by omega)⟩
    ·
      intro x6 h0_x6 h1_x6 e_x6
      refine ⟨(show 0 ≤ σ.1 63 ∧ σ.1 63 < 24000 from by omega), ?_⟩
      replace hT := cT_a (k := 102) (j := (σ.1 63)) hT (show (0 : Int) ≤ x6 ∧ x6 ≤ 65535 from by omega)
      refine ⟨(⟨by omega, by omega⟩ : rg (σ.1 63 + 1)), ?_⟩
      replace hT := cT_v (i := 63) hT (show 0 ≤ (σ.1 63 + 1) ∧ (σ.1 63 + 1) ≤ 24000 from by omega)
      exact ⟨hT, (show 0 ≤ ((σ.1 63 + 1)) from by omega)⟩
  ·
    replace hT := cT_v (i := 64) hT (show (0 : Int) ≤ 1 ∧ 1 ≤ 1 from by omega)
    exact ⟨hT, (show 0 ≤ (σ.1 63) from by omega)⟩
set_option maxHeartbeats 1000000 in
theorem K_X5_putBlank {σ : S0} (hT : c_T σ) : W_X5_putBlank σ (fun (τ : S0) => (c_T τ)) := by
  have v63 : 0 ≤ σ.1 63 ∧ σ.1 63 ≤ 24000 := hT.1 63
  unfold W_X5_putBlank
  refine ⟨fun c1 => ?_, fun c1 => ?_⟩
  ·
    exact hT
  ·
    refine ⟨_, K_X5_put hT, ?_⟩
    intro τ4 hn_τ4 hf_τ4 hq
    obtain ⟨hT, q2_1⟩ := hq
    replace q2_1 : 0 ≤ (τ4.1 63) := q2_1
    have v63 : 0 ≤ τ4.1 63 ∧ τ4.1 63 ≤ 24000 := hT.1 63
    exact hT
set_option maxHeartbeats 1000000 in
theorem K_X5_putToken {n1 : Int} {σ : S0} (hT : c_T σ) : W_X5_putToken n1 σ (fun (τ : S0) => (c_T τ)) := by
  have v63 : 0 ≤ σ.1 63 ∧ σ.1 63 ≤ 24000 := hT.1 63
  unfold W_X5_putToken
  refine ⟨_, K_X5_putBlank hT, ?_⟩
  intro τ3 hn_τ3 hf_τ3 hq
  replace hT := hq
  have v63 : 0 ≤ τ3.1 63 ∧ τ3.1 63 ≤ 24000 := hT.1 63
  refine ⟨_, K_X5_put hT, ?_⟩
  intro τ6 hn_τ6 hf_τ6 hq
  obtain ⟨hT, q4_1⟩ := hq
  replace q4_1 : 0 ≤ (τ6.1 63) := q4_1
  have v63 : 0 ≤ τ6.1 63 ∧ τ6.1 63 ≤ 24000 := hT.1 63
  exact hT
set_option maxHeartbeats 1000000 in
theorem K_X5_putName {n1 : Int} {σ : S0} (hT : c_T σ) (p1 : 0 ≤ n1) (p2 : n1 < 2500) : W_X5_putName n1 σ (fun (τ : S0) => (c_T τ)) := by
  have v63 : 0 ≤ σ.1 63 ∧ σ.1 63 ≤ 24000 := hT.1 63
  have v64 : 0 ≤ σ.1 64 ∧ σ.1 64 ≤ 1 := hT.1 64
  intro P14 h14
  have l_14 : ∀ (m_14 : Nat) (u1_14 : Int) (u2_14 : Int) (τ_14 : S0), 30001 - u2_14 < (m_14 : Int) → (c_T τ_14) → (0 ≤ u1_14) → (u1_14 < 2500) → (0 ≤ u2_14) → (u2_14 ≤ 30000) → P14 u1_14 u2_14 τ_14 := by
    intro m_14
    induction m_14 with
    | zero =>
      intro u1_14 u2_14 τ_14 hm hT i14_1 i14_2 i14_3 i14_4
      have v63 : 0 ≤ τ_14.1 63 ∧ τ_14.1 63 ≤ 24000 := hT.1 63
      have v64 : 0 ≤ τ_14.1 64 ∧ τ_14.1 64 ≤ 1 := hT.1 64
      exfalso; omega
    | succ m_14 ih_14 =>
      intro u1_14 u2_14 τ_14 hm_14 hT i14_1 i14_2 i14_3 i14_4
      have v63 : 0 ≤ τ_14.1 63 ∧ τ_14.1 63 ≤ 24000 := hT.1 63
      have v64 : 0 ≤ τ_14.1 64 ∧ τ_14.1 64 ≤ 1 := hT.1 64
      refine h14 _ _ _ ?_
      refine ⟨(show 0 ≤ (u1_14 + 1) ∧ (u1_14 + 1) < 2501 from by omega), ?_⟩
      intro x7 r_x7 e_x7
      have b_x7 : 0 ≤ x7 ∧ x7 ≤ 30000 := by rw [e_x7]; exact hT.2 3 _
      refine ⟨fun c8 => ?_, fun c8 => ?_⟩
      ·
        exact hT
      ·
        refine ⟨fun c9 => ?_, fun c9 => ?_⟩
        ·
          exact hT
        ·
          refine ⟨(show 0 ≤ u2_14 ∧ u2_14 < 30000 from by omega), ?_⟩
          intro x11 r_x11 e_x11
          have b_x11 : 0 ≤ x11 ∧ x11 ≤ 65535 := by rw [e_x11]; exact hT.2 2 _
          refine ⟨_, K_X5_put hT, ?_⟩
          intro τ14 hn_τ14 hf_τ14 hq
          obtain ⟨hT, q12_1⟩ := hq
          replace q12_1 : 0 ≤ (τ14.1 63) := q12_1
          have v63 : 0 ≤ τ14.1 63 ∧ τ14.1 63 ≤ 24000 := hT.1 63
          have v64 : 0 ≤ τ14.1 64 ∧ τ14.1 64 ≤ 1 := hT.1 64
          refine ⟨(⟨by omega, by omega⟩ : rg (u2_14 + 1)), ?_⟩
          exact ih_14 _ _ _ (show (30001 - (u2_14 + 1) : Int) < ((m_14 : Nat) : Int) from by (omega)) hT (show 0 ≤ u1_14 from by omega) (show u1_14 < 2500 from by omega) (show 0 ≤ (u2_14 + 1) from by omega) (show (u2_14 + 1) ≤ 30000 from by omega)
  refine ⟨_, K_X5_putBlank hT, ?_⟩
  intro τ3 hn_τ3 hf_τ3 hq
  replace hT := hq
  have v63 : 0 ≤ τ3.1 63 ∧ τ3.1 63 ≤ 24000 := hT.1 63
  have v64 : 0 ≤ τ3.1 64 ∧ τ3.1 64 ≤ 1 := hT.1 64
  refine ⟨(show 0 ≤ n1 ∧ n1 < 2501 from by omega), ?_⟩
  intro x5 r_x5 e_x5
  have b_x5 : 0 ≤ x5 ∧ x5 ≤ 30000 := by rw [e_x5]; exact hT.2 3 _
  exact l_14 ((30001 - x5 : Int).toNat + 1) _ _ _ (show (30001 - x5 : Int) < (((30001 - x5 : Int).toNat + 1 : Nat) : Int) from by (omega)) hT (show 0 ≤ n1 from by omega) (show n1 < 2500 from by omega) (show 0 ≤ x5 from by omega) (show x5 ≤ 30000 from by omega)
set_option maxHeartbeats 1000000 in
theorem K_X5_putSymbol {n1 : Int} {σ : S0} (hT : c_T σ) (p1 : 0 ≤ n1) (p2 : n1 < 1000) : W_X5_putSymbol n1 σ (fun (τ : S0) => (c_T τ)) := by
  unfold W_X5_putSymbol
  refine ⟨(show 0 ≤ n1 ∧ n1 < 1000 from by omega), ?_⟩
  intro x2 r_x2 e_x2
  have b_x2 : 0 ≤ x2 ∧ x2 ≤ 2499 := by rw [e_x2]; exact hT.2 7 _
  refine ⟨_, K_X5_putName hT (show 0 ≤ x2 from by omega) (show x2 < 2500 from by omega), ?_⟩
  intro τ5 hn_τ5 hf_τ5 hq
  replace hT := hq
  exact hT
set_option maxHeartbeats 1000000 in
theorem K_X5_finish {σ : S0} (hT : c_T σ) : W_X5_finish σ (fun (x : Int) (τ : S0) => (c_T τ)) := by
  have v63 : 0 ≤ σ.1 63 ∧ σ.1 63 ≤ 24000 := hT.1 63
  have v64 : 0 ≤ σ.1 64 ∧ σ.1 64 ≤ 1 := hT.1 64
  have v67 : 0 ≤ σ.1 67 ∧ σ.1 67 ≤ 1 := hT.1 67
  have W63 : σ.1 63 = σ.1 63 := rfl
  have W64 : σ.1 64 = σ.1 64 := rfl
  unfold W_X5_finish
  refine ⟨fun c1 => ?_, fun c1 => ?_⟩
  ·
    refine ⟨fun c2 => ?_, fun c2 => ?_⟩
    ·
      replace hT := cT_v (i := 67) hT (show (0 : Int) ≤ 1 ∧ 1 ≤ 1 from by omega)
      replace hT := cT_v (i := 65) hT (show 0 ≤ (σ.1 63) ∧ (σ.1 63) ≤ 24000 from by omega)
      exact hT
    ·
      replace hT := cT_v (i := 67) hT (show (0 : Int) ≤ 0 ∧ 0 ≤ 1 from by omega)
      replace hT := cT_v (i := 65) hT (show 0 ≤ (σ.1 63) ∧ (σ.1 63) ≤ 24000 from by omega)
      exact hT
  ·
    exact hT
set_option maxHeartbeats 1000000 in
theorem K_X5_shown {n1 : Int} {σ : S0} (hT : c_T σ) : W_X5_shown n1 σ (fun (x : Int) => True) := by
  have v65 : 0 ≤ σ.1 65 ∧ σ.1 65 ≤ 24000 := hT.1 65
  have v67 : 0 ≤ σ.1 67 ∧ σ.1 67 ≤ 1 := hT.1 67
  unfold W_X5_shown
  refine ⟨fun c1 => ?_, fun c1 => ?_⟩
  ·
    exact trivial
  ·
    refine ⟨fun c2 => ?_, fun c2 => ?_⟩
    ·
      exact trivial
    ·
      refine ⟨fun c3 => ?_, fun c3 => ?_⟩
      ·
        refine ⟨(show 0 ≤ n1 ∧ n1 < 24000 from by omega), ?_⟩
        intro x5 r_x5 e_x5
        have b_x5 : 0 ≤ x5 ∧ x5 ≤ 65535 := by rw [e_x5]; exact hT.2 102 _
        exact trivial
      ·
        refine ⟨(show 0 ≤ n1 ∧ n1 < 24000 from by omega), ?_⟩
        intro x7 r_x7 e_x7
        have b_x7 : 0 ≤ x7 ∧ x7 ≤ 65535 := by rw [e_x7]; exact hT.2 101 _
        exact trivial
set_option maxHeartbeats 1000000 in
theorem K_X3_bucket_q13 {n1 : Int} {n2 : Int} {σ : S0} (hT : c_T σ) (p1 : 0 ≤ n1) (p2 : n1 + n2 ≤ 60000) : W_X3_bucket_q13 n1 n2 σ (fun (x : Int) => (0 ≤ x ∧ x < 4096) ∧ (x = h_b (σ.2.1 0) n1 n2)) := by
  intro P5 h5
  have l_5 : ∀ (m_5 : Nat) (u3_5 : Int) (u4_5 : Int), 60001 - u4_5 < (m_5 : Int) → (0 ≤ u4_5) → (u4_5 ≤ 60000) → (u3_5 = h_l (σ.2.1 0) n1 0 (Int.toNat u4_5)) → (u4_5 ≤ n2 ∨ u4_5 = 0) → P5 n1 n2 u3_5 u4_5 := by
    intro m_5
    induction m_5 with
    | zero =>
      intro u3_5 u4_5 hm i5_1 i5_2 i5_3 i5_4
      exfalso; omega
    | succ m_5 ih_5 =>
      intro u3_5 u4_5 hm_5 i5_1 i5_2 i5_3 i5_4
      refine h5 _ _ _ _ ?_
      refine ⟨fun c1 => ?_, fun c1 => ?_⟩
      ·
        intro x2 r_x2 e_x2
        intro x3 r_x3 e_x3
        exact ⟨(show 0 ≤ (x3 % 4096) ∧ (x3 % 4096) < 4096 from by omega), (show (x3 % 4096) = h_b (σ.2.1 0) n1 n2 from by (unfold h_b; rw [e_x3, e_x2, i5_3, show n2.toNat = u4_5.toNat from by omega]))⟩
      ·
        refine ⟨(show 0 ≤ (n1 + u4_5) ∧ (n1 + u4_5) < 60000 from by omega), ?_⟩
        intro x5 r_x5 e_x5
        have b_x5 : 0 ≤ x5 ∧ x5 ≤ 255 := by rw [e_x5]; exact hT.2 0 _
        intro x6 r_x6 e_x6
        refine ⟨(⟨by omega, by omega⟩ : rg (u4_5 + 1)), ?_⟩
        exact ih_5 _ _ (show (60001 - (u4_5 + 1) : Int) < ((m_5 : Nat) : Int) from by (omega)) (show 0 ≤ (u4_5 + 1) from by omega) (show (u4_5 + 1) ≤ 60000 from by omega) (show x6 = h_l (σ.2.1 0) n1 0 (Int.toNat (u4_5 + 1)) from by (first | rfl | (rw [h_l_s _ _ _ (by omega), ← i5_3, ← e_x5, e_x6, Int.mul_comm u3_5 31]))) (show (u4_5 + 1) ≤ n2 ∨ (u4_5 + 1) = 0 from by omega)
  exact l_5 ((60001 - 0 : Int).toNat + 1) _ _ (show (60001 - 0 : Int) < (((60001 - 0 : Int).toNat + 1 : Nat) : Int) from by (omega)) (show 0 ≤ 0 from by omega) (show 0 ≤ 60000 from by omega) (show 0 = h_l (σ.2.1 0) n1 0 (Int.toNat 0) from by (first | rfl | (rw [h_l_s _ _ _ (by omega), ← i5_3, ← e_x5, e_x6, Int.mul_comm u3_5 31]))) (show 0 ≤ n2 ∨ 0 = 0 from by omega)
set_option maxHeartbeats 1000000 in
theorem K_X3_isName_q13 {n1 : Int} {n3 : Int} {n4 : Int} {σ : S0} (hT : c_T σ) (p1 : 0 ≤ n1) (p2 : n1 < 2500) (p3 : 0 ≤ n3) (p4 : n3 + n4 ≤ 60000) : W_X3_isName_q13 n1 n3 n4 σ (fun (x : Int) => (0 ≤ x ∧ x ≤ 1)) := by
  intro P29 h29
  have l_29 : ∀ (m_29 : Nat) (u3_29 : Int) (u4_29 : Int) (u5_29 : Int) (u6_29 : Int), 100000 - u6_29 < (m_29 : Int) → (0 ≤ u3_29) → (u3_29 + u4_29 ≤ 60000) → (0 ≤ u5_29) → (u5_29 + u4_29 ≤ 30000) → (0 ≤ u6_29) → (u6_29 ≤ 100000) → P29 u3_29 u4_29 u5_29 u6_29 := by
    intro m_29
    induction m_29 with
    | zero =>
      intro u3_29 u4_29 u5_29 u6_29 hm i29_1 i29_2 i29_3 i29_4 i29_5 i29_6
      exfalso; omega
    | succ m_29 ih_29 =>
      intro u3_29 u4_29 u5_29 u6_29 hm_29 i29_1 i29_2 i29_3 i29_4 i29_5 i29_6
      refine h29 _ _ _ _ ?_
      refine ⟨fun c7 => ?_, fun c7 => ?_⟩
      ·
        exact (show 0 ≤ 1 ∧ 1 ≤ 1 from by omega)
      ·
        refine ⟨(show 0 ≤ (u5_29 + u6_29) ∧ (u5_29 + u6_29) < 30000 from by omega), ?_⟩
        intro x9 r_x9 e_x9
        have b_x9 : 0 ≤ x9 ∧ x9 ≤ 65535 := by rw [e_x9]; exact hT.2 2 _
        refine ⟨(show 0 ≤ (u3_29 + u6_29) ∧ (u3_29 + u6_29) < 60000 from by omega), ?_⟩
        intro x11 r_x11 e_x11
        have b_x11 : 0 ≤ x11 ∧ x11 ≤ 255 := by rw [e_x11]; exact hT.2 0 _
        refine ⟨fun c12 => ?_, fun c12 => ?_⟩
        ·
          refine ⟨(⟨by omega, by omega⟩ : rg (u6_29 + 1)), ?_⟩
          exact ih_29 _ _ _ _ (show (100000 - (u6_29 + 1) : Int) < ((m_29 : Nat) : Int) from by (omega)) (show 0 ≤ u3_29 from by omega) (show u3_29 + u4_29 ≤ 60000 from by omega) (show 0 ≤ u5_29 from by omega) (show u5_29 + u4_29 ≤ 30000 from by omega) (show 0 ≤ (u6_29 + 1) from by omega) (show (u6_29 + 1) ≤ 100000 from by omega)
        ·
          exact (show 0 ≤ 0 ∧ 0 ≤ 1 from by omega)
  refine ⟨(show 0 ≤ n1 ∧ n1 < 2501 from by omega), ?_⟩
  intro x2 r_x2 e_x2
  have b_x2 : 0 ≤ x2 ∧ x2 ≤ 30000 := by rw [e_x2]; exact hT.2 3 _
  refine ⟨(show 0 ≤ (n1 + 1) ∧ (n1 + 1) < 2501 from by omega), ?_⟩
  intro x4 r_x4 e_x4
  have b_x4 : 0 ≤ x4 ∧ x4 ≤ 30000 := by rw [e_x4]; exact hT.2 3 _
  refine ⟨(⟨by omega, by omega⟩ : rg (x4 - x2)), ?_⟩
  refine ⟨fun c6 => ?_, fun c6 => ?_⟩
  ·
    exact l_29 ((100000 - 0 : Int).toNat + 1) _ _ _ _ (show (100000 - 0 : Int) < (((100000 - 0 : Int).toNat + 1 : Nat) : Int) from by (omega)) (show 0 ≤ n3 from by omega) (show n3 + n4 ≤ 60000 from by omega) (show 0 ≤ x2 from by omega) (show x2 + n4 ≤ 30000 from by omega) (show 0 ≤ 0 from by omega) (show 0 ≤ 100000 from by omega)
  ·
    exact (show 0 ≤ 0 ∧ 0 ≤ 1 from by omega)
set_option maxHeartbeats 1000000 in
theorem K_X3_nameOf_q13 {n2 : Int} {n3 : Int} {σ : S0} (hT : c_T σ) (p1 : 0 ≤ n2) (p2 : n2 + n3 ≤ 60000) : W_X3_nameOf_q13 n2 n3 σ (fun (x : Int) => (-1 ≤ x ∧ x ≤ 2499)) := by
  intro P16 h16
  have l_16 : ∀ (m_16 : Nat) (u2_16 : Int) (u3_16 : Int) (u4_16 : Int) (u5_16 : Int), 2500 - u5_16 < (m_16 : Int) → (0 ≤ u2_16) → (u2_16 + u3_16 ≤ 60000) → (0 ≤ u4_16) → (u4_16 ≤ 2500) → (0 ≤ u5_16) → (u5_16 ≤ 2500) → P16 u2_16 u3_16 u4_16 u5_16 := by
    intro m_16
    induction m_16 with
    | zero =>
      intro u2_16 u3_16 u4_16 u5_16 hm i16_1 i16_2 i16_3 i16_4 i16_5 i16_6
      exfalso; omega
    | succ m_16 ih_16 =>
      intro u2_16 u3_16 u4_16 u5_16 hm_16 i16_1 i16_2 i16_3 i16_4 i16_5 i16_6
      refine h16 _ _ _ _ ?_
      refine ⟨fun c6 => ?_, fun c6 => ?_⟩
      ·
        exact (show -1 ≤ (-1) ∧ (-1) ≤ 2499 from by omega)
      ·
        refine ⟨fun c7 => ?_, fun c7 => ?_⟩
        ·
          exact (show -1 ≤ (-1) ∧ (-1) ≤ 2499 from by omega)
        ·
          refine ⟨(⟨by omega, by omega⟩ : rg (u4_16 - 1)), ?_⟩
          refine ⟨_, K_X3_isName_q13 hT (show 0 ≤ (u4_16 - 1) from by omega) (show (u4_16 - 1) < 2500 from by omega) (show 0 ≤ u2_16 from by omega) (show u2_16 + u3_16 ≤ 60000 from by omega), ?_⟩
          intro x10 r_x10 hq
          have q9_1 := hq
          replace q9_1 : 0 ≤ x10 ∧ x10 ≤ 1 := q9_1
          refine ⟨fun c12 => ?_, fun c12 => ?_⟩
          ·
            refine ⟨(show 0 ≤ (u4_16 - 1) ∧ (u4_16 - 1) < 2500 from by omega), ?_⟩
            intro x14 r_x14 e_x14
            have b_x14 : 0 ≤ x14 ∧ x14 ≤ 2500 := by rw [e_x14]; exact hT.2 5 _
            refine ⟨(⟨by omega, by omega⟩ : rg (u5_16 + 1)), ?_⟩
            exact ih_16 _ _ _ _ (show (2500 - (u5_16 + 1) : Int) < ((m_16 : Nat) : Int) from by (omega)) (show 0 ≤ u2_16 from by omega) (show u2_16 + u3_16 ≤ 60000 from by omega) (show 0 ≤ x14 from by omega) (show x14 ≤ 2500 from by omega) (show 0 ≤ (u5_16 + 1) from by omega) (show (u5_16 + 1) ≤ 2500 from by omega)
          ·
            exact (show -1 ≤ (u4_16 - 1) ∧ (u4_16 - 1) ≤ 2499 from by omega)
  refine ⟨_, K_X3_bucket_q13 hT (show 0 ≤ n2 from by omega) (show n2 + n3 ≤ 60000 from by omega), ?_⟩
  intro x2 r_x2 hq
  obtain ⟨q1_1, q1_2⟩ := hq
  replace q1_1 : 0 ≤ x2 ∧ x2 < 4096 := q1_1
  replace q1_2 : x2 = h_b (σ.2.1 0) n2 n3 := q1_2
  refine ⟨(show 0 ≤ x2 ∧ x2 < 4096 from by omega), ?_⟩
  intro x5 r_x5 e_x5
  have b_x5 : 0 ≤ x5 ∧ x5 ≤ 2500 := by rw [e_x5]; exact hT.2 6 _
  exact l_16 ((2500 - 0 : Int).toNat + 1) _ _ _ _ (show (2500 - 0 : Int) < (((2500 - 0 : Int).toNat + 1 : Nat) : Int) from by (omega)) (show 0 ≤ n2 from by omega) (show n2 + n3 ≤ 60000 from by omega) (show 0 ≤ x5 from by omega) (show x5 ≤ 2500 from by omega) (show 0 ≤ 0 from by omega) (show 0 ≤ 2500 from by omega)
set_option maxHeartbeats 1000000 in
theorem K_X12_isLabelCharacter {n0 : Int} {σ : S0} (hT : c_T σ) : W_X12_isLabelCharacter n0 σ (fun (x : Int) => (0 ≤ x ∧ x ≤ 1)) := by
  intro P12 P29 P46 h12 h29 h46
  refine ⟨fun c1 => ?_, fun c1 => ?_⟩
  ·
    refine h12 _ ?_
    refine ⟨fun c3 => ?_, fun c3 => ?_⟩
    ·
      refine h29 _ _ ?_
      refine ⟨fun c5 => ?_, fun c5 => ?_⟩
      ·
        exact (show 0 ≤ 1 ∧ 1 ≤ 1 from by omega)
      ·
        refine ⟨fun c6 => ?_, fun c6 => ?_⟩
        ·
          refine h46 _ ?_
          refine ⟨fun c8 => ?_, fun c8 => ?_⟩
          ·
            exact (show 0 ≤ 1 ∧ 1 ≤ 1 from by omega)
          ·
            refine ⟨fun c9 => ?_, fun c9 => ?_⟩
            ·
              exact (show 0 ≤ 1 ∧ 1 ≤ 1 from by omega)
            ·
              refine ⟨fun c10 => ?_, fun c10 => ?_⟩
              ·
                exact (show 0 ≤ 0 ∧ 0 ≤ 1 from by omega)
              ·
                exact (show 0 ≤ 1 ∧ 1 ≤ 1 from by omega)
        ·
          refine ⟨fun c7 => ?_, fun c7 => ?_⟩
          ·
            exact (show 0 ≤ 1 ∧ 1 ≤ 1 from by omega)
          ·
            refine h46 _ ?_
            refine ⟨fun c8 => ?_, fun c8 => ?_⟩
            ·
              exact (show 0 ≤ 1 ∧ 1 ≤ 1 from by omega)
            ·
              refine ⟨fun c9 => ?_, fun c9 => ?_⟩
              ·
                exact (show 0 ≤ 1 ∧ 1 ≤ 1 from by omega)
              ·
                refine ⟨fun c10 => ?_, fun c10 => ?_⟩
                ·
                  exact (show 0 ≤ 0 ∧ 0 ≤ 1 from by omega)
                ·
                  exact (show 0 ≤ 1 ∧ 1 ≤ 1 from by omega)
    ·
      refine ⟨fun c4 => ?_, fun c4 => ?_⟩
      ·
        refine h29 _ _ ?_
        refine ⟨fun c5 => ?_, fun c5 => ?_⟩
        ·
          exact (show 0 ≤ 1 ∧ 1 ≤ 1 from by omega)
        ·
          refine ⟨fun c6 => ?_, fun c6 => ?_⟩
          ·
            refine h46 _ ?_
            refine ⟨fun c8 => ?_, fun c8 => ?_⟩
            ·
              exact (show 0 ≤ 1 ∧ 1 ≤ 1 from by omega)
            ·
              refine ⟨fun c9 => ?_, fun c9 => ?_⟩
              ·
                exact (show 0 ≤ 1 ∧ 1 ≤ 1 from by omega)
              ·
                refine ⟨fun c10 => ?_, fun c10 => ?_⟩
                ·
                  exact (show 0 ≤ 0 ∧ 0 ≤ 1 from by omega)
                ·
                  exact (show 0 ≤ 1 ∧ 1 ≤ 1 from by omega)
          ·
            refine ⟨fun c7 => ?_, fun c7 => ?_⟩
            ·
              exact (show 0 ≤ 1 ∧ 1 ≤ 1 from by omega)
            ·
              refine h46 _ ?_
              refine ⟨fun c8 => ?_, fun c8 => ?_⟩
              ·
                exact (show 0 ≤ 1 ∧ 1 ≤ 1 from by omega)
              ·
                refine ⟨fun c9 => ?_, fun c9 => ?_⟩
                ·
                  exact (show 0 ≤ 1 ∧ 1 ≤ 1 from by omega)
                ·
                  refine ⟨fun c10 => ?_, fun c10 => ?_⟩
                  ·
                    exact (show 0 ≤ 0 ∧ 0 ≤ 1 from by omega)
                  ·
                    exact (show 0 ≤ 1 ∧ 1 ≤ 1 from by omega)
      ·
        refine h29 _ _ ?_
        refine ⟨fun c5 => ?_, fun c5 => ?_⟩
        ·
          exact (show 0 ≤ 1 ∧ 1 ≤ 1 from by omega)
        ·
          refine ⟨fun c6 => ?_, fun c6 => ?_⟩
          ·
            refine h46 _ ?_
            refine ⟨fun c8 => ?_, fun c8 => ?_⟩
            ·
              exact (show 0 ≤ 1 ∧ 1 ≤ 1 from by omega)
            ·
              refine ⟨fun c9 => ?_, fun c9 => ?_⟩
              ·
                exact (show 0 ≤ 1 ∧ 1 ≤ 1 from by omega)
              ·
                refine ⟨fun c10 => ?_, fun c10 => ?_⟩
                ·
                  exact (show 0 ≤ 0 ∧ 0 ≤ 1 from by omega)
                ·
                  exact (show 0 ≤ 1 ∧ 1 ≤ 1 from by omega)
          ·
            refine ⟨fun c7 => ?_, fun c7 => ?_⟩
            ·
              exact (show 0 ≤ 1 ∧ 1 ≤ 1 from by omega)
            ·
              refine h46 _ ?_
              refine ⟨fun c8 => ?_, fun c8 => ?_⟩
              ·
                exact (show 0 ≤ 1 ∧ 1 ≤ 1 from by omega)
              ·
                refine ⟨fun c9 => ?_, fun c9 => ?_⟩
                ·
                  exact (show 0 ≤ 1 ∧ 1 ≤ 1 from by omega)
                ·
                  refine ⟨fun c10 => ?_, fun c10 => ?_⟩
                  ·
                    exact (show 0 ≤ 0 ∧ 0 ≤ 1 from by omega)
                  ·
                    exact (show 0 ≤ 1 ∧ 1 ≤ 1 from by omega)
  ·
    refine ⟨fun c2 => ?_, fun c2 => ?_⟩
    ·
      refine h29 _ _ ?_
      refine ⟨fun c5 => ?_, fun c5 => ?_⟩
      ·
        exact (show 0 ≤ 1 ∧ 1 ≤ 1 from by omega)
      ·
        refine ⟨fun c6 => ?_, fun c6 => ?_⟩
        ·
          refine h46 _ ?_
          refine ⟨fun c8 => ?_, fun c8 => ?_⟩
          ·
            exact (show 0 ≤ 1 ∧ 1 ≤ 1 from by omega)
          ·
            refine ⟨fun c9 => ?_, fun c9 => ?_⟩
            ·
              exact (show 0 ≤ 1 ∧ 1 ≤ 1 from by omega)
            ·
              refine ⟨fun c10 => ?_, fun c10 => ?_⟩
              ·
                exact (show 0 ≤ 0 ∧ 0 ≤ 1 from by omega)
              ·
                exact (show 0 ≤ 1 ∧ 1 ≤ 1 from by omega)
        ·
          refine ⟨fun c7 => ?_, fun c7 => ?_⟩
          ·
            exact (show 0 ≤ 1 ∧ 1 ≤ 1 from by omega)
          ·
            refine h46 _ ?_
            refine ⟨fun c8 => ?_, fun c8 => ?_⟩
            ·
              exact (show 0 ≤ 1 ∧ 1 ≤ 1 from by omega)
            ·
              refine ⟨fun c9 => ?_, fun c9 => ?_⟩
              ·
                exact (show 0 ≤ 1 ∧ 1 ≤ 1 from by omega)
              ·
                refine ⟨fun c10 => ?_, fun c10 => ?_⟩
                ·
                  exact (show 0 ≤ 0 ∧ 0 ≤ 1 from by omega)
                ·
                  exact (show 0 ≤ 1 ∧ 1 ≤ 1 from by omega)
    ·
      refine h12 _ ?_
      refine ⟨fun c3 => ?_, fun c3 => ?_⟩
      ·
        refine h29 _ _ ?_
        refine ⟨fun c5 => ?_, fun c5 => ?_⟩
        ·
          exact (show 0 ≤ 1 ∧ 1 ≤ 1 from by omega)
        ·
          refine ⟨fun c6 => ?_, fun c6 => ?_⟩
          ·
            refine h46 _ ?_
            refine ⟨fun c8 => ?_, fun c8 => ?_⟩
            ·
              exact (show 0 ≤ 1 ∧ 1 ≤ 1 from by omega)
            ·
              refine ⟨fun c9 => ?_, fun c9 => ?_⟩
              ·
                exact (show 0 ≤ 1 ∧ 1 ≤ 1 from by omega)
              ·
                refine ⟨fun c10 => ?_, fun c10 => ?_⟩
                ·
                  exact (show 0 ≤ 0 ∧ 0 ≤ 1 from by omega)
                ·
                  exact (show 0 ≤ 1 ∧ 1 ≤ 1 from by omega)
          ·
            refine ⟨fun c7 => ?_, fun c7 => ?_⟩
            ·
              exact (show 0 ≤ 1 ∧ 1 ≤ 1 from by omega)
            ·
              refine h46 _ ?_
              refine ⟨fun c8 => ?_, fun c8 => ?_⟩
              ·
                exact (show 0 ≤ 1 ∧ 1 ≤ 1 from by omega)
              ·
                refine ⟨fun c9 => ?_, fun c9 => ?_⟩
                ·
                  exact (show 0 ≤ 1 ∧ 1 ≤ 1 from by omega)
                ·
                  refine ⟨fun c10 => ?_, fun c10 => ?_⟩
                  ·
                    exact (show 0 ≤ 0 ∧ 0 ≤ 1 from by omega)
                  ·
                    exact (show 0 ≤ 1 ∧ 1 ≤ 1 from by omega)
      ·
        refine ⟨fun c4 => ?_, fun c4 => ?_⟩
        ·
          refine h29 _ _ ?_
          refine ⟨fun c5 => ?_, fun c5 => ?_⟩
          ·
            exact (show 0 ≤ 1 ∧ 1 ≤ 1 from by omega)
          ·
            refine ⟨fun c6 => ?_, fun c6 => ?_⟩
            ·
              refine h46 _ ?_
              refine ⟨fun c8 => ?_, fun c8 => ?_⟩
              ·
                exact (show 0 ≤ 1 ∧ 1 ≤ 1 from by omega)
              ·
                refine ⟨fun c9 => ?_, fun c9 => ?_⟩
                ·
                  exact (show 0 ≤ 1 ∧ 1 ≤ 1 from by omega)
                ·
                  refine ⟨fun c10 => ?_, fun c10 => ?_⟩
                  ·
                    exact (show 0 ≤ 0 ∧ 0 ≤ 1 from by omega)
                  ·
                    exact (show 0 ≤ 1 ∧ 1 ≤ 1 from by omega)
            ·
              refine ⟨fun c7 => ?_, fun c7 => ?_⟩
              ·
                exact (show 0 ≤ 1 ∧ 1 ≤ 1 from by omega)
              ·
                refine h46 _ ?_
                refine ⟨fun c8 => ?_, fun c8 => ?_⟩
                ·
                  exact (show 0 ≤ 1 ∧ 1 ≤ 1 from by omega)
                ·
                  refine ⟨fun c9 => ?_, fun c9 => ?_⟩
                  ·
                    exact (show 0 ≤ 1 ∧ 1 ≤ 1 from by omega)
                  ·
                    refine ⟨fun c10 => ?_, fun c10 => ?_⟩
                    ·
                      exact (show 0 ≤ 0 ∧ 0 ≤ 1 from by omega)
                    ·
                      exact (show 0 ≤ 1 ∧ 1 ≤ 1 from by omega)
        ·
          refine h29 _ _ ?_
          refine ⟨fun c5 => ?_, fun c5 => ?_⟩
          ·
            exact (show 0 ≤ 1 ∧ 1 ≤ 1 from by omega)
          ·
            refine ⟨fun c6 => ?_, fun c6 => ?_⟩
            ·
              refine h46 _ ?_
              refine ⟨fun c8 => ?_, fun c8 => ?_⟩
              ·
                exact (show 0 ≤ 1 ∧ 1 ≤ 1 from by omega)
              ·
                refine ⟨fun c9 => ?_, fun c9 => ?_⟩
                ·
                  exact (show 0 ≤ 1 ∧ 1 ≤ 1 from by omega)
                ·
                  refine ⟨fun c10 => ?_, fun c10 => ?_⟩
                  ·
                    exact (show 0 ≤ 0 ∧ 0 ≤ 1 from by omega)
                  ·
                    exact (show 0 ≤ 1 ∧ 1 ≤ 1 from by omega)
            ·
              refine ⟨fun c7 => ?_, fun c7 => ?_⟩
              ·
                exact (show 0 ≤ 1 ∧ 1 ≤ 1 from by omega)
              ·
                refine h46 _ ?_
                refine ⟨fun c8 => ?_, fun c8 => ?_⟩
                ·
                  exact (show 0 ≤ 1 ∧ 1 ≤ 1 from by omega)
                ·
                  refine ⟨fun c9 => ?_, fun c9 => ?_⟩
                  ·
                    exact (show 0 ≤ 1 ∧ 1 ≤ 1 from by omega)
                  ·
                    refine ⟨fun c10 => ?_, fun c10 => ?_⟩
                    ·
                      exact (show 0 ≤ 0 ∧ 0 ≤ 1 from by omega)
                    ·
                      exact (show 0 ≤ 1 ∧ 1 ≤ 1 from by omega)
set_option maxHeartbeats 1000000 in
theorem K_X12_isLabel_q13 {n1 : Int} {n2 : Int} {σ : S0} (hT : c_T σ) (p1 : 0 ≤ n1) (p2 : 0 ≤ n2) (p3 : n1 + n2 ≤ 60000) : W_X12_isLabel_q13 n1 n2 σ (fun (x : Int) => (0 ≤ x ∧ x ≤ 1)) := by
  intro P2 h2
  have l_2 : ∀ (m_2 : Nat) (u1_2 : Int) (u2_2 : Int) (u3_2 : Int), 60001 - u3_2 < (m_2 : Int) → (0 ≤ u1_2) → (u1_2 + u2_2 ≤ 60000) → (0 ≤ u3_2) → (u3_2 ≤ 60000) → P2 u1_2 u2_2 u3_2 := by
    intro m_2
    induction m_2 with
    | zero =>
      intro u1_2 u2_2 u3_2 hm i2_1 i2_2 i2_3 i2_4
      exfalso; omega
    | succ m_2 ih_2 =>
      intro u1_2 u2_2 u3_2 hm_2 i2_1 i2_2 i2_3 i2_4
      refine h2 _ _ _ ?_
      refine ⟨fun c1 => ?_, fun c1 => ?_⟩
      ·
        exact (show 0 ≤ 1 ∧ 1 ≤ 1 from by omega)
      ·
        refine ⟨(show 0 ≤ (u1_2 + u3_2) ∧ (u1_2 + u3_2) < 60000 from by omega), ?_⟩
        intro x3 r_x3 e_x3
        have b_x3 : 0 ≤ x3 ∧ x3 ≤ 255 := by rw [e_x3]; exact hT.2 0 _
        refine ⟨_, K_X12_isLabelCharacter hT, ?_⟩
        intro x5 r_x5 hq
        have q4_1 := hq
        replace q4_1 : 0 ≤ x5 ∧ x5 ≤ 1 := q4_1
        refine ⟨fun c7 => ?_, fun c7 => ?_⟩
        ·
          refine ⟨(⟨by omega, by omega⟩ : rg (u3_2 + 1)), ?_⟩
          exact ih_2 _ _ _ (show (60001 - (u3_2 + 1) : Int) < ((m_2 : Nat) : Int) from by (omega)) (show 0 ≤ u1_2 from by omega) (show u1_2 + u2_2 ≤ 60000 from by omega) (show 0 ≤ (u3_2 + 1) from by omega) (show (u3_2 + 1) ≤ 60000 from by omega)
        ·
          exact (show 0 ≤ 0 ∧ 0 ≤ 1 from by omega)
  exact l_2 ((60001 - 0 : Int).toNat + 1) _ _ _ (show (60001 - 0 : Int) < (((60001 - 0 : Int).toNat + 1 : Nat) : Int) from by (omega)) (show 0 ≤ n1 from by omega) (show n1 + n2 ≤ 60000 from by omega) (show 0 ≤ 0 from by omega) (show 0 ≤ 60000 from by omega)
set_option maxHeartbeats 1000000 in
theorem K_X3_bucket_t1 {n1 : Int} {n2 : Int} {σ : S0} (hT : c_T σ) (p1 : 0 ≤ n1) (p2 : n1 + n2 ≤ 2) : W_X3_bucket_t1 n1 n2 σ (fun (x : Int) => (0 ≤ x ∧ x < 4096) ∧ (x = h_b (t_1) n1 n2)) := by
  intro P5 h5
  have l_5 : ∀ (m_5 : Nat) (u3_5 : Int) (u4_5 : Int), 60001 - u4_5 < (m_5 : Int) → (0 ≤ u4_5) → (u4_5 ≤ 60000) → (u3_5 = h_l (t_1) n1 0 (Int.toNat u4_5)) → (u4_5 ≤ n2 ∨ u4_5 = 0) → P5 n1 n2 u3_5 u4_5 := by
    intro m_5
    induction m_5 with
    | zero =>
      intro u3_5 u4_5 hm i5_1 i5_2 i5_3 i5_4
      exfalso; omega
    | succ m_5 ih_5 =>
      intro u3_5 u4_5 hm_5 i5_1 i5_2 i5_3 i5_4
      refine h5 _ _ _ _ ?_
      refine ⟨fun c1 => ?_, fun c1 => ?_⟩
      ·
        intro x2 r_x2 e_x2
        intro x3 r_x3 e_x3
        exact ⟨(show 0 ≤ (x3 % 4096) ∧ (x3 % 4096) < 4096 from by omega), (show (x3 % 4096) = h_b (t_1) n1 n2 from by (unfold h_b; rw [e_x3, e_x2, i5_3, show n2.toNat = u4_5.toNat from by omega]))⟩
      ·
        refine ⟨(show 0 ≤ (n1 + u4_5) ∧ (n1 + u4_5) < 2 from by omega), ?_⟩
        intro x5 r_x5 e_x5
        have b_x5 : 0 ≤ x5 ∧ x5 ≤ 127 := by rw [e_x5]; exact t_1_b _
        intro x6 r_x6 e_x6
        refine ⟨(⟨by omega, by omega⟩ : rg (u4_5 + 1)), ?_⟩
        exact ih_5 _ _ (show (60001 - (u4_5 + 1) : Int) < ((m_5 : Nat) : Int) from by (omega)) (show 0 ≤ (u4_5 + 1) from by omega) (show (u4_5 + 1) ≤ 60000 from by omega) (show x6 = h_l (t_1) n1 0 (Int.toNat (u4_5 + 1)) from by (first | rfl | (rw [h_l_s _ _ _ (by omega), ← i5_3, ← e_x5, e_x6, Int.mul_comm u3_5 31]))) (show (u4_5 + 1) ≤ n2 ∨ (u4_5 + 1) = 0 from by omega)
  exact l_5 ((60001 - 0 : Int).toNat + 1) _ _ (show (60001 - 0 : Int) < (((60001 - 0 : Int).toNat + 1 : Nat) : Int) from by (omega)) (show 0 ≤ 0 from by omega) (show 0 ≤ 60000 from by omega) (show 0 = h_l (t_1) n1 0 (Int.toNat 0) from by (first | rfl | (rw [h_l_s _ _ _ (by omega), ← i5_3, ← e_x5, e_x6, Int.mul_comm u3_5 31]))) (show 0 ≤ n2 ∨ 0 = 0 from by omega)
set_option maxHeartbeats 1000000 in
theorem K_X3_isName_t1 {n1 : Int} {n3 : Int} {n4 : Int} {σ : S0} (hT : c_T σ) (p1 : 0 ≤ n1) (p2 : n1 < 2500) (p3 : 0 ≤ n3) (p4 : n3 + n4 ≤ 2) : W_X3_isName_t1 n1 n3 n4 σ (fun (x : Int) => (0 ≤ x ∧ x ≤ 1)) := by
  intro P29 h29
  have l_29 : ∀ (m_29 : Nat) (u3_29 : Int) (u4_29 : Int) (u5_29 : Int) (u6_29 : Int), 100000 - u6_29 < (m_29 : Int) → (0 ≤ u3_29) → (u3_29 + u4_29 ≤ 2) → (0 ≤ u5_29) → (u5_29 + u4_29 ≤ 30000) → (0 ≤ u6_29) → (u6_29 ≤ 100000) → P29 u3_29 u4_29 u5_29 u6_29 := by
    intro m_29
    induction m_29 with
    | zero =>
      intro u3_29 u4_29 u5_29 u6_29 hm i29_1 i29_2 i29_3 i29_4 i29_5 i29_6
      exfalso; omega
    | succ m_29 ih_29 =>
      intro u3_29 u4_29 u5_29 u6_29 hm_29 i29_1 i29_2 i29_3 i29_4 i29_5 i29_6
      refine h29 _ _ _ _ ?_
      refine ⟨fun c7 => ?_, fun c7 => ?_⟩
      ·
        exact (show 0 ≤ 1 ∧ 1 ≤ 1 from by omega)
      ·
        refine ⟨(show 0 ≤ (u5_29 + u6_29) ∧ (u5_29 + u6_29) < 30000 from by omega), ?_⟩
        intro x9 r_x9 e_x9
        have b_x9 : 0 ≤ x9 ∧ x9 ≤ 65535 := by rw [e_x9]; exact hT.2 2 _
        refine ⟨(show 0 ≤ (u3_29 + u6_29) ∧ (u3_29 + u6_29) < 2 from by omega), ?_⟩
        intro x11 r_x11 e_x11
        have b_x11 : 0 ≤ x11 ∧ x11 ≤ 127 := by rw [e_x11]; exact t_1_b _
        refine ⟨fun c12 => ?_, fun c12 => ?_⟩
        ·
          refine ⟨(⟨by omega, by omega⟩ : rg (u6_29 + 1)), ?_⟩
          exact ih_29 _ _ _ _ (show (100000 - (u6_29 + 1) : Int) < ((m_29 : Nat) : Int) from by (omega)) (show 0 ≤ u3_29 from by omega) (show u3_29 + u4_29 ≤ 2 from by omega) (show 0 ≤ u5_29 from by omega) (show u5_29 + u4_29 ≤ 30000 from by omega) (show 0 ≤ (u6_29 + 1) from by omega) (show (u6_29 + 1) ≤ 100000 from by omega)
        ·
          exact (show 0 ≤ 0 ∧ 0 ≤ 1 from by omega)
  refine ⟨(show 0 ≤ n1 ∧ n1 < 2501 from by omega), ?_⟩
  intro x2 r_x2 e_x2
  have b_x2 : 0 ≤ x2 ∧ x2 ≤ 30000 := by rw [e_x2]; exact hT.2 3 _
  refine ⟨(show 0 ≤ (n1 + 1) ∧ (n1 + 1) < 2501 from by omega), ?_⟩
  intro x4 r_x4 e_x4
  have b_x4 : 0 ≤ x4 ∧ x4 ≤ 30000 := by rw [e_x4]; exact hT.2 3 _
  refine ⟨(⟨by omega, by omega⟩ : rg (x4 - x2)), ?_⟩
  refine ⟨fun c6 => ?_, fun c6 => ?_⟩
  ·
    exact l_29 ((100000 - 0 : Int).toNat + 1) _ _ _ _ (show (100000 - 0 : Int) < (((100000 - 0 : Int).toNat + 1 : Nat) : Int) from by (omega)) (show 0 ≤ n3 from by omega) (show n3 + n4 ≤ 2 from by omega) (show 0 ≤ x2 from by omega) (show x2 + n4 ≤ 30000 from by omega) (show 0 ≤ 0 from by omega) (show 0 ≤ 100000 from by omega)
  ·
    exact (show 0 ≤ 0 ∧ 0 ≤ 1 from by omega)
set_option maxHeartbeats 1000000 in
theorem K_X3_nameOf_t1 {n2 : Int} {n3 : Int} {σ : S0} (hT : c_T σ) (p1 : 0 ≤ n2) (p2 : n2 + n3 ≤ 2) : W_X3_nameOf_t1 n2 n3 σ (fun (x : Int) => (-1 ≤ x ∧ x ≤ 2499)) := by
  intro P16 h16
  have l_16 : ∀ (m_16 : Nat) (u2_16 : Int) (u3_16 : Int) (u4_16 : Int) (u5_16 : Int), 2500 - u5_16 < (m_16 : Int) → (0 ≤ u2_16) → (u2_16 + u3_16 ≤ 2) → (0 ≤ u4_16) → (u4_16 ≤ 2500) → (0 ≤ u5_16) → (u5_16 ≤ 2500) → P16 u2_16 u3_16 u4_16 u5_16 := by
    intro m_16
    induction m_16 with
    | zero =>
      intro u2_16 u3_16 u4_16 u5_16 hm i16_1 i16_2 i16_3 i16_4 i16_5 i16_6
      exfalso; omega
    | succ m_16 ih_16 =>
      intro u2_16 u3_16 u4_16 u5_16 hm_16 i16_1 i16_2 i16_3 i16_4 i16_5 i16_6
      refine h16 _ _ _ _ ?_
      refine ⟨fun c6 => ?_, fun c6 => ?_⟩
      ·
        exact (show -1 ≤ (-1) ∧ (-1) ≤ 2499 from by omega)
      ·
        refine ⟨fun c7 => ?_, fun c7 => ?_⟩
        ·
          exact (show -1 ≤ (-1) ∧ (-1) ≤ 2499 from by omega)
        ·
          refine ⟨(⟨by omega, by omega⟩ : rg (u4_16 - 1)), ?_⟩
          refine ⟨_, K_X3_isName_t1 hT (show 0 ≤ (u4_16 - 1) from by omega) (show (u4_16 - 1) < 2500 from by omega) (show 0 ≤ u2_16 from by omega) (show u2_16 + u3_16 ≤ 2 from by omega), ?_⟩
          intro x10 r_x10 hq
          have q9_1 := hq
          replace q9_1 : 0 ≤ x10 ∧ x10 ≤ 1 := q9_1
          refine ⟨fun c12 => ?_, fun c12 => ?_⟩
          ·
            refine ⟨(show 0 ≤ (u4_16 - 1) ∧ (u4_16 - 1) < 2500 from by omega), ?_⟩
            intro x14 r_x14 e_x14
            have b_x14 : 0 ≤ x14 ∧ x14 ≤ 2500 := by rw [e_x14]; exact hT.2 5 _
            refine ⟨(⟨by omega, by omega⟩ : rg (u5_16 + 1)), ?_⟩
            exact ih_16 _ _ _ _ (show (2500 - (u5_16 + 1) : Int) < ((m_16 : Nat) : Int) from by (omega)) (show 0 ≤ u2_16 from by omega) (show u2_16 + u3_16 ≤ 2 from by omega) (show 0 ≤ x14 from by omega) (show x14 ≤ 2500 from by omega) (show 0 ≤ (u5_16 + 1) from by omega) (show (u5_16 + 1) ≤ 2500 from by omega)
          ·
            exact (show -1 ≤ (u4_16 - 1) ∧ (u4_16 - 1) ≤ 2499 from by omega)
  refine ⟨_, K_X3_bucket_t1 hT (show 0 ≤ n2 from by omega) (show n2 + n3 ≤ 2 from by omega), ?_⟩
  intro x2 r_x2 hq
  obtain ⟨q1_1, q1_2⟩ := hq
  replace q1_1 : 0 ≤ x2 ∧ x2 < 4096 := q1_1
  replace q1_2 : x2 = h_b (t_1) n2 n3 := q1_2
  refine ⟨(show 0 ≤ x2 ∧ x2 < 4096 from by omega), ?_⟩
  intro x5 r_x5 e_x5
  have b_x5 : 0 ≤ x5 ∧ x5 ≤ 2500 := by rw [e_x5]; exact hT.2 6 _
  exact l_16 ((2500 - 0 : Int).toNat + 1) _ _ _ _ (show (2500 - 0 : Int) < (((2500 - 0 : Int).toNat + 1 : Nat) : Int) from by (omega)) (show 0 ≤ n2 from by omega) (show n2 + n3 ≤ 2 from by omega) (show 0 ≤ x5 from by omega) (show x5 ≤ 2500 from by omega) (show 0 ≤ 0 from by omega) (show 0 ≤ 2500 from by omega)
set_option maxHeartbeats 1000000 in
theorem K_X3_symbolNamed_t1 {n2 : Int} {n3 : Int} {σ : S0} (hT : c_T σ) (p1 : 0 ≤ n2) (p2 : n2 + n3 ≤ 2) : W_X3_symbolNamed_t1 n2 n3 σ (fun (x : Int) => (-1 ≤ x ∧ x ≤ 999)) := by
  unfold W_X3_symbolNamed_t1
  refine ⟨_, K_X3_nameOf_t1 hT (show 0 ≤ n2 from by omega) (show n2 + n3 ≤ 2 from by omega), ?_⟩
  intro x2 r_x2 hq
  have q1_1 := hq
  replace q1_1 : -1 ≤ x2 ∧ x2 ≤ 2499 := q1_1
  refine ⟨_, K_X3_symbolOf hT (show -1 ≤ x2 from by omega) (show x2 < 2500 from by omega), ?_⟩
  intro x5 r_x5 hq
  have q4_1 := hq
  replace q4_1 : -1 ≤ x5 ∧ x5 ≤ 999 := q4_1
  exact (show -1 ≤ x5 ∧ x5 ≤ 999 from by omega)
set_option maxHeartbeats 1000000 in
theorem K_X3_bucket_t2 {n1 : Int} {n2 : Int} {σ : S0} (hT : c_T σ) (p1 : 0 ≤ n1) (p2 : n1 + n2 ≤ 3) : W_X3_bucket_t2 n1 n2 σ (fun (x : Int) => (0 ≤ x ∧ x < 4096) ∧ (x = h_b (t_2) n1 n2)) := by
  intro P5 h5
  have l_5 : ∀ (m_5 : Nat) (u3_5 : Int) (u4_5 : Int), 60001 - u4_5 < (m_5 : Int) → (0 ≤ u4_5) → (u4_5 ≤ 60000) → (u3_5 = h_l (t_2) n1 0 (Int.toNat u4_5)) → (u4_5 ≤ n2 ∨ u4_5 = 0) → P5 n1 n2 u3_5 u4_5 := by
    intro m_5
    induction m_5 with
    | zero =>
      intro u3_5 u4_5 hm i5_1 i5_2 i5_3 i5_4
      exfalso; omega
    | succ m_5 ih_5 =>
      intro u3_5 u4_5 hm_5 i5_1 i5_2 i5_3 i5_4
      refine h5 _ _ _ _ ?_
      refine ⟨fun c1 => ?_, fun c1 => ?_⟩
      ·
        intro x2 r_x2 e_x2
        intro x3 r_x3 e_x3
        exact ⟨(show 0 ≤ (x3 % 4096) ∧ (x3 % 4096) < 4096 from by omega), (show (x3 % 4096) = h_b (t_2) n1 n2 from by (unfold h_b; rw [e_x3, e_x2, i5_3, show n2.toNat = u4_5.toNat from by omega]))⟩
      ·
        refine ⟨(show 0 ≤ (n1 + u4_5) ∧ (n1 + u4_5) < 3 from by omega), ?_⟩
        intro x5 r_x5 e_x5
        have b_x5 : 0 ≤ x5 ∧ x5 ≤ 127 := by rw [e_x5]; exact t_2_b _
        intro x6 r_x6 e_x6
        refine ⟨(⟨by omega, by omega⟩ : rg (u4_5 + 1)), ?_⟩
        exact ih_5 _ _ (show (60001 - (u4_5 + 1) : Int) < ((m_5 : Nat) : Int) from by (omega)) (show 0 ≤ (u4_5 + 1) from by omega) (show (u4_5 + 1) ≤ 60000 from by omega) (show x6 = h_l (t_2) n1 0 (Int.toNat (u4_5 + 1)) from by (first | rfl | (rw [h_l_s _ _ _ (by omega), ← i5_3, ← e_x5, e_x6, Int.mul_comm u3_5 31]))) (show (u4_5 + 1) ≤ n2 ∨ (u4_5 + 1) = 0 from by omega)
  exact l_5 ((60001 - 0 : Int).toNat + 1) _ _ (show (60001 - 0 : Int) < (((60001 - 0 : Int).toNat + 1 : Nat) : Int) from by (omega)) (show 0 ≤ 0 from by omega) (show 0 ≤ 60000 from by omega) (show 0 = h_l (t_2) n1 0 (Int.toNat 0) from by (first | rfl | (rw [h_l_s _ _ _ (by omega), ← i5_3, ← e_x5, e_x6, Int.mul_comm u3_5 31]))) (show 0 ≤ n2 ∨ 0 = 0 from by omega)
set_option maxHeartbeats 1000000 in
theorem K_X3_isName_t2 {n1 : Int} {n3 : Int} {n4 : Int} {σ : S0} (hT : c_T σ) (p1 : 0 ≤ n1) (p2 : n1 < 2500) (p3 : 0 ≤ n3) (p4 : n3 + n4 ≤ 3) : W_X3_isName_t2 n1 n3 n4 σ (fun (x : Int) => (0 ≤ x ∧ x ≤ 1)) := by
  intro P29 h29
  have l_29 : ∀ (m_29 : Nat) (u3_29 : Int) (u4_29 : Int) (u5_29 : Int) (u6_29 : Int), 100000 - u6_29 < (m_29 : Int) → (0 ≤ u3_29) → (u3_29 + u4_29 ≤ 3) → (0 ≤ u5_29) → (u5_29 + u4_29 ≤ 30000) → (0 ≤ u6_29) → (u6_29 ≤ 100000) → P29 u3_29 u4_29 u5_29 u6_29 := by
    intro m_29
    induction m_29 with
    | zero =>
      intro u3_29 u4_29 u5_29 u6_29 hm i29_1 i29_2 i29_3 i29_4 i29_5 i29_6
      exfalso; omega
    | succ m_29 ih_29 =>
      intro u3_29 u4_29 u5_29 u6_29 hm_29 i29_1 i29_2 i29_3 i29_4 i29_5 i29_6
      refine h29 _ _ _ _ ?_
      refine ⟨fun c7 => ?_, fun c7 => ?_⟩
      ·
        exact (show 0 ≤ 1 ∧ 1 ≤ 1 from by omega)
      ·
        refine ⟨(show 0 ≤ (u5_29 + u6_29) ∧ (u5_29 + u6_29) < 30000 from by omega), ?_⟩
        intro x9 r_x9 e_x9
        have b_x9 : 0 ≤ x9 ∧ x9 ≤ 65535 := by rw [e_x9]; exact hT.2 2 _
        refine ⟨(show 0 ≤ (u3_29 + u6_29) ∧ (u3_29 + u6_29) < 3 from by omega), ?_⟩
        intro x11 r_x11 e_x11
        have b_x11 : 0 ≤ x11 ∧ x11 ≤ 127 := by rw [e_x11]; exact t_2_b _
        refine ⟨fun c12 => ?_, fun c12 => ?_⟩
        ·
          refine ⟨(⟨by omega, by omega⟩ : rg (u6_29 + 1)), ?_⟩
          exact ih_29 _ _ _ _ (show (100000 - (u6_29 + 1) : Int) < ((m_29 : Nat) : Int) from by (omega)) (show 0 ≤ u3_29 from by omega) (show u3_29 + u4_29 ≤ 3 from by omega) (show 0 ≤ u5_29 from by omega) (show u5_29 + u4_29 ≤ 30000 from by omega) (show 0 ≤ (u6_29 + 1) from by omega) (show (u6_29 + 1) ≤ 100000 from by omega)
        ·
          exact (show 0 ≤ 0 ∧ 0 ≤ 1 from by omega)
  refine ⟨(show 0 ≤ n1 ∧ n1 < 2501 from by omega), ?_⟩
  intro x2 r_x2 e_x2
  have b_x2 : 0 ≤ x2 ∧ x2 ≤ 30000 := by rw [e_x2]; exact hT.2 3 _
  refine ⟨(show 0 ≤ (n1 + 1) ∧ (n1 + 1) < 2501 from by omega), ?_⟩
  intro x4 r_x4 e_x4
  have b_x4 : 0 ≤ x4 ∧ x4 ≤ 30000 := by rw [e_x4]; exact hT.2 3 _
  refine ⟨(⟨by omega, by omega⟩ : rg (x4 - x2)), ?_⟩
  refine ⟨fun c6 => ?_, fun c6 => ?_⟩
  ·
    exact l_29 ((100000 - 0 : Int).toNat + 1) _ _ _ _ (show (100000 - 0 : Int) < (((100000 - 0 : Int).toNat + 1 : Nat) : Int) from by (omega)) (show 0 ≤ n3 from by omega) (show n3 + n4 ≤ 3 from by omega) (show 0 ≤ x2 from by omega) (show x2 + n4 ≤ 30000 from by omega) (show 0 ≤ 0 from by omega) (show 0 ≤ 100000 from by omega)
  ·
    exact (show 0 ≤ 0 ∧ 0 ≤ 1 from by omega)
set_option maxHeartbeats 1000000 in
theorem K_X3_nameOf_t2 {n2 : Int} {n3 : Int} {σ : S0} (hT : c_T σ) (p1 : 0 ≤ n2) (p2 : n2 + n3 ≤ 3) : W_X3_nameOf_t2 n2 n3 σ (fun (x : Int) => (-1 ≤ x ∧ x ≤ 2499)) := by
  intro P16 h16
  have l_16 : ∀ (m_16 : Nat) (u2_16 : Int) (u3_16 : Int) (u4_16 : Int) (u5_16 : Int), 2500 - u5_16 < (m_16 : Int) → (0 ≤ u2_16) → (u2_16 + u3_16 ≤ 3) → (0 ≤ u4_16) → (u4_16 ≤ 2500) → (0 ≤ u5_16) → (u5_16 ≤ 2500) → P16 u2_16 u3_16 u4_16 u5_16 := by
    intro m_16
    induction m_16 with
    | zero =>
      intro u2_16 u3_16 u4_16 u5_16 hm i16_1 i16_2 i16_3 i16_4 i16_5 i16_6
      exfalso; omega
    | succ m_16 ih_16 =>
      intro u2_16 u3_16 u4_16 u5_16 hm_16 i16_1 i16_2 i16_3 i16_4 i16_5 i16_6
      refine h16 _ _ _ _ ?_
      refine ⟨fun c6 => ?_, fun c6 => ?_⟩
      ·
        exact (show -1 ≤ (-1) ∧ (-1) ≤ 2499 from by omega)
      ·
        refine ⟨fun c7 => ?_, fun c7 => ?_⟩
        ·
          exact (show -1 ≤ (-1) ∧ (-1) ≤ 2499 from by omega)
        ·
          refine ⟨(⟨by omega, by omega⟩ : rg (u4_16 - 1)), ?_⟩
          refine ⟨_, K_X3_isName_t2 hT (show 0 ≤ (u4_16 - 1) from by omega) (show (u4_16 - 1) < 2500 from by omega) (show 0 ≤ u2_16 from by omega) (show u2_16 + u3_16 ≤ 3 from by omega), ?_⟩
          intro x10 r_x10 hq
          have q9_1 := hq
          replace q9_1 : 0 ≤ x10 ∧ x10 ≤ 1 := q9_1
          refine ⟨fun c12 => ?_, fun c12 => ?_⟩
          ·
            refine ⟨(show 0 ≤ (u4_16 - 1) ∧ (u4_16 - 1) < 2500 from by omega), ?_⟩
            intro x14 r_x14 e_x14
            have b_x14 : 0 ≤ x14 ∧ x14 ≤ 2500 := by rw [e_x14]; exact hT.2 5 _
            refine ⟨(⟨by omega, by omega⟩ : rg (u5_16 + 1)), ?_⟩
            exact ih_16 _ _ _ _ (show (2500 - (u5_16 + 1) : Int) < ((m_16 : Nat) : Int) from by (omega)) (show 0 ≤ u2_16 from by omega) (show u2_16 + u3_16 ≤ 3 from by omega) (show 0 ≤ x14 from by omega) (show x14 ≤ 2500 from by omega) (show 0 ≤ (u5_16 + 1) from by omega) (show (u5_16 + 1) ≤ 2500 from by omega)
          ·
            exact (show -1 ≤ (u4_16 - 1) ∧ (u4_16 - 1) ≤ 2499 from by omega)
  refine ⟨_, K_X3_bucket_t2 hT (show 0 ≤ n2 from by omega) (show n2 + n3 ≤ 3 from by omega), ?_⟩
  intro x2 r_x2 hq
  obtain ⟨q1_1, q1_2⟩ := hq
  replace q1_1 : 0 ≤ x2 ∧ x2 < 4096 := q1_1
  replace q1_2 : x2 = h_b (t_2) n2 n3 := q1_2
  refine ⟨(show 0 ≤ x2 ∧ x2 < 4096 from by omega), ?_⟩
  intro x5 r_x5 e_x5
  have b_x5 : 0 ≤ x5 ∧ x5 ≤ 2500 := by rw [e_x5]; exact hT.2 6 _
  exact l_16 ((2500 - 0 : Int).toNat + 1) _ _ _ _ (show (2500 - 0 : Int) < (((2500 - 0 : Int).toNat + 1 : Nat) : Int) from by (omega)) (show 0 ≤ n2 from by omega) (show n2 + n3 ≤ 3 from by omega) (show 0 ≤ x5 from by omega) (show x5 ≤ 2500 from by omega) (show 0 ≤ 0 from by omega) (show 0 ≤ 2500 from by omega)
set_option maxHeartbeats 1000000 in
theorem K_X3_symbolNamed_t2 {n2 : Int} {n3 : Int} {σ : S0} (hT : c_T σ) (p1 : 0 ≤ n2) (p2 : n2 + n3 ≤ 3) : W_X3_symbolNamed_t2 n2 n3 σ (fun (x : Int) => (-1 ≤ x ∧ x ≤ 999)) := by
  unfold W_X3_symbolNamed_t2
  refine ⟨_, K_X3_nameOf_t2 hT (show 0 ≤ n2 from by omega) (show n2 + n3 ≤ 3 from by omega), ?_⟩
  intro x2 r_x2 hq
  have q1_1 := hq
  replace q1_1 : -1 ≤ x2 ∧ x2 ≤ 2499 := q1_1
  refine ⟨_, K_X3_symbolOf hT (show -1 ≤ x2 from by omega) (show x2 < 2500 from by omega), ?_⟩
  intro x5 r_x5 hq
  have q4_1 := hq
  replace q4_1 : -1 ≤ x5 ∧ x5 ≤ 999 := q4_1
  exact (show -1 ≤ x5 ∧ x5 ≤ 999 from by omega)
set_option maxHeartbeats 1000000 in
theorem K_X12_putFour {n1 : Int} {σ : S0} (hT : c_T σ) (p1 : (σ.1 0) + 4 ≤ 60000) : W_X12_putFour n1 σ (fun (τ : S0) => (c_T τ) ∧ ((τ.1 0) = (σ.1 0) + 4)) := by
  have v0 : 0 ≤ σ.1 0 ∧ σ.1 0 ≤ 60000 := hT.1 0
  intro P3 h3
  have l_3 : ∀ (m_3 : Nat) (u1_3 : Int) (u2_3 : Int) (τ_3 : S0), u2_3 + 8 < (m_3 : Int) → (c_T τ_3) → (u2_3 ≤ 24) → (-8 ≤ u2_3) → ((τ_3.1 0) + (u2_3 + 8) / 8 = (σ.1 0) + 4) → (u2_3 % 8 = 0) → P3 u1_3 u2_3 τ_3 := by
    intro m_3
    induction m_3 with
    | zero =>
      intro u1_3 u2_3 τ_3 hm hT i3_1 i3_2 i3_3 i3_4
      have v0 : 0 ≤ τ_3.1 0 ∧ τ_3.1 0 ≤ 60000 := hT.1 0
      exfalso; omega
    | succ m_3 ih_3 =>
      intro u1_3 u2_3 τ_3 hm_3 hT i3_1 i3_2 i3_3 i3_4
      have v0 : 0 ≤ τ_3.1 0 ∧ τ_3.1 0 ≤ 60000 := hT.1 0
      refine h3 _ _ _ ?_
      refine ⟨fun c1 => ?_, fun c1 => ?_⟩
      ·
        exact ⟨hT, (show (τ_3.1 0) = (σ.1 0) + 4 from by omega)⟩
      ·
        intro x2 r_x2
        intro x3 h0_x3 h1_x3 e_x3
        refine ⟨(show 0 ≤ τ_3.1 0 ∧ τ_3.1 0 < 60000 from by omega), ?_⟩
        replace hT := cT_a (k := 0) (j := (τ_3.1 0)) hT (show (0 : Int) ≤ x3 ∧ x3 ≤ 255 from by omega)
        refine ⟨(⟨by omega, by omega⟩ : rg (τ_3.1 0 + 1)), ?_⟩
        replace hT := cT_v (i := 0) hT (show 0 ≤ (τ_3.1 0 + 1) ∧ (τ_3.1 0 + 1) ≤ 60000 from by omega)
        refine ⟨(⟨by omega, by omega⟩ : rg (u2_3 + (-8))), ?_⟩
        exact ih_3 _ _ _ (show ((u2_3 + (-8)) + 8 : Int) < ((m_3 : Nat) : Int) from by (omega)) hT (show (u2_3 + (-8)) ≤ 24 from by omega) (show -8 ≤ (u2_3 + (-8)) from by omega) (show ((τ_3.1 0 + 1)) + ((u2_3 + (-8)) + 8) / 8 = (σ.1 0) + 4 from by omega) (show (u2_3 + (-8)) % 8 = 0 from by omega)
  exact l_3 ((24 + 8 : Int).toNat + 1) _ _ _ (show (24 + 8 : Int) < (((24 + 8 : Int).toNat + 1 : Nat) : Int) from by (omega)) hT (show 24 ≤ 24 from by omega) (show -8 ≤ 24 from by omega) (show (σ.1 0) + (24 + 8) / 8 = (σ.1 0) + 4 from by omega) (show 24 % 8 = 0 from by omega)
set_option maxHeartbeats 1000000 in
theorem K_X12_feed {n1 : Int} {n2 : Int} {n3 : Int} {n4 : Int} {n5 : Int} {σ : S0} (hT : c_T σ) : W_X12_feed n1 n2 n3 n4 n5 σ (fun (x : Int) (τ : S0) => (c_T τ) ∧ (x = -2 ∨ x = (σ.1 0) + 20) ∧ ((σ.1 0) + 20 ≤ 60000 → x = (σ.1 0) + 20) ∧ (60000 < (σ.1 0) + 20 → x = -2 ∧ (τ.1 1) = 0 ∧ (τ.1 0) = (σ.1 0)) ∧ (¬ x = -2 → (τ.1 1) = 1 ∧ (τ.1 0) = x ∧ 20 ≤ x)) := by
  have v0 : 0 ≤ σ.1 0 ∧ σ.1 0 ≤ 60000 := hT.1 0
  have v1 : 0 ≤ σ.1 1 ∧ σ.1 1 ≤ 1 := hT.1 1
  intro P18 h18
  refine ⟨(⟨by omega, by omega⟩ : rg (σ.1 0 + 20)), ?_⟩
  refine ⟨fun c2 => ?_, fun c2 => ?_⟩
  ·
    refine h18 _ _ _ _ _ _ _ ?_
    refine ⟨(show 0 ≤ 0 ∧ 0 ≤ 1 from by omega), ?_⟩
    replace hT := cT_v (i := 1) hT (show (0 : Int) ≤ 0 ∧ 0 ≤ 1 from by omega)
    refine ⟨fun c4 => ?_, fun c4 => ?_⟩
    ·
      refine ⟨_, K_X12_putFour hT (show (σ.1 0) + 4 ≤ 60000 from by omega), ?_⟩
      intro τ7 hn_τ7 hf_τ7 hq
      obtain ⟨hT, q5_1⟩ := hq
      replace q5_1 : (τ7.1 0) = (σ.1 0) + 4 := q5_1
      have w1_τ7 : τ7.1 1 = 0 := hf_τ7.1 1 (by decide)
      have v0 : 0 ≤ τ7.1 0 ∧ τ7.1 0 ≤ 60000 := hT.1 0
      have v1 : 0 ≤ τ7.1 1 ∧ τ7.1 1 ≤ 1 := hT.1 1
      refine ⟨_, K_X12_putFour hT (show (τ7.1 0) + 4 ≤ 60000 from by omega), ?_⟩
      intro τ10 hn_τ10 hf_τ10 hq
      obtain ⟨hT, q8_1⟩ := hq
      replace q8_1 : (τ10.1 0) = (τ7.1 0) + 4 := q8_1
      have w1_τ10 : τ10.1 1 = τ7.1 1 := hf_τ10.1 1 (by decide)
      have v0 : 0 ≤ τ10.1 0 ∧ τ10.1 0 ≤ 60000 := hT.1 0
      have v1 : 0 ≤ τ10.1 1 ∧ τ10.1 1 ≤ 1 := hT.1 1
      refine ⟨_, K_X12_putFour hT (show (τ10.1 0) + 4 ≤ 60000 from by omega), ?_⟩
      intro τ13 hn_τ13 hf_τ13 hq
      obtain ⟨hT, q11_1⟩ := hq
      replace q11_1 : (τ13.1 0) = (τ10.1 0) + 4 := q11_1
      have w1_τ13 : τ13.1 1 = τ10.1 1 := hf_τ13.1 1 (by decide)
      have v0 : 0 ≤ τ13.1 0 ∧ τ13.1 0 ≤ 60000 := hT.1 0
      have v1 : 0 ≤ τ13.1 1 ∧ τ13.1 1 ≤ 1 := hT.1 1
      refine ⟨_, K_X12_putFour hT (show (τ13.1 0) + 4 ≤ 60000 from by omega), ?_⟩
      intro τ16 hn_τ16 hf_τ16 hq
      obtain ⟨hT, q14_1⟩ := hq
      replace q14_1 : (τ16.1 0) = (τ13.1 0) + 4 := q14_1
      have w1_τ16 : τ16.1 1 = τ13.1 1 := hf_τ16.1 1 (by decide)
      have v0 : 0 ≤ τ16.1 0 ∧ τ16.1 0 ≤ 60000 := hT.1 0
      have v1 : 0 ≤ τ16.1 1 ∧ τ16.1 1 ≤ 1 := hT.1 1
      refine ⟨_, K_X12_putFour hT (show (τ16.1 0) + 4 ≤ 60000 from by omega), ?_⟩
      intro τ19 hn_τ19 hf_τ19 hq
      obtain ⟨hT, q17_1⟩ := hq
      replace q17_1 : (τ19.1 0) = (τ16.1 0) + 4 := q17_1
      have w1_τ19 : τ19.1 1 = τ16.1 1 := hf_τ19.1 1 (by decide)
      have v0 : 0 ≤ τ19.1 0 ∧ τ19.1 0 ≤ 60000 := hT.1 0
      have v1 : 0 ≤ τ19.1 1 ∧ τ19.1 1 ≤ 1 := hT.1 1
      exact ⟨hT, (show (τ19.1 0) = -2 ∨ (τ19.1 0) = (σ.1 0) + 20 from by omega), (show (σ.1 0) + 20 ≤ 60000 → (τ19.1 0) = (σ.1 0) + 20 from by omega), (show 60000 < (σ.1 0) + 20 → (τ19.1 0) = -2 ∧ (τ19.1 1) = 0 ∧ (τ19.1 0) = (σ.1 0) from by omega), (show ¬ (τ19.1 0) = -2 → (τ19.1 1) = 1 ∧ (τ19.1 0) = (τ19.1 0) ∧ 20 ≤ (τ19.1 0) from by omega)⟩
    ·
      exact ⟨hT, (show (-2) = -2 ∨ (-2) = (σ.1 0) + 20 from by omega), (show (σ.1 0) + 20 ≤ 60000 → (-2) = (σ.1 0) + 20 from by omega), (show 60000 < (σ.1 0) + 20 → (-2) = -2 ∧ (0) = 0 ∧ (σ.1 0) = (σ.1 0) from by omega), (show ¬ (-2) = -2 → (0) = 1 ∧ (σ.1 0) = (-2) ∧ 20 ≤ (-2) from by omega)⟩
  ·
    refine h18 _ _ _ _ _ _ _ ?_
    refine ⟨(show 0 ≤ 1 ∧ 1 ≤ 1 from by omega), ?_⟩
    replace hT := cT_v (i := 1) hT (show (0 : Int) ≤ 1 ∧ 1 ≤ 1 from by omega)
    refine ⟨fun c4 => ?_, fun c4 => ?_⟩
    ·
      refine ⟨_, K_X12_putFour hT (show (σ.1 0) + 4 ≤ 60000 from by omega), ?_⟩
      intro τ7 hn_τ7 hf_τ7 hq
      obtain ⟨hT, q5_1⟩ := hq
      replace q5_1 : (τ7.1 0) = (σ.1 0) + 4 := q5_1
      have w1_τ7 : τ7.1 1 = 1 := hf_τ7.1 1 (by decide)
      have v0 : 0 ≤ τ7.1 0 ∧ τ7.1 0 ≤ 60000 := hT.1 0
      have v1 : 0 ≤ τ7.1 1 ∧ τ7.1 1 ≤ 1 := hT.1 1
      refine ⟨_, K_X12_putFour hT (show (τ7.1 0) + 4 ≤ 60000 from by omega), ?_⟩
      intro τ10 hn_τ10 hf_τ10 hq
      obtain ⟨hT, q8_1⟩ := hq
      replace q8_1 : (τ10.1 0) = (τ7.1 0) + 4 := q8_1
      have w1_τ10 : τ10.1 1 = τ7.1 1 := hf_τ10.1 1 (by decide)
      have v0 : 0 ≤ τ10.1 0 ∧ τ10.1 0 ≤ 60000 := hT.1 0
      have v1 : 0 ≤ τ10.1 1 ∧ τ10.1 1 ≤ 1 := hT.1 1
      refine ⟨_, K_X12_putFour hT (show (τ10.1 0) + 4 ≤ 60000 from by omega), ?_⟩
      intro τ13 hn_τ13 hf_τ13 hq
      obtain ⟨hT, q11_1⟩ := hq
      replace q11_1 : (τ13.1 0) = (τ10.1 0) + 4 := q11_1
      have w1_τ13 : τ13.1 1 = τ10.1 1 := hf_τ13.1 1 (by decide)
      have v0 : 0 ≤ τ13.1 0 ∧ τ13.1 0 ≤ 60000 := hT.1 0
      have v1 : 0 ≤ τ13.1 1 ∧ τ13.1 1 ≤ 1 := hT.1 1
      refine ⟨_, K_X12_putFour hT (show (τ13.1 0) + 4 ≤ 60000 from by omega), ?_⟩
      intro τ16 hn_τ16 hf_τ16 hq
      obtain ⟨hT, q14_1⟩ := hq
      replace q14_1 : (τ16.1 0) = (τ13.1 0) + 4 := q14_1
      have w1_τ16 : τ16.1 1 = τ13.1 1 := hf_τ16.1 1 (by decide)
      have v0 : 0 ≤ τ16.1 0 ∧ τ16.1 0 ≤ 60000 := hT.1 0
      have v1 : 0 ≤ τ16.1 1 ∧ τ16.1 1 ≤ 1 := hT.1 1
      refine ⟨_, K_X12_putFour hT (show (τ16.1 0) + 4 ≤ 60000 from by omega), ?_⟩
      intro τ19 hn_τ19 hf_τ19 hq
      obtain ⟨hT, q17_1⟩ := hq
      replace q17_1 : (τ19.1 0) = (τ16.1 0) + 4 := q17_1
      have w1_τ19 : τ19.1 1 = τ16.1 1 := hf_τ19.1 1 (by decide)
      have v0 : 0 ≤ τ19.1 0 ∧ τ19.1 0 ≤ 60000 := hT.1 0
      have v1 : 0 ≤ τ19.1 1 ∧ τ19.1 1 ≤ 1 := hT.1 1
      exact ⟨hT, (show (τ19.1 0) = -2 ∨ (τ19.1 0) = (σ.1 0) + 20 from by omega), (show (σ.1 0) + 20 ≤ 60000 → (τ19.1 0) = (σ.1 0) + 20 from by omega), (show 60000 < (σ.1 0) + 20 → (τ19.1 0) = -2 ∧ (τ19.1 1) = 0 ∧ (τ19.1 0) = (σ.1 0) from by omega), (show ¬ (τ19.1 0) = -2 → (τ19.1 1) = 1 ∧ (τ19.1 0) = (τ19.1 0) ∧ 20 ≤ (τ19.1 0) from by omega)⟩
    ·
      exact ⟨hT, (show (-2) = -2 ∨ (-2) = (σ.1 0) + 20 from by omega), (show (σ.1 0) + 20 ≤ 60000 → (-2) = (σ.1 0) + 20 from by omega), (show 60000 < (σ.1 0) + 20 → (-2) = -2 ∧ (1) = 0 ∧ (σ.1 0) = (σ.1 0) from by omega), (show ¬ (-2) = -2 → (1) = 1 ∧ (σ.1 0) = (-2) ∧ 20 ≤ (-2) from by omega)⟩
set_option maxHeartbeats 1000000 in
theorem K_X12_end {n1 : Int} {σ : S0} (hT : c_T σ) (p1 : ¬ (σ.1 1) = 0 → 20 ≤ (σ.1 0)) : W_X12_end n1 σ (fun (x : Int) (τ : S0) => (c_T τ) ∧ (x = -1 ∨ x = (σ.1 0) - 20 + n1) ∧ (¬ (τ.1 1) = 0 → 20 ≤ (τ.1 0)) ∧ ((σ.1 1) = 0 → x = -1) ∧ (¬ (σ.1 1) = 0 → 0 ≤ n1 → n1 < 20 → x = (σ.1 0) - 20 + n1 ∧ (τ.1 1) = 0 ∧ (τ.1 0) = x) ∧ (n1 < 0 ∨ 20 ≤ n1 → x = -1) ∧ (x = -1 → (τ.1 1) = (σ.1 1) ∧ (τ.1 0) = (σ.1 0))) := by
  have v0 : 0 ≤ σ.1 0 ∧ σ.1 0 ≤ 60000 := hT.1 0
  have v1 : 0 ≤ σ.1 1 ∧ σ.1 1 ≤ 1 := hT.1 1
  unfold W_X12_end
  refine ⟨fun c1 => ?_, fun c1 => ?_⟩
  ·
    exact ⟨hT, (show (-1) = -1 ∨ (-1) = (σ.1 0) - 20 + n1 from by omega), (show ¬ (σ.1 1) = 0 → 20 ≤ (σ.1 0) from by omega), (show (σ.1 1) = 0 → (-1) = -1 from by omega), (show ¬ (σ.1 1) = 0 → 0 ≤ n1 → n1 < 20 → (-1) = (σ.1 0) - 20 + n1 ∧ (σ.1 1) = 0 ∧ (σ.1 0) = (-1) from by omega), (show n1 < 0 ∨ 20 ≤ n1 → (-1) = -1 from by omega), (show (-1) = -1 → (σ.1 1) = (σ.1 1) ∧ (σ.1 0) = (σ.1 0) from by omega)⟩
  ·
    refine ⟨fun c2 => ?_, fun c2 => ?_⟩
    ·
      exact ⟨hT, (show (-1) = -1 ∨ (-1) = (σ.1 0) - 20 + n1 from by omega), (show ¬ (σ.1 1) = 0 → 20 ≤ (σ.1 0) from by omega), (show (σ.1 1) = 0 → (-1) = -1 from by omega), (show ¬ (σ.1 1) = 0 → 0 ≤ n1 → n1 < 20 → (-1) = (σ.1 0) - 20 + n1 ∧ (σ.1 1) = 0 ∧ (σ.1 0) = (-1) from by omega), (show n1 < 0 ∨ 20 ≤ n1 → (-1) = -1 from by omega), (show (-1) = -1 → (σ.1 1) = (σ.1 1) ∧ (σ.1 0) = (σ.1 0) from by omega)⟩
    ·
      refine ⟨fun c3 => ?_, fun c3 => ?_⟩
      ·
        replace hT := cT_v (i := 1) hT (show (0 : Int) ≤ 0 ∧ 0 ≤ 1 from by omega)
        refine ⟨(⟨by omega, by omega⟩ : rg (σ.1 0 - (20 - n1))), ?_⟩
        replace hT := cT_v (i := 0) hT (show 0 ≤ (σ.1 0 - (20 - n1)) ∧ (σ.1 0 - (20 - n1)) ≤ 60000 from by omega)
        exact ⟨hT, (show (σ.1 0 - (20 - n1)) = -1 ∨ (σ.1 0 - (20 - n1)) = (σ.1 0) - 20 + n1 from by omega), (show ¬ ((0 : Int)) = 0 → 20 ≤ ((σ.1 0 - (20 - n1))) from by omega), (show (σ.1 1) = 0 → (σ.1 0 - (20 - n1)) = -1 from by omega), (show ¬ (σ.1 1) = 0 → 0 ≤ n1 → n1 < 20 → (σ.1 0 - (20 - n1)) = (σ.1 0) - 20 + n1 ∧ ((0 : Int)) = 0 ∧ ((σ.1 0 - (20 - n1))) = (σ.1 0 - (20 - n1)) from by omega), (show n1 < 0 ∨ 20 ≤ n1 → (σ.1 0 - (20 - n1)) = -1 from by omega), (show (σ.1 0 - (20 - n1)) = -1 → ((0 : Int)) = (σ.1 1) ∧ ((σ.1 0 - (20 - n1))) = (σ.1 0) from by omega)⟩
      ·
        exact ⟨hT, (show (-1) = -1 ∨ (-1) = (σ.1 0) - 20 + n1 from by omega), (show ¬ (σ.1 1) = 0 → 20 ≤ (σ.1 0) from by omega), (show (σ.1 1) = 0 → (-1) = -1 from by omega), (show ¬ (σ.1 1) = 0 → 0 ≤ n1 → n1 < 20 → (-1) = (σ.1 0) - 20 + n1 ∧ (σ.1 1) = 0 ∧ (σ.1 0) = (-1) from by omega), (show n1 < 0 ∨ 20 ≤ n1 → (-1) = -1 from by omega), (show (-1) = -1 → (σ.1 1) = (σ.1 1) ∧ (σ.1 0) = (σ.1 0) from by omega)⟩
set_option maxHeartbeats 1000000 in
theorem K_X12_isBlank {n0 : Int} {σ : S0} (hT : c_T σ) : W_X12_isBlank n0 σ (fun (x : Int) => (0 ≤ x ∧ x ≤ 1)) := by
  unfold W_X12_isBlank
  refine ⟨fun c1 => ?_, fun c1 => ?_⟩
  ·
    exact (show 0 ≤ 1 ∧ 1 ≤ 1 from by omega)
  ·
    refine ⟨fun c2 => ?_, fun c2 => ?_⟩
    ·
      exact (show 0 ≤ 1 ∧ 1 ≤ 1 from by omega)
    ·
      refine ⟨fun c3 => ?_, fun c3 => ?_⟩
      ·
        exact (show 0 ≤ 1 ∧ 1 ≤ 1 from by omega)
      ·
        refine ⟨fun c4 => ?_, fun c4 => ?_⟩
        ·
          exact (show 0 ≤ 1 ∧ 1 ≤ 1 from by omega)
        ·
          refine ⟨fun c5 => ?_, fun c5 => ?_⟩
          ·
            exact (show 0 ≤ 0 ∧ 0 ≤ 1 from by omega)
          ·
            exact (show 0 ≤ 1 ∧ 1 ≤ 1 from by omega)
set_option maxHeartbeats 1000000 in
theorem K_X12_skipBlanks_q13 {n1 : Int} {n2 : Int} {σ : S0} (hT : c_T σ) (p1 : 0 ≤ n1) (p2 : n2 ≤ 60000) : W_X12_skipBlanks_q13 n1 n2 σ (fun (x : Int) => (n1 ≤ x ∧ (x ≤ n2 ∨ x = n1))) := by
  intro P2 h2
  have l_2 : ∀ (m_2 : Nat) (u2_2 : Int) (u3_2 : Int), 60001 - u3_2 + n1 < (m_2 : Int) → (n1 ≤ u3_2) → (u3_2 ≤ u2_2 ∨ u3_2 = n1) → (u2_2 = n2) → (0 ≤ u3_2) → P2 u2_2 u3_2 := by
    intro m_2
    induction m_2 with
    | zero =>
      intro u2_2 u3_2 hm i2_1 i2_2 i2_3 i2_4
      exfalso; omega
    | succ m_2 ih_2 =>
      intro u2_2 u3_2 hm_2 i2_1 i2_2 i2_3 i2_4
      refine h2 _ _ ?_
      refine ⟨fun c1 => ?_, fun c1 => ?_⟩
      ·
        exact (show n1 ≤ u3_2 ∧ (u3_2 ≤ n2 ∨ u3_2 = n1) from by omega)
      ·
        refine ⟨(show 0 ≤ u3_2 ∧ u3_2 < 60000 from by omega), ?_⟩
        intro x3 r_x3 e_x3
        have b_x3 : 0 ≤ x3 ∧ x3 ≤ 255 := by rw [e_x3]; exact hT.2 0 _
        refine ⟨_, K_X12_isBlank hT, ?_⟩
        intro x5 r_x5 hq
        have q4_1 := hq
        replace q4_1 : 0 ≤ x5 ∧ x5 ≤ 1 := q4_1
        refine ⟨fun c7 => ?_, fun c7 => ?_⟩
        ·
          exact (show n1 ≤ u3_2 ∧ (u3_2 ≤ n2 ∨ u3_2 = n1) from by omega)
        ·
          refine ⟨(⟨by omega, by omega⟩ : rg (u3_2 + 1)), ?_⟩
          exact ih_2 _ _ (show (60001 - (u3_2 + 1) + n1 : Int) < ((m_2 : Nat) : Int) from by (omega)) (show n1 ≤ (u3_2 + 1) from by omega) (show (u3_2 + 1) ≤ u2_2 ∨ (u3_2 + 1) = n1 from by omega) (show u2_2 = n2 from by omega) (show 0 ≤ (u3_2 + 1) from by omega)
  exact l_2 ((60001 - n1 + n1 : Int).toNat + 1) _ _ (show (60001 - n1 + n1 : Int) < (((60001 - n1 + n1 : Int).toNat + 1 : Nat) : Int) from by (omega)) (show n1 ≤ n1 from by omega) (show n1 ≤ n2 ∨ n1 = n1 from by omega) (show n2 = n2 from by omega) (show 0 ≤ n1 from by omega)
set_option maxHeartbeats 1000000 in
theorem K_X12_isVisible {n0 : Int} {σ : S0} (hT : c_T σ) : W_X12_isVisible n0 σ (fun (x : Int) => (0 ≤ x ∧ x ≤ 1)) := by
  unfold W_X12_isVisible
  refine ⟨fun c1 => ?_, fun c1 => ?_⟩
  ·
    exact (show 0 ≤ 0 ∧ 0 ≤ 1 from by omega)
  ·
    refine ⟨fun c2 => ?_, fun c2 => ?_⟩
    ·
      exact (show 0 ≤ 0 ∧ 0 ≤ 1 from by omega)
    ·
      exact (show 0 ≤ 1 ∧ 1 ≤ 1 from by omega)
set_option maxHeartbeats 1000000 in
theorem K_X12_tokenEnd_q13 {n1 : Int} {n2 : Int} {σ : S0} (hT : c_T σ) (p1 : 0 ≤ n1) (p2 : n2 ≤ 60000) : W_X12_tokenEnd_q13 n1 n2 σ (fun (x : Int) => (n1 ≤ x ∧ (x ≤ n2 ∨ x = n1))) := by
  intro P2 h2
  have l_2 : ∀ (m_2 : Nat) (u2_2 : Int) (u3_2 : Int), 60001 - u3_2 + n1 < (m_2 : Int) → (n1 ≤ u3_2) → (u3_2 ≤ u2_2 ∨ u3_2 = n1) → (u2_2 = n2) → (0 ≤ u3_2) → P2 u2_2 u3_2 := by
    intro m_2
    induction m_2 with
    | zero =>
      intro u2_2 u3_2 hm i2_1 i2_2 i2_3 i2_4
      exfalso; omega
    | succ m_2 ih_2 =>
      intro u2_2 u3_2 hm_2 i2_1 i2_2 i2_3 i2_4
      refine h2 _ _ ?_
      refine ⟨fun c1 => ?_, fun c1 => ?_⟩
      ·
        exact (show n1 ≤ u3_2 ∧ (u3_2 ≤ n2 ∨ u3_2 = n1) from by omega)
      ·
        refine ⟨(show 0 ≤ u3_2 ∧ u3_2 < 60000 from by omega), ?_⟩
        intro x3 r_x3 e_x3
        have b_x3 : 0 ≤ x3 ∧ x3 ≤ 255 := by rw [e_x3]; exact hT.2 0 _
        refine ⟨_, K_X12_isVisible hT, ?_⟩
        intro x5 r_x5 hq
        have q4_1 := hq
        replace q4_1 : 0 ≤ x5 ∧ x5 ≤ 1 := q4_1
        refine ⟨fun c7 => ?_, fun c7 => ?_⟩
        ·
          exact (show n1 ≤ u3_2 ∧ (u3_2 ≤ n2 ∨ u3_2 = n1) from by omega)
        ·
          refine ⟨(⟨by omega, by omega⟩ : rg (u3_2 + 1)), ?_⟩
          exact ih_2 _ _ (show (60001 - (u3_2 + 1) + n1 : Int) < ((m_2 : Nat) : Int) from by (omega)) (show n1 ≤ (u3_2 + 1) from by omega) (show (u3_2 + 1) ≤ u2_2 ∨ (u3_2 + 1) = n1 from by omega) (show u2_2 = n2 from by omega) (show 0 ≤ (u3_2 + 1) from by omega)
  exact l_2 ((60001 - n1 + n1 : Int).toNat + 1) _ _ (show (60001 - n1 + n1 : Int) < (((60001 - n1 + n1 : Int).toNat + 1 : Nat) : Int) from by (omega)) (show n1 ≤ n1 from by omega) (show n1 ≤ n2 ∨ n1 = n1 from by omega) (show n2 = n2 from by omega) (show 0 ≤ n1 from by omega)
set_option maxHeartbeats 1000000 in
theorem K_X12_useTape {σ : S0} (hT : c_T σ) : W_X12_useTape σ (fun (τ : S0) => (c_T τ) ∧ ((τ.1 0) = 0) ∧ ((τ.1 1) = 0)) := by
  have v0 : 0 ≤ σ.1 0 ∧ σ.1 0 ≤ 60000 := hT.1 0
  have v1 : 0 ≤ σ.1 1 ∧ σ.1 1 ≤ 1 := hT.1 1
  unfold W_X12_useTape
  replace hT := cT_v (i := 0) hT (show (0 : Int) ≤ 0 ∧ 0 ≤ 60000 from by omega)
  replace hT := cT_v (i := 1) hT (show (0 : Int) ≤ 0 ∧ 0 ≤ 1 from by omega)
  exact ⟨hT, (show ((0 : Int)) = 0 from by omega), (show ((0 : Int)) = 0 from by omega)⟩
set_option maxHeartbeats 1000000 in
theorem K_X12_place {σ : S0} (hT : c_T σ) : W_X12_place σ (fun (x : Int) => True) := by
  have v2 : (-1) ≤ σ.1 2 ∧ σ.1 2 ≤ 60000 := hT.1 2
  unfold W_X12_place
  exact trivial
set_option maxHeartbeats 1000000 in
theorem K_X3_symbolNamed_q13 {n2 : Int} {n3 : Int} {σ : S0} (hT : c_T σ) (p1 : 0 ≤ n2) (p2 : n2 + n3 ≤ 60000) : W_X3_symbolNamed_q13 n2 n3 σ (fun (x : Int) => (-1 ≤ x ∧ x ≤ 999)) := by
  unfold W_X3_symbolNamed_q13
  refine ⟨_, K_X3_nameOf_q13 hT (show 0 ≤ n2 from by omega) (show n2 + n3 ≤ 60000 from by omega), ?_⟩
  intro x2 r_x2 hq
  have q1_1 := hq
  replace q1_1 : -1 ≤ x2 ∧ x2 ≤ 2499 := q1_1
  refine ⟨_, K_X3_symbolOf hT (show -1 ≤ x2 from by omega) (show x2 < 2500 from by omega), ?_⟩
  intro x5 r_x5 hq
  have q4_1 := hq
  replace q4_1 : -1 ≤ x5 ∧ x5 ≤ 999 := q4_1
  exact (show -1 ≤ x5 ∧ x5 ≤ 999 from by omega)
set_option maxHeartbeats 1000000 in
theorem K_X3_statementNamed_q13 {n2 : Int} {n3 : Int} {σ : S0} (hT : c_T σ) (p1 : 0 ≤ n2) (p2 : n2 + n3 ≤ 60000) : W_X3_statementNamed_q13 n2 n3 σ (fun (x : Int) => (-1 ≤ x ∧ x ≤ 1499)) := by
  unfold W_X3_statementNamed_q13
  refine ⟨_, K_X3_nameOf_q13 hT (show 0 ≤ n2 from by omega) (show n2 + n3 ≤ 60000 from by omega), ?_⟩
  intro x2 r_x2 hq
  have q1_1 := hq
  replace q1_1 : -1 ≤ x2 ∧ x2 ≤ 2499 := q1_1
  refine ⟨_, K_X3_statementOf hT (show -1 ≤ x2 from by omega) (show x2 < 2500 from by omega), ?_⟩
  intro x5 r_x5 hq
  have q4_1 := hq
  replace q4_1 : -1 ≤ x5 ∧ x5 ≤ 1499 := q4_1
  exact (show -1 ≤ x5 ∧ x5 ≤ 1499 from by omega)
