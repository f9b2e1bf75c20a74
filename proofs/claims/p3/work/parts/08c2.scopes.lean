-- pure: scopes, the library
set_option maxHeartbeats 1000000 in
theorem K_X3_append {n1 : Int} {n2 : Int} {σ : S0} (hT : c_T σ) (p1 : 0 ≤ n1) (p2 : n1 < 1000) (p3 : -1 ≤ n2) (p4 : n2 < 1500) (p5 : (σ.1 6) < 30000) (p6 : (σ.1 7) < 1500) : W_X3_append n1 n2 σ (fun (τ : S0) => (c_T τ) ∧ ((τ.1 6) = (σ.1 6) + 1) ∧ (τ.2.1 14 = st (σ.2.1 14) ((σ.1 7) + 1) ((σ.1 6) + 1)) ∧ (τ.2.1 15 = st (σ.2.1 15) (σ.1 6) n1) ∧ (τ.2.1 16 = st (σ.2.1 16) (σ.1 6) n2)) := by
  have v6 : 0 ≤ σ.1 6 ∧ σ.1 6 ≤ 30000 := hT.1 6
  have v7 : 0 ≤ σ.1 7 ∧ σ.1 7 ≤ 1500 := hT.1 7
  have W7 : σ.1 7 = σ.1 7 := rfl
  unfold W_X3_append
  refine ⟨(show 0 ≤ σ.1 6 ∧ σ.1 6 < 30000 from by omega), ?_⟩
  replace hT := cT_a (k := 15) (j := (σ.1 6)) hT (show (0 : Int) ≤ n1 ∧ n1 ≤ 999 from by omega)
  replace hT := cT_a (k := 16) (j := (σ.1 6)) hT (show (-1 : Int) ≤ n2 ∧ n2 ≤ 1499 from by omega)
  refine ⟨(⟨by omega, by omega⟩ : rg (σ.1 6 + 1)), ?_⟩
  replace hT := cT_v (i := 6) hT (show 0 ≤ (σ.1 6 + 1) ∧ (σ.1 6 + 1) ≤ 30000 from by omega)
  refine ⟨(show 0 ≤ (σ.1 7 + 1) ∧ (σ.1 7 + 1) < 1501 from by omega), ?_⟩
  replace hT := cT_a (k := 14) (j := (σ.1 7 + 1)) hT (show (0 : Int) ≤ (σ.1 6 + 1) ∧ (σ.1 6 + 1) ≤ 30000 from by omega)
  exact ⟨hT, (show ((σ.1 6 + 1)) = (σ.1 6) + 1 from by omega), (show (st (σ.2.1 14) (σ.1 7 + 1) (σ.1 6 + 1)) = st (σ.2.1 14) ((σ.1 7) + 1) ((σ.1 6) + 1) from by rfl), (show (st (σ.2.1 15) (σ.1 6) n1) = st (σ.2.1 15) (σ.1 6) n1 from by rfl), (show (st (σ.2.1 16) (σ.1 6) n2) = st (σ.2.1 16) (σ.1 6) n2 from by rfl)⟩
set_option maxHeartbeats 1000000 in
theorem K_X3_giveRank {n1 : Int} {σ : S0} (hT : c_T σ) (p1 : 0 ≤ n1) (p2 : n1 < 1000) (p3 : σ.2.1 10 n1 = -1 → (σ.1 4) < 100) : W_X3_giveRank n1 σ (fun (τ : S0) => (c_T τ) ∧ ((σ.1 4) ≤ (τ.1 4))) := by
  have v4 : 0 ≤ σ.1 4 ∧ σ.1 4 ≤ 100 := hT.1 4
  unfold W_X3_giveRank
  refine ⟨(show 0 ≤ n1 ∧ n1 < 1000 from by omega), ?_⟩
  intro x2 r_x2 e_x2
  have b_x2 : (-1) ≤ x2 ∧ x2 ≤ 99 := by rw [e_x2]; exact hT.2 10 _
  refine ⟨fun c3 => ?_, fun c3 => ?_⟩
  ·
    exact ⟨hT, (show (σ.1 4) ≤ (σ.1 4) from by omega)⟩
  ·
    refine ⟨(show 0 ≤ σ.1 4 ∧ σ.1 4 < 100 from by omega), ?_⟩
    replace hT := cT_a (k := 11) (j := (σ.1 4)) hT (show (0 : Int) ≤ n1 ∧ n1 ≤ 999 from by omega)
    replace hT := cT_a (k := 10) (j := n1) hT (show (-1 : Int) ≤ (σ.1 4) ∧ (σ.1 4) ≤ 99 from by omega)
    refine ⟨(⟨by omega, by omega⟩ : rg (σ.1 4 + 1)), ?_⟩
    replace hT := cT_v (i := 4) hT (show 0 ≤ (σ.1 4 + 1) ∧ (σ.1 4 + 1) ≤ 100 from by omega)
    exact ⟨hT, (show (σ.1 4) ≤ ((σ.1 4 + 1)) from by omega)⟩
set_option maxHeartbeats 1000000 in
theorem K_X3_add {n1 : Int} {σ : S0} (hT : c_T σ) (p1 : 0 ≤ n1) (p2 : n1 ≤ 4) (p3 : (σ.1 7) < 1500) (p4 : n1 = 0 → σ.2.1 14 (σ.1 7) < 29999) : W_X3_add n1 σ (fun (τ : S0) => (c_T τ) ∧ ((τ.1 7) = (σ.1 7) + 1) ∧ (τ.2.1 13 = st (σ.2.1 13) (σ.1 7) n1)) := by
  have A13 : ∀ j, 0 ≤ σ.2.1 13 j ∧ σ.2.1 13 j ≤ 4 := fun j => hT.2 13 j
  have v7 : 0 ≤ σ.1 7 ∧ σ.1 7 ≤ 1500 := hT.1 7
  intro P48 h48
  refine ⟨(show 0 ≤ σ.1 7 ∧ σ.1 7 < 1500 from by omega), ?_⟩
  replace hT := cT_a (k := 13) (j := (σ.1 7)) hT (show (0 : Int) ≤ n1 ∧ n1 ≤ 4 from by omega)
  refine ⟨fun c2 => ?_, fun c2 => ?_⟩
  ·
    obtain ⟨τ_48, e_τ_48⟩ : ∃ z : S0, z = s_a σ 13 (σ.1 7) n1 := ⟨_, rfl⟩
    rw [← e_τ_48]
    replace hT : c_T τ_48 := by rw [e_τ_48]; exact hT
    have w7_τ_48 : τ_48.1 7 = σ.1 7 := by rw [e_τ_48]; rfl
    have g13_τ_48 : τ_48.2.1 13 = (st (σ.2.1 13) (σ.1 7) n1) := by rw [e_τ_48]; rfl
    have A13 : ∀ j, 0 ≤ τ_48.2.1 13 j ∧ τ_48.2.1 13 j ≤ 4 := fun j => hT.2 13 j
    have v7 : 0 ≤ τ_48.1 7 ∧ τ_48.1 7 ≤ 1500 := hT.1 7
    refine h48 _ ?_
    refine ⟨(⟨by omega, by omega⟩ : rg (τ_48.1 7 + 1)), ?_⟩
    replace hT := cT_v (i := 7) hT (show 0 ≤ (τ_48.1 7 + 1) ∧ (τ_48.1 7 + 1) ≤ 1500 from by omega)
    exact ⟨hT, (show ((τ_48.1 7 + 1)) = (σ.1 7) + 1 from by omega), (show τ_48.2.1 13 = st (σ.2.1 13) (σ.1 7) n1 from by (first | rfl | (rw [g13_τ_48])))⟩
  ·
    refine ⟨_, K_X3_variableOf hT (show 0 ≤ (σ.1 7) from by omega) (show (σ.1 7) ≤ 1500 from by omega) (show σ.2.1 14 (σ.1 7) < 29999 from by omega), ?_⟩
    intro x4 r_x4 hq
    obtain ⟨q3_1, q3_2⟩ := hq
    replace q3_1 : x4 = σ.2.1 15 (σ.2.1 14 (σ.1 7) + 1) := q3_1
    replace q3_2 : 0 ≤ x4 ∧ x4 ≤ 999 := q3_2
    refine ⟨(show 0 ≤ x4 ∧ x4 < 1000 from by omega), ?_⟩
    intro x7 r_x7 e_x7
    have b_x7 : (-1) ≤ x7 ∧ x7 ≤ 1499 := by rw [e_x7]; exact hT.2 9 _
    refine ⟨fun c8 => ?_, fun c8 => ?_⟩
    ·
      obtain ⟨τ_48, e_τ_48⟩ : ∃ z : S0, z = s_a σ 13 (σ.1 7) n1 := ⟨_, rfl⟩
      rw [← e_τ_48]
      replace hT : c_T τ_48 := by rw [e_τ_48]; exact hT
      have w7_τ_48 : τ_48.1 7 = σ.1 7 := by rw [e_τ_48]; rfl
      have g13_τ_48 : τ_48.2.1 13 = (st (σ.2.1 13) (σ.1 7) n1) := by rw [e_τ_48]; rfl
      have A13 : ∀ j, 0 ≤ τ_48.2.1 13 j ∧ τ_48.2.1 13 j ≤ 4 := fun j => hT.2 13 j
      have v7 : 0 ≤ τ_48.1 7 ∧ τ_48.1 7 ≤ 1500 := hT.1 7
      refine h48 _ ?_
      refine ⟨(⟨by omega, by omega⟩ : rg (τ_48.1 7 + 1)), ?_⟩
      replace hT := cT_v (i := 7) hT (show 0 ≤ (τ_48.1 7 + 1) ∧ (τ_48.1 7 + 1) ≤ 1500 from by omega)
      exact ⟨hT, (show ((τ_48.1 7 + 1)) = (σ.1 7) + 1 from by omega), (show τ_48.2.1 13 = st (σ.2.1 13) (σ.1 7) n1 from by (first | rfl | (rw [g13_τ_48])))⟩
    ·
      refine ⟨_, K_X3_variableOf hT (show 0 ≤ (σ.1 7) from by omega) (show (σ.1 7) ≤ 1500 from by omega) (show σ.2.1 14 (σ.1 7) < 29999 from by omega), ?_⟩
      intro x10 r_x10 hq
      obtain ⟨q9_1, q9_2⟩ := hq
      replace q9_1 : x10 = σ.2.1 15 (σ.2.1 14 (σ.1 7) + 1) := q9_1
      replace q9_2 : 0 ≤ x10 ∧ x10 ≤ 999 := q9_2
      refine ⟨(show 0 ≤ x10 ∧ x10 < 1000 from by omega), ?_⟩
      replace hT := cT_a (k := 9) (j := x10) hT (show (-1 : Int) ≤ (σ.1 7) ∧ (σ.1 7) ≤ 1499 from by omega)
      obtain ⟨τ_48, e_τ_48⟩ : ∃ z : S0, z = s_a (s_a σ 13 (σ.1 7) n1) 9 x10 (σ.1 7) := ⟨_, rfl⟩
      rw [← e_τ_48]
      replace hT : c_T τ_48 := by rw [e_τ_48]; exact hT
      have w7_τ_48 : τ_48.1 7 = σ.1 7 := by rw [e_τ_48]; rfl
      have g13_τ_48 : τ_48.2.1 13 = (st (σ.2.1 13) (σ.1 7) n1) := by rw [e_τ_48]; rfl
      have A13 : ∀ j, 0 ≤ τ_48.2.1 13 j ∧ τ_48.2.1 13 j ≤ 4 := fun j => hT.2 13 j
      have v7 : 0 ≤ τ_48.1 7 ∧ τ_48.1 7 ≤ 1500 := hT.1 7
      refine h48 _ ?_
      refine ⟨(⟨by omega, by omega⟩ : rg (τ_48.1 7 + 1)), ?_⟩
      replace hT := cT_v (i := 7) hT (show 0 ≤ (τ_48.1 7 + 1) ∧ (τ_48.1 7 + 1) ≤ 1500 from by omega)
      exact ⟨hT, (show ((τ_48.1 7 + 1)) = (σ.1 7) + 1 from by omega), (show τ_48.2.1 13 = st (σ.2.1 13) (σ.1 7) n1 from by (first | rfl | (rw [g13_τ_48])))⟩
set_option maxHeartbeats 1000000 in
theorem K_X3_keep {σ : S0} (hT : c_T σ) : W_X3_keep σ (fun (τ : S0) => (c_T τ) ∧ (τ.2.1 17 0 = (σ.1 7)) ∧ (τ.2.1 17 1 = (σ.1 5)) ∧ (τ.2.1 17 2 = (σ.1 3)) ∧ (τ.2.1 17 3 = (σ.1 4)) ∧ (τ.2.1 17 4 = (σ.1 6))) := by
  have v3 : 0 ≤ σ.1 3 ∧ σ.1 3 ≤ 2500 := hT.1 3
  have v4 : 0 ≤ σ.1 4 ∧ σ.1 4 ≤ 100 := hT.1 4
  have v5 : 0 ≤ σ.1 5 ∧ σ.1 5 ≤ 1000 := hT.1 5
  have v6 : 0 ≤ σ.1 6 ∧ σ.1 6 ≤ 30000 := hT.1 6
  have v7 : 0 ≤ σ.1 7 ∧ σ.1 7 ≤ 1500 := hT.1 7
  have W3 : σ.1 3 = σ.1 3 := rfl
  have W4 : σ.1 4 = σ.1 4 := rfl
  have W5 : σ.1 5 = σ.1 5 := rfl
  have W6 : σ.1 6 = σ.1 6 := rfl
  have W7 : σ.1 7 = σ.1 7 := rfl
  unfold W_X3_keep
  replace hT := cT_a (k := 17) (j := 0) hT (show (0 : Int) ≤ (σ.1 7) ∧ (σ.1 7) ≤ 1500 from by omega)
  replace hT := cT_a (k := 17) (j := 1) hT (show (0 : Int) ≤ (σ.1 5) ∧ (σ.1 5) ≤ 1000 from by omega)
  replace hT := cT_a (k := 17) (j := 2) hT (show (0 : Int) ≤ (σ.1 3) ∧ (σ.1 3) ≤ 2500 from by omega)
  replace hT := cT_a (k := 17) (j := 3) hT (show (0 : Int) ≤ (σ.1 4) ∧ (σ.1 4) ≤ 100 from by omega)
  replace hT := cT_a (k := 17) (j := 4) hT (show (0 : Int) ≤ (σ.1 6) ∧ (σ.1 6) ≤ 30000 from by omega)
  exact ⟨hT, (show (st (st (st (st (st (σ.2.1 17) 0 (σ.1 7)) 1 (σ.1 5)) 2 (σ.1 3)) 3 (σ.1 4)) 4 (σ.1 6)) 0 = (σ.1 7) from by rfl), (show (st (st (st (st (st (σ.2.1 17) 0 (σ.1 7)) 1 (σ.1 5)) 2 (σ.1 3)) 3 (σ.1 4)) 4 (σ.1 6)) 1 = (σ.1 5) from by rfl), (show (st (st (st (st (st (σ.2.1 17) 0 (σ.1 7)) 1 (σ.1 5)) 2 (σ.1 3)) 3 (σ.1 4)) 4 (σ.1 6)) 2 = (σ.1 3) from by rfl), (show (st (st (st (st (st (σ.2.1 17) 0 (σ.1 7)) 1 (σ.1 5)) 2 (σ.1 3)) 3 (σ.1 4)) 4 (σ.1 6)) 3 = (σ.1 4) from by rfl), (show (st (st (st (st (st (σ.2.1 17) 0 (σ.1 7)) 1 (σ.1 5)) 2 (σ.1 3)) 3 (σ.1 4)) 4 (σ.1 6)) 4 = (σ.1 6) from by rfl)⟩
set_option maxHeartbeats 1000000 in
theorem K_X3_goBack {σ : S0} (hT : c_T σ) (p1 : J_at σ) : W_X3_goBack σ (fun (τ : S0) => (c_T τ) ∧ ((τ.1 7) = σ.2.1 17 0) ∧ ((τ.1 5) = σ.2.1 17 1) ∧ ((τ.1 3) = σ.2.1 17 2) ∧ ((τ.1 4) = σ.2.1 17 3) ∧ ((τ.1 6) = σ.2.1 17 4)) := by
  have A13 : ∀ j, 0 ≤ σ.2.1 13 j ∧ σ.2.1 13 j ≤ 4 := fun j => hT.2 13 j
  have A14 : ∀ j, 0 ≤ σ.2.1 14 j ∧ σ.2.1 14 j ≤ 30000 := fun j => hT.2 14 j
  have v3 : 0 ≤ σ.1 3 ∧ σ.1 3 ≤ 2500 := hT.1 3
  have v4 : 0 ≤ σ.1 4 ∧ σ.1 4 ≤ 100 := hT.1 4
  have v5 : 0 ≤ σ.1 5 ∧ σ.1 5 ≤ 1000 := hT.1 5
  have v6 : 0 ≤ σ.1 6 ∧ σ.1 6 ≤ 30000 := hT.1 6
  have v7 : 0 ≤ σ.1 7 ∧ σ.1 7 ≤ 1500 := hT.1 7
  have G13 : σ.2.1 13 = σ.2.1 13 := rfl
  have G14 : σ.2.1 14 = σ.2.1 14 := rfl
  have G17 : σ.2.1 17 = σ.2.1 17 := rfl
  intro P7 P62 P95 h7 h62 h95
  unfold J_at at p1
  have l_95 : ∀ (m_95 : Nat) (u1_95 : Int) (τ_95 : S0), u1_95 + 1 < (m_95 : Int) → (c_T τ_95) → (τ_95.2.1 13 = σ.2.1 13) → (τ_95.2.1 14 = σ.2.1 14) → (τ_95.2.1 17 = σ.2.1 17) → (-1 ≤ u1_95) → (u1_95 < 2500) → P95 u1_95 τ_95 := by
    intro m_95
    induction m_95 with
    | zero =>
      intro u1_95 τ_95 hm hT G13 G14 G17 i95_1 i95_2
      have A13 : ∀ j, 0 ≤ τ_95.2.1 13 j ∧ τ_95.2.1 13 j ≤ 4 := fun j => hT.2 13 j
      have A14 : ∀ j, 0 ≤ τ_95.2.1 14 j ∧ τ_95.2.1 14 j ≤ 30000 := fun j => hT.2 14 j
      have v3 : 0 ≤ τ_95.1 3 ∧ τ_95.1 3 ≤ 2500 := hT.1 3
      have v4 : 0 ≤ τ_95.1 4 ∧ τ_95.1 4 ≤ 100 := hT.1 4
      have v5 : 0 ≤ τ_95.1 5 ∧ τ_95.1 5 ≤ 1000 := hT.1 5
      have v6 : 0 ≤ τ_95.1 6 ∧ τ_95.1 6 ≤ 30000 := hT.1 6
      have v7 : 0 ≤ τ_95.1 7 ∧ τ_95.1 7 ≤ 1500 := hT.1 7
      exfalso; omega
    | succ m_95 ih_95 =>
      intro u1_95 τ_95 hm_95 hT G13 G14 G17 i95_1 i95_2
      have A13 : ∀ j, 0 ≤ τ_95.2.1 13 j ∧ τ_95.2.1 13 j ≤ 4 := fun j => hT.2 13 j
      have A14 : ∀ j, 0 ≤ τ_95.2.1 14 j ∧ τ_95.2.1 14 j ≤ 30000 := fun j => hT.2 14 j
      have v3 : 0 ≤ τ_95.1 3 ∧ τ_95.1 3 ≤ 2500 := hT.1 3
      have v4 : 0 ≤ τ_95.1 4 ∧ τ_95.1 4 ≤ 100 := hT.1 4
      have v5 : 0 ≤ τ_95.1 5 ∧ τ_95.1 5 ≤ 1000 := hT.1 5
      have v6 : 0 ≤ τ_95.1 6 ∧ τ_95.1 6 ≤ 30000 := hT.1 6
      have v7 : 0 ≤ τ_95.1 7 ∧ τ_95.1 7 ≤ 1500 := hT.1 7
      refine h95 _ _ ?_
      intro x26 r_x26 e_x26
      have b_x26 : 0 ≤ x26 ∧ x26 ≤ 2500 := by rw [e_x26]; exact hT.2 17 _
      refine ⟨fun c27 => ?_, fun c27 => ?_⟩
      ·
        intro x28 r_x28 e_x28
        have b_x28 : 0 ≤ x28 ∧ x28 ≤ 1500 := by rw [e_x28]; exact hT.2 17 _
        replace hT := cT_v (i := 7) hT (show 0 ≤ x28 ∧ x28 ≤ 1500 from by omega)
        intro x29 r_x29 e_x29
        have b_x29 : 0 ≤ x29 ∧ x29 ≤ 1000 := by rw [e_x29]; exact hT.2 17 _
        replace hT := cT_v (i := 5) hT (show 0 ≤ x29 ∧ x29 ≤ 1000 from by omega)
        intro x30 r_x30 e_x30
        have b_x30 : 0 ≤ x30 ∧ x30 ≤ 2500 := by rw [e_x30]; exact hT.2 17 _
        replace hT := cT_v (i := 3) hT (show 0 ≤ x30 ∧ x30 ≤ 2500 from by omega)
        intro x31 r_x31 e_x31
        have b_x31 : 0 ≤ x31 ∧ x31 ≤ 100 := by rw [e_x31]; exact hT.2 17 _
        replace hT := cT_v (i := 4) hT (show 0 ≤ x31 ∧ x31 ≤ 100 from by omega)
        intro x32 r_x32 e_x32
        have b_x32 : 0 ≤ x32 ∧ x32 ≤ 30000 := by rw [e_x32]; exact hT.2 17 _
        replace hT := cT_v (i := 6) hT (show 0 ≤ x32 ∧ x32 ≤ 30000 from by omega)
        exact ⟨hT, (show (x28) = σ.2.1 17 0 from by (rw [e_x28, G17])), (show (x29) = σ.2.1 17 1 from by (rw [e_x29, G17])), (show (x30) = σ.2.1 17 2 from by (rw [e_x30, G17])), (show (x31) = σ.2.1 17 3 from by (rw [e_x31, G17])), (show (x32) = σ.2.1 17 4 from by (rw [e_x32, G17]))⟩
      ·
        refine ⟨(show 0 ≤ u1_95 ∧ u1_95 < 2501 from by omega), ?_⟩
        intro x34 r_x34 e_x34
        have b_x34 : 0 ≤ x34 ∧ x34 ≤ 30000 := by rw [e_x34]; exact hT.2 3 _
        refine ⟨(show 0 ≤ (u1_95 + 1) ∧ (u1_95 + 1) < 2501 from by omega), ?_⟩
        intro x36 r_x36 e_x36
        have b_x36 : 0 ≤ x36 ∧ x36 ≤ 30000 := by rw [e_x36]; exact hT.2 3 _
        intro x37 r_x37 e_x37
        have b_x37 : 0 ≤ x37 ∧ x37 ≤ 30000 := by rw [e_x37]; exact hT.2 3 _
        refine ⟨(⟨by omega, by omega⟩ : rg (x36 - x37)), ?_⟩
        refine ⟨_, K_X3_bucket_q15 hT (show 0 ≤ x34 from by omega) (show x34 + (x36 - x37) ≤ 30000 from by omega), ?_⟩
        intro x40 r_x40 hq
        obtain ⟨q39_1, q39_2⟩ := hq
        replace q39_1 : 0 ≤ x40 ∧ x40 < 4096 := q39_1
        replace q39_2 : x40 = h_b (τ_95.2.1 2) x34 (x36 - x37) := q39_2
        refine ⟨(show 0 ≤ u1_95 ∧ u1_95 < 2500 from by omega), ?_⟩
        intro x43 r_x43 e_x43
        have b_x43 : 0 ≤ x43 ∧ x43 ≤ 2500 := by rw [e_x43]; exact hT.2 5 _
        refine ⟨(show 0 ≤ x40 ∧ x40 < 4096 from by omega), ?_⟩
        replace hT := cT_a (k := 6) (j := x40) hT (show (0 : Int) ≤ x43 ∧ x43 ≤ 2500 from by omega)
        refine ⟨(⟨by omega, by omega⟩ : rg (u1_95 + (-1))), ?_⟩
        exact ih_95 _ _ (show ((u1_95 + (-1)) + 1 : Int) < ((m_95 : Nat) : Int) from by (omega)) hT G13 G14 G17 (show -1 ≤ (u1_95 + (-1)) from by omega) (show (u1_95 + (-1)) < 2500 from by omega)
  have l_62 : ∀ (m_62 : Nat) (u1_62 : Int) (τ_62 : S0), 101 - u1_62 < (m_62 : Int) → (c_T τ_62) → (τ_62.2.1 13 = σ.2.1 13) → (τ_62.2.1 14 = σ.2.1 14) → (τ_62.2.1 17 = σ.2.1 17) → (0 ≤ u1_62) → (u1_62 ≤ 100) → ((τ_62.1 3) = (σ.1 3)) → P62 u1_62 τ_62 := by
    intro m_62
    induction m_62 with
    | zero =>
      intro u1_62 τ_62 hm hT G13 G14 G17 i62_1 i62_2 i62_3
      have A13 : ∀ j, 0 ≤ τ_62.2.1 13 j ∧ τ_62.2.1 13 j ≤ 4 := fun j => hT.2 13 j
      have A14 : ∀ j, 0 ≤ τ_62.2.1 14 j ∧ τ_62.2.1 14 j ≤ 30000 := fun j => hT.2 14 j
      have v3 : 0 ≤ τ_62.1 3 ∧ τ_62.1 3 ≤ 2500 := hT.1 3
      have v4 : 0 ≤ τ_62.1 4 ∧ τ_62.1 4 ≤ 100 := hT.1 4
      have v5 : 0 ≤ τ_62.1 5 ∧ τ_62.1 5 ≤ 1000 := hT.1 5
      have v6 : 0 ≤ τ_62.1 6 ∧ τ_62.1 6 ≤ 30000 := hT.1 6
      have v7 : 0 ≤ τ_62.1 7 ∧ τ_62.1 7 ≤ 1500 := hT.1 7
      exfalso; omega
    | succ m_62 ih_62 =>
      intro u1_62 τ_62 hm_62 hT G13 G14 G17 i62_1 i62_2 i62_3
      have A13 : ∀ j, 0 ≤ τ_62.2.1 13 j ∧ τ_62.2.1 13 j ≤ 4 := fun j => hT.2 13 j
      have A14 : ∀ j, 0 ≤ τ_62.2.1 14 j ∧ τ_62.2.1 14 j ≤ 30000 := fun j => hT.2 14 j
      have v3 : 0 ≤ τ_62.1 3 ∧ τ_62.1 3 ≤ 2500 := hT.1 3
      have v4 : 0 ≤ τ_62.1 4 ∧ τ_62.1 4 ≤ 100 := hT.1 4
      have v5 : 0 ≤ τ_62.1 5 ∧ τ_62.1 5 ≤ 1000 := hT.1 5
      have v6 : 0 ≤ τ_62.1 6 ∧ τ_62.1 6 ≤ 30000 := hT.1 6
      have v7 : 0 ≤ τ_62.1 7 ∧ τ_62.1 7 ≤ 1500 := hT.1 7
      refine h62 _ _ ?_
      refine ⟨fun c20 => ?_, fun c20 => ?_⟩
      ·
        refine ⟨(⟨by omega, by omega⟩ : rg (τ_62.1 3 - 1)), ?_⟩
        exact l_95 (((τ_62.1 3 - 1) + 1 : Int).toNat + 1) _ _ (show ((τ_62.1 3 - 1) + 1 : Int) < ((((τ_62.1 3 - 1) + 1 : Int).toNat + 1 : Nat) : Int) from by (omega)) hT G13 G14 G17 (show -1 ≤ (τ_62.1 3 - 1) from by omega) (show (τ_62.1 3 - 1) < 2500 from by omega)
      ·
        refine ⟨(show 0 ≤ u1_62 ∧ u1_62 < 100 from by omega), ?_⟩
        intro x23 r_x23 e_x23
        have b_x23 : 0 ≤ x23 ∧ x23 ≤ 999 := by rw [e_x23]; exact hT.2 11 _
        refine ⟨(show 0 ≤ x23 ∧ x23 < 1000 from by omega), ?_⟩
        replace hT := cT_a (k := 10) (j := x23) hT (show (-1 : Int) ≤ (-1) ∧ (-1) ≤ 99 from by omega)
        refine ⟨(⟨by omega, by omega⟩ : rg (u1_62 + 1)), ?_⟩
        exact ih_62 _ _ (show (101 - (u1_62 + 1) : Int) < ((m_62 : Nat) : Int) from by (omega)) hT G13 G14 G17 (show 0 ≤ (u1_62 + 1) from by omega) (show (u1_62 + 1) ≤ 100 from by omega) (show (τ_62.1 3) = (σ.1 3) from by omega)
  have l_7 : ∀ (m_7 : Nat) (u1_7 : Int) (τ_7 : S0), 1501 - u1_7 < (m_7 : Int) → (c_T τ_7) → (τ_7.2.1 13 = σ.2.1 13) → (τ_7.2.1 14 = σ.2.1 14) → (τ_7.2.1 17 = σ.2.1 17) → (0 ≤ u1_7) → (u1_7 ≤ 1500) → ((τ_7.1 7) = (σ.1 7)) → ((τ_7.1 3) = (σ.1 3)) → P7 u1_7 τ_7 := by
    intro m_7
    induction m_7 with
    | zero =>
      intro u1_7 τ_7 hm hT G13 G14 G17 i7_1 i7_2 i7_3 i7_4
      have A13 : ∀ j, 0 ≤ τ_7.2.1 13 j ∧ τ_7.2.1 13 j ≤ 4 := fun j => hT.2 13 j
      have A14 : ∀ j, 0 ≤ τ_7.2.1 14 j ∧ τ_7.2.1 14 j ≤ 30000 := fun j => hT.2 14 j
      have v3 : 0 ≤ τ_7.1 3 ∧ τ_7.1 3 ≤ 2500 := hT.1 3
      have v4 : 0 ≤ τ_7.1 4 ∧ τ_7.1 4 ≤ 100 := hT.1 4
      have v5 : 0 ≤ τ_7.1 5 ∧ τ_7.1 5 ≤ 1000 := hT.1 5
      have v6 : 0 ≤ τ_7.1 6 ∧ τ_7.1 6 ≤ 30000 := hT.1 6
      have v7 : 0 ≤ τ_7.1 7 ∧ τ_7.1 7 ≤ 1500 := hT.1 7
      exfalso; omega
    | succ m_7 ih_7 =>
      intro u1_7 τ_7 hm_7 hT G13 G14 G17 i7_1 i7_2 i7_3 i7_4
      have A13 : ∀ j, 0 ≤ τ_7.2.1 13 j ∧ τ_7.2.1 13 j ≤ 4 := fun j => hT.2 13 j
      have A14 : ∀ j, 0 ≤ τ_7.2.1 14 j ∧ τ_7.2.1 14 j ≤ 30000 := fun j => hT.2 14 j
      have v3 : 0 ≤ τ_7.1 3 ∧ τ_7.1 3 ≤ 2500 := hT.1 3
      have v4 : 0 ≤ τ_7.1 4 ∧ τ_7.1 4 ≤ 100 := hT.1 4
      have v5 : 0 ≤ τ_7.1 5 ∧ τ_7.1 5 ≤ 1000 := hT.1 5
      have v6 : 0 ≤ τ_7.1 6 ∧ τ_7.1 6 ≤ 30000 := hT.1 6
      have v7 : 0 ≤ τ_7.1 7 ∧ τ_7.1 7 ≤ 1500 := hT.1 7
      refine h7 _ _ ?_
      refine ⟨fun c2 => ?_, fun c2 => ?_⟩
      ·
        intro x3 r_x3 e_x3
        have b_x3 : 0 ≤ x3 ∧ x3 ≤ 100 := by rw [e_x3]; exact hT.2 17 _
        exact l_62 ((101 - x3 : Int).toNat + 1) _ _ (show (101 - x3 : Int) < (((101 - x3 : Int).toNat + 1 : Nat) : Int) from by (omega)) hT G13 G14 G17 (show 0 ≤ x3 from by omega) (show x3 ≤ 100 from by omega) (show (τ_7.1 3) = (σ.1 3) from by omega)
      ·
        refine ⟨(show 0 ≤ u1_7 ∧ u1_7 < 1500 from by omega), ?_⟩
        intro x5 r_x5 e_x5
        have b_x5 : 0 ≤ x5 ∧ x5 ≤ 4 := by rw [e_x5]; exact hT.2 13 _
        refine ⟨fun c6 => ?_, fun c6 => ?_⟩
        ·
          refine ⟨(⟨by omega, by omega⟩ : rg (u1_7 + 1)), ?_⟩
          exact ih_7 _ _ (show (1501 - (u1_7 + 1) : Int) < ((m_7 : Nat) : Int) from by (omega)) hT G13 G14 G17 (show 0 ≤ (u1_7 + 1) from by omega) (show (u1_7 + 1) ≤ 1500 from by omega) (show (τ_7.1 7) = (σ.1 7) from by omega) (show (τ_7.1 3) = (σ.1 3) from by omega)
        ·
          have jj := p1 u1_7 (by omega) (by omega)
          rw [← G13, ← G14] at jj
          have j2 := A14 (u1_7 + 1)
          refine ⟨_, K_X3_variableOf hT (show 0 ≤ u1_7 from by omega) (show u1_7 ≤ 1500 from by omega) (show τ_7.2.1 14 u1_7 < 29999 from by omega), ?_⟩
          intro x9 r_x9 hq
          obtain ⟨q8_1, q8_2⟩ := hq
          replace q8_1 : x9 = τ_7.2.1 15 (τ_7.2.1 14 u1_7 + 1) := q8_1
          replace q8_2 : 0 ≤ x9 ∧ x9 ≤ 999 := q8_2
          refine ⟨(show 0 ≤ x9 ∧ x9 < 1000 from by omega), ?_⟩
          intro x12 r_x12 e_x12
          have b_x12 : (-1) ≤ x12 ∧ x12 ≤ 1499 := by rw [e_x12]; exact hT.2 9 _
          refine ⟨fun c13 => ?_, fun c13 => ?_⟩
          ·
            refine ⟨(⟨by omega, by omega⟩ : rg (u1_7 + 1)), ?_⟩
            exact ih_7 _ _ (show (1501 - (u1_7 + 1) : Int) < ((m_7 : Nat) : Int) from by (omega)) hT G13 G14 G17 (show 0 ≤ (u1_7 + 1) from by omega) (show (u1_7 + 1) ≤ 1500 from by omega) (show (τ_7.1 7) = (σ.1 7) from by omega) (show (τ_7.1 3) = (σ.1 3) from by omega)
          ·
            have jj := p1 u1_7 (by omega) (by omega)
            rw [← G13, ← G14] at jj
            have j2 := A14 (u1_7 + 1)
            refine ⟨_, K_X3_variableOf hT (show 0 ≤ u1_7 from by omega) (show u1_7 ≤ 1500 from by omega) (show τ_7.2.1 14 u1_7 < 29999 from by omega), ?_⟩
            intro x16 r_x16 hq
            obtain ⟨q15_1, q15_2⟩ := hq
            replace q15_1 : x16 = τ_7.2.1 15 (τ_7.2.1 14 u1_7 + 1) := q15_1
            replace q15_2 : 0 ≤ x16 ∧ x16 ≤ 999 := q15_2
            refine ⟨(show 0 ≤ x16 ∧ x16 < 1000 from by omega), ?_⟩
            replace hT := cT_a (k := 9) (j := x16) hT (show (-1 : Int) ≤ (-1) ∧ (-1) ≤ 1499 from by omega)
            refine ⟨(⟨by omega, by omega⟩ : rg (u1_7 + 1)), ?_⟩
            exact ih_7 _ _ (show (1501 - (u1_7 + 1) : Int) < ((m_7 : Nat) : Int) from by (omega)) hT G13 G14 G17 (show 0 ≤ (u1_7 + 1) from by omega) (show (u1_7 + 1) ≤ 1500 from by omega) (show (τ_7.1 7) = (σ.1 7) from by omega) (show (τ_7.1 3) = (σ.1 3) from by omega)
  intro x1 r_x1 e_x1
  have b_x1 : 0 ≤ x1 ∧ x1 ≤ 1500 := by rw [e_x1]; exact hT.2 17 _
  exact l_7 ((1501 - x1 : Int).toNat + 1) _ _ (show (1501 - x1 : Int) < (((1501 - x1 : Int).toNat + 1 : Nat) : Int) from by (omega)) hT G13 G14 G17 (show 0 ≤ x1 from by omega) (show x1 ≤ 1500 from by omega) (show (σ.1 7) = (σ.1 7) from by omega) (show (σ.1 3) = (σ.1 3) from by omega)
set_option maxHeartbeats 1000000 in
theorem K_X3_addName_q13 {n2 : Int} {n3 : Int} {n4 : Int} {σ : S0} (hT : c_T σ) (p1 : 0 ≤ n2) (p2 : 0 ≤ n3) (p3 : n3 ≤ 60) (p4 : n2 + n3 ≤ 60000) (p5 : -1000 ≤ n4) (p6 : n4 ≤ 1499) (p7 : σ.2.1 3 (σ.1 3) + n3 ≤ 30000) (p8 : (σ.1 3) < 2500) : W_X3_addName_q13 n2 n3 n4 σ (fun (τ : S0) => (c_T τ) ∧ ((τ.1 3) = (σ.1 3) + 1)) := by
  have v3 : 0 ≤ σ.1 3 ∧ σ.1 3 ≤ 2500 := hT.1 3
  intro P14 h14
  have l_14 : ∀ (m_14 : Nat) (u5_14 : Int) (u6_14 : Int) (τ_14 : S0), 61 - u6_14 < (m_14 : Int) → (c_T τ_14) → (0 ≤ u5_14) → (u5_14 + n3 ≤ 30000) → (0 ≤ u6_14) → (u6_14 ≤ n3) → ((τ_14.1 3) = (σ.1 3)) → P14 n2 n3 n4 u5_14 u6_14 τ_14 := by
    intro m_14
    induction m_14 with
    | zero =>
      intro u5_14 u6_14 τ_14 hm hT i14_1 i14_2 i14_3 i14_4 i14_5
      have v3 : 0 ≤ τ_14.1 3 ∧ τ_14.1 3 ≤ 2500 := hT.1 3
      exfalso; omega
    | succ m_14 ih_14 =>
      intro u5_14 u6_14 τ_14 hm_14 hT i14_1 i14_2 i14_3 i14_4 i14_5
      have v3 : 0 ≤ τ_14.1 3 ∧ τ_14.1 3 ≤ 2500 := hT.1 3
      refine h14 _ _ _ _ _ _ ?_
      refine ⟨fun c3 => ?_, fun c3 => ?_⟩
      ·
        refine ⟨_, K_X3_bucket_q13 hT (show 0 ≤ n2 from by omega) (show n2 + n3 ≤ 60000 from by omega), ?_⟩
        intro x5 r_x5 hq
        obtain ⟨q4_1, q4_2⟩ := hq
        replace q4_1 : 0 ≤ x5 ∧ x5 < 4096 := q4_1
        replace q4_2 : x5 = h_b (τ_14.2.1 0) n2 n3 := q4_2
        refine ⟨(show 0 ≤ τ_14.1 3 ∧ τ_14.1 3 < 2500 from by omega), ?_⟩
        replace hT := cT_a (k := 4) (j := (τ_14.1 3)) hT (show (-1000 : Int) ≤ n4 ∧ n4 ≤ 1499 from by omega)
        refine ⟨(show 0 ≤ x5 ∧ x5 < 4096 from by omega), ?_⟩
        intro x9 r_x9 e_x9
        have b_x9 : 0 ≤ x9 ∧ x9 ≤ 2500 := by rw [e_x9]; exact hT.2 6 _
        replace hT := cT_a (k := 5) (j := (τ_14.1 3)) hT (show (0 : Int) ≤ x9 ∧ x9 ≤ 2500 from by omega)
        refine ⟨(⟨by omega, by omega⟩ : rg (τ_14.1 3 + 1)), ?_⟩
        replace hT := cT_v (i := 3) hT (show 0 ≤ (τ_14.1 3 + 1) ∧ (τ_14.1 3 + 1) ≤ 2500 from by omega)
        refine ⟨(show 0 ≤ (τ_14.1 3 + 1) ∧ (τ_14.1 3 + 1) < 2501 from by omega), ?_⟩
        refine ⟨(⟨by omega, by omega⟩ : rg (u5_14 + n3)), ?_⟩
        replace hT := cT_a (k := 3) (j := (τ_14.1 3 + 1)) hT (show (0 : Int) ≤ (u5_14 + n3) ∧ (u5_14 + n3) ≤ 30000 from by omega)
        replace hT := cT_a (k := 6) (j := x5) hT (show (0 : Int) ≤ (τ_14.1 3 + 1) ∧ (τ_14.1 3 + 1) ≤ 2500 from by omega)
        exact ⟨hT, (show ((τ_14.1 3 + 1)) = (σ.1 3) + 1 from by omega)⟩
      ·
        refine ⟨(show 0 ≤ (n2 + u6_14) ∧ (n2 + u6_14) < 60000 from by omega), ?_⟩
        intro x14 r_x14 e_x14
        have b_x14 : 0 ≤ x14 ∧ x14 ≤ 255 := by rw [e_x14]; exact hT.2 0 _
        refine ⟨(show 0 ≤ (u5_14 + u6_14) ∧ (u5_14 + u6_14) < 30000 from by omega), ?_⟩
        refine ⟨(show 0 ≤ x14 ∧ x14 ≤ 65535 from by omega), ?_⟩
        replace hT := cT_a (k := 2) (j := (u5_14 + u6_14)) hT (show (0 : Int) ≤ x14 ∧ x14 ≤ 65535 from by omega)
        refine ⟨(⟨by omega, by omega⟩ : rg (u6_14 + 1)), ?_⟩
        exact ih_14 _ _ _ (show (61 - (u6_14 + 1) : Int) < ((m_14 : Nat) : Int) from by (omega)) hT (show 0 ≤ u5_14 from by omega) (show u5_14 + n3 ≤ 30000 from by omega) (show 0 ≤ (u6_14 + 1) from by omega) (show (u6_14 + 1) ≤ n3 from by omega) (show (τ_14.1 3) = (σ.1 3) from by omega)
  refine ⟨(show 0 ≤ σ.1 3 ∧ σ.1 3 < 2501 from by omega), ?_⟩
  intro x2 r_x2 e_x2
  have b_x2 : 0 ≤ x2 ∧ x2 ≤ 30000 := by rw [e_x2]; exact hT.2 3 _
  exact l_14 ((61 - 0 : Int).toNat + 1) _ _ _ (show (61 - 0 : Int) < (((61 - 0 : Int).toNat + 1 : Nat) : Int) from by (omega)) hT (show 0 ≤ x2 from by omega) (show x2 + n3 ≤ 30000 from by omega) (show 0 ≤ 0 from by omega) (show 0 ≤ n3 from by omega) (show (σ.1 3) = (σ.1 3) from by omega)
set_option maxHeartbeats 1000000 in
theorem K_X3_addLabel_q13 {n2 : Int} {n3 : Int} {σ : S0} (hT : c_T σ) (p1 : 0 ≤ n2) (p2 : 0 ≤ n3) (p3 : n3 ≤ 60) (p4 : n2 + n3 ≤ 60000) (p5 : σ.2.1 3 (σ.1 3) + n3 ≤ 30000) (p6 : (σ.1 3) < 2500) (p7 : (σ.1 7) < 1500) : W_X3_addLabel_q13 n2 n3 σ (fun (τ : S0) => (c_T τ)) := by
  have v3 : 0 ≤ σ.1 3 ∧ σ.1 3 ≤ 2500 := hT.1 3
  have v7 : 0 ≤ σ.1 7 ∧ σ.1 7 ≤ 1500 := hT.1 7
  have W7 : σ.1 7 = σ.1 7 := rfl
  unfold W_X3_addLabel_q13
  refine ⟨(show 0 ≤ σ.1 7 ∧ σ.1 7 < 1500 from by omega), ?_⟩
  replace hT := cT_a (k := 12) (j := (σ.1 7)) hT (show (0 : Int) ≤ (σ.1 3) ∧ (σ.1 3) ≤ 2499 from by omega)
  refine ⟨_, K_X3_addName_q13 hT (show 0 ≤ n2 from by omega) (show 0 ≤ n3 from by omega) (show n3 ≤ 60 from by omega) (show n2 + n3 ≤ 60000 from by omega) (show -1000 ≤ (σ.1 7) from by omega) (show (σ.1 7) ≤ 1499 from by omega) (show σ.2.1 3 (σ.1 3) + n3 ≤ 30000 from by omega) (show (σ.1 3) < 2500 from by omega), ?_⟩
  intro τ4 hn_τ4 hf_τ4 hq
  obtain ⟨hT, q2_1⟩ := hq
  replace q2_1 : (τ4.1 3) = (σ.1 3) + 1 := q2_1
  have w7_τ4 : τ4.1 7 = σ.1 7 := hf_τ4.1 7 (by decide)
  have W7 : τ4.1 7 = σ.1 7 := by omega
  have v3 : 0 ≤ τ4.1 3 ∧ τ4.1 3 ≤ 2500 := hT.1 3
  have v7 : 0 ≤ τ4.1 7 ∧ τ4.1 7 ≤ 1500 := hT.1 7
  exact hT
set_option maxHeartbeats 1000000 in
theorem K_X7_label {n1 : Int} {n2 : Int} {σ : S0} (hT : c_T σ) (p1 : 0 ≤ n1) (p2 : 0 ≤ n2) (p3 : n1 + n2 ≤ 60000) (p4 : ¬ σ.1 66 = 0) : W_X7_label n1 n2 σ (fun (x : Int) (τ : S0) => (c_T τ) ∧ (0 ≤ x ∧ x ≤ 19) ∧ (x = 0 → (τ.1 35) = 1) ∧ (x = 0 → (σ.1 7) < 1500)) := by
  have v3 : 0 ≤ σ.1 3 ∧ σ.1 3 ≤ 2500 := hT.1 3
  have v7 : 0 ≤ σ.1 7 ∧ σ.1 7 ≤ 1500 := hT.1 7
  have v35 : 0 ≤ σ.1 35 ∧ σ.1 35 ≤ 7 := hT.1 35
  have v38 : (-1) ≤ σ.1 38 ∧ σ.1 38 ≤ 999 := hT.1 38
  have v39 : (-1) ≤ σ.1 39 ∧ σ.1 39 ≤ 1499 := hT.1 39
  have v66 : 0 ≤ σ.1 66 ∧ σ.1 66 ≤ 1 := hT.1 66
  have W7 : σ.1 7 = σ.1 7 := rfl
  have W38 : σ.1 38 = σ.1 38 := rfl
  have W39 : σ.1 39 = σ.1 39 := rfl
  have W66 : σ.1 66 = σ.1 66 := rfl
  unfold W_X7_label
  refine ⟨fun c1 => ?_, fun c1 => ?_⟩
  ·
    exact ⟨hT, (show 0 ≤ 5 ∧ 5 ≤ 19 from by omega), (show 5 = 0 → (σ.1 35) = 1 from by omega), (show 5 = 0 → (σ.1 7) < 1500 from by omega)⟩
  ·
    refine ⟨_, K_X3_hasRoomForName hT (show -100000 ≤ n2 from by omega) (show n2 ≤ 100000 from by omega), ?_⟩
    intro x3 r_x3 hq
    obtain ⟨q2_1, q2_2⟩ := hq
    replace q2_1 : 0 ≤ x3 ∧ x3 ≤ 1 := q2_1
    replace q2_2 : ¬ x3 = 0 → n2 ≤ 60 ∧ σ.2.1 3 (σ.1 3) + n2 ≤ 30000 ∧ (σ.1 3) < 2500 := q2_2
    refine ⟨fun c5 => ?_, fun c5 => ?_⟩
    ·
      refine ⟨(show ¬ σ.1 66 = 0 from by omega), ?_⟩
      refine ⟨_, K_X12_isLabel_q13 hT (show 0 ≤ n1 from by omega) (show 0 ≤ n2 from by omega) (show n1 + n2 ≤ 60000 from by omega), ?_⟩
      intro x8 r_x8 hq
      have q7_1 := hq
      replace q7_1 : 0 ≤ x8 ∧ x8 ≤ 1 := q7_1
      refine ⟨fun c10 => ?_, fun c10 => ?_⟩
      ·
        refine ⟨fun c11 => ?_, fun c11 => ?_⟩
        ·
          exact ⟨hT, (show 0 ≤ 7 ∧ 7 ≤ 19 from by omega), (show 7 = 0 → (σ.1 35) = 1 from by omega), (show 7 = 0 → (σ.1 7) < 1500 from by omega)⟩
        ·
          refine ⟨fun c12 => ?_, fun c12 => ?_⟩
          ·
            refine ⟨(show ¬ σ.1 66 = 0 from by omega), ?_⟩
            refine ⟨_, K_X3_addLabel_q13 hT (show 0 ≤ n1 from by omega) (show 0 ≤ n2 from by omega) (show n2 ≤ 60 from by omega) (show n1 + n2 ≤ 60000 from by omega) (show σ.2.1 3 (σ.1 3) + n2 ≤ 30000 from by omega) (show (σ.1 3) < 2500 from by omega) (show (σ.1 7) < 1500 from by omega), ?_⟩
            intro τ16 hn_τ16 hf_τ16 hq
            replace hT := hq
            have w7_τ16 : τ16.1 7 = σ.1 7 := hf_τ16.1 7 (by decide)
            have w35_τ16 : τ16.1 35 = σ.1 35 := hf_τ16.1 35 (by decide)
            have w38_τ16 : τ16.1 38 = σ.1 38 := hf_τ16.1 38 (by decide)
            have w39_τ16 : τ16.1 39 = σ.1 39 := hf_τ16.1 39 (by decide)
            have w66_τ16 : τ16.1 66 = σ.1 66 := hf_τ16.1 66 (by decide)
            have W7 : τ16.1 7 = σ.1 7 := by omega
            have W38 : τ16.1 38 = σ.1 38 := by omega
            have W39 : τ16.1 39 = σ.1 39 := by omega
            have W66 : τ16.1 66 = σ.1 66 := by omega
            have v3 : 0 ≤ τ16.1 3 ∧ τ16.1 3 ≤ 2500 := hT.1 3
            have v7 : 0 ≤ τ16.1 7 ∧ τ16.1 7 ≤ 1500 := hT.1 7
            have v35 : 0 ≤ τ16.1 35 ∧ τ16.1 35 ≤ 7 := hT.1 35
            have v38 : (-1) ≤ τ16.1 38 ∧ τ16.1 38 ≤ 999 := hT.1 38
            have v39 : (-1) ≤ τ16.1 39 ∧ τ16.1 39 ≤ 1499 := hT.1 39
            have v66 : 0 ≤ τ16.1 66 ∧ τ16.1 66 ≤ 1 := hT.1 66
            replace hT := cT_v (i := 35) hT (show (0 : Int) ≤ 1 ∧ 1 ≤ 7 from by omega)
            exact ⟨hT, (show 0 ≤ 0 ∧ 0 ≤ 19 from by omega), (show 0 = 0 → ((1 : Int)) = 1 from by omega), (show 0 = 0 → (σ.1 7) < 1500 from by omega)⟩
          ·
            exact ⟨hT, (show 0 ≤ 7 ∧ 7 ≤ 19 from by omega), (show 7 = 0 → (σ.1 35) = 1 from by omega), (show 7 = 0 → (σ.1 7) < 1500 from by omega)⟩
      ·
        exact ⟨hT, (show 0 ≤ 6 ∧ 6 ≤ 19 from by omega), (show 6 = 0 → (σ.1 35) = 1 from by omega), (show 6 = 0 → (σ.1 7) < 1500 from by omega)⟩
    ·
      exact ⟨hT, (show 0 ≤ 5 ∧ 5 ≤ 19 from by omega), (show 5 = 0 → (σ.1 35) = 1 from by omega), (show 5 = 0 → (σ.1 7) < 1500 from by omega)⟩
set_option maxHeartbeats 1000000 in
theorem K_X7_faultOfNewSymbol {n1 : Int} {σ : S0} (hT : c_T σ) (p1 : 0 ≤ n1) (p2 : n1 ≤ 60000) : W_X7_faultOfNewSymbol n1 σ (fun (x : Int) => (0 ≤ x ∧ x ≤ 19) ∧ (x = 0 → (σ.1 5) < 1000 ∧ n1 ≤ 60 ∧ σ.2.1 3 (σ.1 3) + n1 ≤ 30000 ∧ (σ.1 3) < 2500)) := by
  have v3 : 0 ≤ σ.1 3 ∧ σ.1 3 ≤ 2500 := hT.1 3
  have v5 : 0 ≤ σ.1 5 ∧ σ.1 5 ≤ 1000 := hT.1 5
  have v39 : (-1) ≤ σ.1 39 ∧ σ.1 39 ≤ 1499 := hT.1 39
  unfold W_X7_faultOfNewSymbol
  refine ⟨fun c1 => ?_, fun c1 => ?_⟩
  ·
    exact ⟨(show 0 ≤ 5 ∧ 5 ≤ 19 from by omega), (show 5 = 0 → (σ.1 5) < 1000 ∧ n1 ≤ 60 ∧ σ.2.1 3 (σ.1 3) + n1 ≤ 30000 ∧ (σ.1 3) < 2500 from by omega)⟩
  ·
    refine ⟨_, K_X3_hasRoomForName hT (show -100000 ≤ n1 from by omega) (show n1 ≤ 100000 from by omega), ?_⟩
    intro x3 r_x3 hq
    obtain ⟨q2_1, q2_2⟩ := hq
    replace q2_1 : 0 ≤ x3 ∧ x3 ≤ 1 := q2_1
    replace q2_2 : ¬ x3 = 0 → n1 ≤ 60 ∧ σ.2.1 3 (σ.1 3) + n1 ≤ 30000 ∧ (σ.1 3) < 2500 := q2_2
    refine ⟨fun c5 => ?_, fun c5 => ?_⟩
    ·
      refine ⟨fun c6 => ?_, fun c6 => ?_⟩
      ·
        exact ⟨(show 0 ≤ 7 ∧ 7 ≤ 19 from by omega), (show 7 = 0 → (σ.1 5) < 1000 ∧ n1 ≤ 60 ∧ σ.2.1 3 (σ.1 3) + n1 ≤ 30000 ∧ (σ.1 3) < 2500 from by omega)⟩
      ·
        exact ⟨(show 0 ≤ 0 ∧ 0 ≤ 19 from by omega), (show 0 = 0 → (σ.1 5) < 1000 ∧ n1 ≤ 60 ∧ σ.2.1 3 (σ.1 3) + n1 ≤ 30000 ∧ (σ.1 3) < 2500 from by omega)⟩
    ·
      exact ⟨(show 0 ≤ 5 ∧ 5 ≤ 19 from by omega), (show 5 = 0 → (σ.1 5) < 1000 ∧ n1 ≤ 60 ∧ σ.2.1 3 (σ.1 3) + n1 ≤ 30000 ∧ (σ.1 3) < 2500 from by omega)⟩
set_option maxHeartbeats 1000000 in
theorem K_X3_addSymbol_q13 {n2 : Int} {n3 : Int} {n4 : Int} {σ : S0} (hT : c_T σ) (p1 : 0 ≤ n2) (p2 : 0 ≤ n3) (p3 : n3 ≤ 60) (p4 : n2 + n3 ≤ 60000) (p5 : 0 ≤ n4) (p6 : n4 ≤ 1) (p7 : σ.2.1 3 (σ.1 3) + n3 ≤ 30000) (p8 : (σ.1 3) < 2500) (p9 : (σ.1 5) < 1000) : W_X3_addSymbol_q13 n2 n3 n4 σ (fun (x : Int) (τ : S0) => (c_T τ) ∧ (x = (σ.1 5)) ∧ ((τ.1 5) = (σ.1 5) + 1) ∧ (τ.2.1 8 = st (σ.2.1 8) (σ.1 5) n4)) := by
  have A8 : ∀ j, 0 ≤ σ.2.1 8 j ∧ σ.2.1 8 j ≤ 1 := fun j => hT.2 8 j
  have v3 : 0 ≤ σ.1 3 ∧ σ.1 3 ≤ 2500 := hT.1 3
  have v5 : 0 ≤ σ.1 5 ∧ σ.1 5 ≤ 1000 := hT.1 5
  unfold W_X3_addSymbol_q13
  refine ⟨(show 0 ≤ σ.1 5 ∧ σ.1 5 < 1000 from by omega), ?_⟩
  replace hT := cT_a (k := 7) (j := (σ.1 5)) hT (show (0 : Int) ≤ (σ.1 3) ∧ (σ.1 3) ≤ 2499 from by omega)
  refine ⟨_, K_X3_addName_q13 hT (show 0 ≤ n2 from by omega) (show 0 ≤ n3 from by omega) (show n3 ≤ 60 from by omega) (show n2 + n3 ≤ 60000 from by omega) (show -1000 ≤ (-1 - σ.1 5) from by omega) (show (-1 - σ.1 5) ≤ 1499 from by omega) (show σ.2.1 3 (σ.1 3) + n3 ≤ 30000 from by omega) (show (σ.1 3) < 2500 from by omega), ?_⟩
  intro τ4 hn_τ4 hf_τ4 hq
  obtain ⟨hT, q2_1⟩ := hq
  replace q2_1 : (τ4.1 3) = (σ.1 3) + 1 := q2_1
  have w5_τ4 : τ4.1 5 = σ.1 5 := hf_τ4.1 5 (by decide)
  have g8_τ4 : τ4.2.1 8 = σ.2.1 8 := hf_τ4.2.1 8 (by decide)
  have A8 : ∀ j, 0 ≤ τ4.2.1 8 j ∧ τ4.2.1 8 j ≤ 1 := fun j => hT.2 8 j
  have v3 : 0 ≤ τ4.1 3 ∧ τ4.1 3 ≤ 2500 := hT.1 3
  have v5 : 0 ≤ τ4.1 5 ∧ τ4.1 5 ≤ 1000 := hT.1 5
  refine ⟨(show 0 ≤ τ4.1 5 ∧ τ4.1 5 < 1000 from by omega), ?_⟩
  refine ⟨(show 0 ≤ n4 ∧ n4 ≤ 1 from by omega), ?_⟩
  replace hT := cT_a (k := 8) (j := (τ4.1 5)) hT (show (0 : Int) ≤ n4 ∧ n4 ≤ 1 from by omega)
  replace hT := cT_a (k := 9) (j := (τ4.1 5)) hT (show (-1 : Int) ≤ (-1) ∧ (-1) ≤ 1499 from by omega)
  replace hT := cT_a (k := 10) (j := (τ4.1 5)) hT (show (-1 : Int) ≤ (-1) ∧ (-1) ≤ 99 from by omega)
  refine ⟨(⟨by omega, by omega⟩ : rg (τ4.1 5 + 1)), ?_⟩
  replace hT := cT_v (i := 5) hT (show 0 ≤ (τ4.1 5 + 1) ∧ (τ4.1 5 + 1) ≤ 1000 from by omega)
  refine ⟨(⟨by omega, by omega⟩ : rg ((τ4.1 5 + 1) - 1)), ?_⟩
  exact ⟨hT, (show ((τ4.1 5 + 1) - 1) = (σ.1 5) from by omega), (show ((τ4.1 5 + 1)) = (σ.1 5) + 1 from by omega), (show (st (τ4.2.1 8) (τ4.1 5) n4) = st (σ.2.1 8) (σ.1 5) n4 from by (rw [g8_τ4, w5_τ4]))⟩
set_option maxHeartbeats 1000000 in
theorem K_X7_declareConstant {n1 : Int} {n2 : Int} {σ : S0} (hT : c_T σ) (p1 : 0 ≤ n1) (p2 : 0 ≤ n2) (p3 : n1 + n2 ≤ 60000) (p4 : ¬ σ.1 66 = 0) (p5 : (σ.1 36) ≤ 1000) : W_X7_declareConstant n1 n2 σ (fun (x : Int) (τ : S0) => (c_T τ) ∧ (0 ≤ x ∧ x ≤ 19)) := by
  have v3 : 0 ≤ σ.1 3 ∧ σ.1 3 ≤ 2500 := hT.1 3
  have v5 : 0 ≤ σ.1 5 ∧ σ.1 5 ≤ 1000 := hT.1 5
  have v36 : 0 ≤ σ.1 36 ∧ σ.1 36 ≤ 1001 := hT.1 36
  have v38 : (-1) ≤ σ.1 38 ∧ σ.1 38 ≤ 999 := hT.1 38
  have v66 : 0 ≤ σ.1 66 ∧ σ.1 66 ≤ 1 := hT.1 66
  have W38 : σ.1 38 = σ.1 38 := rfl
  have W66 : σ.1 66 = σ.1 66 := rfl
  unfold W_X7_declareConstant
  refine ⟨(⟨by omega, by omega⟩ : rg (σ.1 36 + 1)), ?_⟩
  replace hT := cT_v (i := 36) hT (show 0 ≤ (σ.1 36 + 1) ∧ (σ.1 36 + 1) ≤ 1001 from by omega)
  refine ⟨fun c2 => ?_, fun c2 => ?_⟩
  ·
    refine ⟨_, K_X7_faultOfNewSymbol hT (show 0 ≤ n2 from by omega) (show n2 ≤ 60000 from by omega), ?_⟩
    intro x4 r_x4 hq
    obtain ⟨q3_1, q3_2⟩ := hq
    replace q3_1 : 0 ≤ x4 ∧ x4 ≤ 19 := q3_1
    replace q3_2 : x4 = 0 → (σ.1 5) < 1000 ∧ n2 ≤ 60 ∧ σ.2.1 3 (σ.1 3) + n2 ≤ 30000 ∧ (σ.1 3) < 2500 := q3_2
    refine ⟨fun c6 => ?_, fun c6 => ?_⟩
    ·
      exact ⟨hT, (show 0 ≤ x4 ∧ x4 ≤ 19 from by omega)⟩
    ·
      refine ⟨(show ¬ σ.1 66 = 0 from by omega), ?_⟩
      refine ⟨_, K_X3_addSymbol_q13 hT (show 0 ≤ n1 from by omega) (show 0 ≤ n2 from by omega) (show n2 ≤ 60 from by omega) (show n1 + n2 ≤ 60000 from by omega) (show 0 ≤ 0 from by omega) (show 0 ≤ 1 from by omega) (show σ.2.1 3 (σ.1 3) + n2 ≤ 30000 from by omega) (show (σ.1 3) < 2500 from by omega) (show (σ.1 5) < 1000 from by omega), ?_⟩
      intro x9 τ10 r_x9 hn_τ10 hf_τ10 hq
      obtain ⟨hT, q8_1, q8_2, q8_3⟩ := hq
      replace q8_1 : x9 = (σ.1 5) := q8_1
      replace q8_2 : (τ10.1 5) = (σ.1 5) + 1 := q8_2
      replace q8_3 : τ10.2.1 8 = st (σ.2.1 8) (σ.1 5) 0 := q8_3
      have w36_τ10 : τ10.1 36 = (σ.1 36 + 1) := hf_τ10.1 36 (by decide)
      have w38_τ10 : τ10.1 38 = σ.1 38 := hf_τ10.1 38 (by decide)
      have w66_τ10 : τ10.1 66 = σ.1 66 := hf_τ10.1 66 (by decide)
      have W38 : τ10.1 38 = σ.1 38 := by omega
      have W66 : τ10.1 66 = σ.1 66 := by omega
      have v3 : 0 ≤ τ10.1 3 ∧ τ10.1 3 ≤ 2500 := hT.1 3
      have v5 : 0 ≤ τ10.1 5 ∧ τ10.1 5 ≤ 1000 := hT.1 5
      have v36 : 0 ≤ τ10.1 36 ∧ τ10.1 36 ≤ 1001 := hT.1 36
      have v38 : (-1) ≤ τ10.1 38 ∧ τ10.1 38 ≤ 999 := hT.1 38
      have v66 : 0 ≤ τ10.1 66 ∧ τ10.1 66 ≤ 1 := hT.1 66
      exact ⟨hT, (show 0 ≤ x4 ∧ x4 ≤ 19 from by omega)⟩
  ·
    exact ⟨hT, (show 0 ≤ 7 ∧ 7 ≤ 19 from by omega)⟩
set_option maxHeartbeats 1000000 in
theorem K_X9_open {σ : S0} (hT : c_T σ) (p1 : (σ.1 11) < 50) : W_X9_open σ (fun (τ : S0) => (c_T τ) ∧ ((τ.1 11) = (σ.1 11) + 1)) := by
  have v8 : 0 ≤ σ.1 8 ∧ σ.1 8 ≤ 1000 := hT.1 8
  have v9 : 0 ≤ σ.1 9 ∧ σ.1 9 ≤ 1500 := hT.1 9
  have v10 : 0 ≤ σ.1 10 ∧ σ.1 10 ≤ 1000 := hT.1 10
  have v11 : 0 ≤ σ.1 11 ∧ σ.1 11 ≤ 50 := hT.1 11
  have W8 : σ.1 8 = σ.1 8 := rfl
  have W9 : σ.1 9 = σ.1 9 := rfl
  have W10 : σ.1 10 = σ.1 10 := rfl
  unfold W_X9_open
  refine ⟨(⟨by omega, by omega⟩ : rg (σ.1 11 + 1)), ?_⟩
  replace hT := cT_v (i := 11) hT (show 0 ≤ (σ.1 11 + 1) ∧ (σ.1 11 + 1) ≤ 50 from by omega)
  refine ⟨_, K_X9_mark hT (show 0 ≤ ((σ.1 11 + 1)) from by omega), ?_⟩
  intro τ4 hn_τ4 hf_τ4 hq
  obtain ⟨hT, q2_1⟩ := hq
  replace q2_1 : τ4.2.1 25 = st (st (st (σ.2.1 25) (3 * ((σ.1 11 + 1))) (σ.1 8)) (3 * ((σ.1 11 + 1)) + 1) (σ.1 9)) (3 * ((σ.1 11 + 1)) + 2) (σ.1 10) := q2_1
  have w8_τ4 : τ4.1 8 = σ.1 8 := hf_τ4.1 8 (by decide)
  have w9_τ4 : τ4.1 9 = σ.1 9 := hf_τ4.1 9 (by decide)
  have w10_τ4 : τ4.1 10 = σ.1 10 := hf_τ4.1 10 (by decide)
  have w11_τ4 : τ4.1 11 = (σ.1 11 + 1) := hf_τ4.1 11 (by decide)
  have W8 : τ4.1 8 = σ.1 8 := by omega
  have W9 : τ4.1 9 = σ.1 9 := by omega
  have W10 : τ4.1 10 = σ.1 10 := by omega
  have v8 : 0 ≤ τ4.1 8 ∧ τ4.1 8 ≤ 1000 := hT.1 8
  have v9 : 0 ≤ τ4.1 9 ∧ τ4.1 9 ≤ 1500 := hT.1 9
  have v10 : 0 ≤ τ4.1 10 ∧ τ4.1 10 ≤ 1000 := hT.1 10
  have v11 : 0 ≤ τ4.1 11 ∧ τ4.1 11 ≤ 50 := hT.1 11
  exact ⟨hT, (show (τ4.1 11) = (σ.1 11) + 1 from by omega)⟩
set_option maxHeartbeats 1000000 in
theorem K_X7_openScope {σ : S0} (hT : c_T σ) : W_X7_openScope σ (fun (x : Int) (τ : S0) => (c_T τ) ∧ (0 ≤ x ∧ x ≤ 19)) := by
  have v11 : 0 ≤ σ.1 11 ∧ σ.1 11 ≤ 50 := hT.1 11
  have v35 : 0 ≤ σ.1 35 ∧ σ.1 35 ≤ 7 := hT.1 35
  have W35 : σ.1 35 = σ.1 35 := rfl
  unfold W_X7_openScope
  refine ⟨fun c1 => ?_, fun c1 => ?_⟩
  ·
    refine ⟨fun c2 => ?_, fun c2 => ?_⟩
    ·
      refine ⟨_, K_X9_open hT (show (σ.1 11) < 50 from by omega), ?_⟩
      intro τ5 hn_τ5 hf_τ5 hq
      obtain ⟨hT, q3_1⟩ := hq
      replace q3_1 : (τ5.1 11) = (σ.1 11) + 1 := q3_1
      have w35_τ5 : τ5.1 35 = σ.1 35 := hf_τ5.1 35 (by decide)
      have W35 : τ5.1 35 = σ.1 35 := by omega
      have v11 : 0 ≤ τ5.1 11 ∧ τ5.1 11 ≤ 50 := hT.1 11
      have v35 : 0 ≤ τ5.1 35 ∧ τ5.1 35 ≤ 7 := hT.1 35
      exact ⟨hT, (show 0 ≤ 0 ∧ 0 ≤ 19 from by omega)⟩
    ·
      exact ⟨hT, (show 0 ≤ 5 ∧ 5 ≤ 19 from by omega)⟩
  ·
    exact ⟨hT, (show 0 ≤ 4 ∧ 4 ≤ 19 from by omega)⟩
set_option maxHeartbeats 1000000 in
theorem K_X9_cut {σ : S0} (hT : c_T σ) (p1 : J_hf σ) (p2 : 0 ≤ (σ.1 11)) : W_X9_cut σ (fun (τ : S0) => (c_T τ) ∧ ((τ.1 8) = σ.2.1 25 (3 * (σ.1 11))) ∧ ((τ.1 9) = σ.2.1 25 (3 * (σ.1 11) + 1)) ∧ ((τ.1 10) = σ.2.1 25 (3 * (σ.1 11) + 2))) := by
  have A13 : ∀ j, 0 ≤ σ.2.1 13 j ∧ σ.2.1 13 j ≤ 4 := fun j => hT.2 13 j
  have A14 : ∀ j, 0 ≤ σ.2.1 14 j ∧ σ.2.1 14 j ≤ 30000 := fun j => hT.2 14 j
  have A22 : ∀ j, 0 ≤ σ.2.1 22 j ∧ σ.2.1 22 j ≤ 1499 := fun j => hT.2 22 j
  have v8 : 0 ≤ σ.1 8 ∧ σ.1 8 ≤ 1000 := hT.1 8
  have v9 : 0 ≤ σ.1 9 ∧ σ.1 9 ≤ 1500 := hT.1 9
  have v10 : 0 ≤ σ.1 10 ∧ σ.1 10 ≤ 1000 := hT.1 10
  have v11 : 0 ≤ σ.1 11 ∧ σ.1 11 ≤ 50 := hT.1 11
  have W11 : σ.1 11 = σ.1 11 := rfl
  have G13 : σ.2.1 13 = σ.2.1 13 := rfl
  have G14 : σ.2.1 14 = σ.2.1 14 := rfl
  have G22 : σ.2.1 22 = σ.2.1 22 := rfl
  have G25 : σ.2.1 25 = σ.2.1 25 := rfl
  intro P14 P75 P166 h14 h75 h166
  unfold J_hf at p1
  have l_166 : ∀ (m_166 : Nat) (u1_166 : Int) (τ_166 : S0), 1001 - u1_166 < (m_166 : Int) → (c_T τ_166) → (τ_166.1 11 = σ.1 11) → (τ_166.2.1 13 = σ.2.1 13) → (τ_166.2.1 14 = σ.2.1 14) → (τ_166.2.1 22 = σ.2.1 22) → (τ_166.2.1 25 = σ.2.1 25) → (0 ≤ u1_166) → (u1_166 ≤ 1000) → ((τ_166.1 10) = σ.2.1 25 (3 * (σ.1 11) + 2)) → ((τ_166.1 9) = σ.2.1 25 (3 * (σ.1 11) + 1)) → P166 u1_166 τ_166 := by
    intro m_166
    induction m_166 with
    | zero =>
      intro u1_166 τ_166 hm hT W11 G13 G14 G22 G25 i166_1 i166_2 i166_3 i166_4
      have A13 : ∀ j, 0 ≤ τ_166.2.1 13 j ∧ τ_166.2.1 13 j ≤ 4 := fun j => hT.2 13 j
      have A14 : ∀ j, 0 ≤ τ_166.2.1 14 j ∧ τ_166.2.1 14 j ≤ 30000 := fun j => hT.2 14 j
      have A22 : ∀ j, 0 ≤ τ_166.2.1 22 j ∧ τ_166.2.1 22 j ≤ 1499 := fun j => hT.2 22 j
      have v8 : 0 ≤ τ_166.1 8 ∧ τ_166.1 8 ≤ 1000 := hT.1 8
      have v9 : 0 ≤ τ_166.1 9 ∧ τ_166.1 9 ≤ 1500 := hT.1 9
      have v10 : 0 ≤ τ_166.1 10 ∧ τ_166.1 10 ≤ 1000 := hT.1 10
      have v11 : 0 ≤ τ_166.1 11 ∧ τ_166.1 11 ≤ 50 := hT.1 11
      exfalso; omega
    | succ m_166 ih_166 =>
      intro u1_166 τ_166 hm_166 hT W11 G13 G14 G22 G25 i166_1 i166_2 i166_3 i166_4
      have A13 : ∀ j, 0 ≤ τ_166.2.1 13 j ∧ τ_166.2.1 13 j ≤ 4 := fun j => hT.2 13 j
      have A14 : ∀ j, 0 ≤ τ_166.2.1 14 j ∧ τ_166.2.1 14 j ≤ 30000 := fun j => hT.2 14 j
      have A22 : ∀ j, 0 ≤ τ_166.2.1 22 j ∧ τ_166.2.1 22 j ≤ 1499 := fun j => hT.2 22 j
      have v8 : 0 ≤ τ_166.1 8 ∧ τ_166.1 8 ≤ 1000 := hT.1 8
      have v9 : 0 ≤ τ_166.1 9 ∧ τ_166.1 9 ≤ 1500 := hT.1 9
      have v10 : 0 ≤ τ_166.1 10 ∧ τ_166.1 10 ≤ 1000 := hT.1 10
      have v11 : 0 ≤ τ_166.1 11 ∧ τ_166.1 11 ≤ 50 := hT.1 11
      refine h166 _ _ ?_
      refine ⟨fun c34 => ?_, fun c34 => ?_⟩
      ·
        refine ⟨(show 0 ≤ (3 * τ_166.1 11) ∧ (3 * τ_166.1 11) < 153 from by omega), ?_⟩
        intro x36 r_x36 e_x36
        have b_x36 : (0 ≤ x36 ∧ x36 ≤ 1500) ∧ (¬ (3 * τ_166.1 11) % 3 = 1 → x36 ≤ 1000) := by rw [e_x36]; exact marks_c hT _
        replace hT := cT_v (i := 8) hT (show 0 ≤ x36 ∧ x36 ≤ 1000 from by omega)
        exact ⟨hT, (show (x36) = σ.2.1 25 (3 * (σ.1 11)) from by (rw [e_x36, G25, W11])), (show (τ_166.1 9) = σ.2.1 25 (3 * (σ.1 11) + 1) from by omega), (show (τ_166.1 10) = σ.2.1 25 (3 * (σ.1 11) + 2) from by omega)⟩
      ·
        refine ⟨(show 0 ≤ u1_166 ∧ u1_166 < 1000 from by omega), ?_⟩
        intro x38 r_x38 e_x38
        have b_x38 : 0 ≤ x38 ∧ x38 ≤ 999 := by rw [e_x38]; exact hT.2 20 _
        refine ⟨(show 0 ≤ x38 ∧ x38 < 1000 from by omega), ?_⟩
        replace hT := cT_a (k := 18) (j := x38) hT (show (0 : Int) ≤ 0 ∧ 0 ≤ 1 from by omega)
        refine ⟨(⟨by omega, by omega⟩ : rg (u1_166 + 1)), ?_⟩
        exact ih_166 _ _ (show (1001 - (u1_166 + 1) : Int) < ((m_166 : Nat) : Int) from by (omega)) hT (show τ_166.1 11 = σ.1 11 from by omega) G13 G14 G22 G25 (show 0 ≤ (u1_166 + 1) from by omega) (show (u1_166 + 1) ≤ 1000 from by omega) (show (τ_166.1 10) = σ.2.1 25 (3 * (σ.1 11) + 2) from by omega) (show (τ_166.1 9) = σ.2.1 25 (3 * (σ.1 11) + 1) from by (first | omega | (rw [e_x17, G25, W11])))
  have l_75 : ∀ (m_75 : Nat) (u1_75 : Int) (τ_75 : S0), 1501 - u1_75 < (m_75 : Int) → (c_T τ_75) → (τ_75.1 11 = σ.1 11) → (τ_75.2.1 13 = σ.2.1 13) → (τ_75.2.1 14 = σ.2.1 14) → (τ_75.2.1 22 = σ.2.1 22) → (τ_75.2.1 25 = σ.2.1 25) → (0 ≤ u1_75) → (u1_75 ≤ 1500) → ((τ_75.1 9) = (σ.1 9)) → ((τ_75.1 10) = σ.2.1 25 (3 * (σ.1 11) + 2)) → P75 u1_75 τ_75 := by
    intro m_75
    induction m_75 with
    | zero =>
      intro u1_75 τ_75 hm hT W11 G13 G14 G22 G25 i75_1 i75_2 i75_3 i75_4
      have A13 : ∀ j, 0 ≤ τ_75.2.1 13 j ∧ τ_75.2.1 13 j ≤ 4 := fun j => hT.2 13 j
      have A14 : ∀ j, 0 ≤ τ_75.2.1 14 j ∧ τ_75.2.1 14 j ≤ 30000 := fun j => hT.2 14 j
      have A22 : ∀ j, 0 ≤ τ_75.2.1 22 j ∧ τ_75.2.1 22 j ≤ 1499 := fun j => hT.2 22 j
      have v8 : 0 ≤ τ_75.1 8 ∧ τ_75.1 8 ≤ 1000 := hT.1 8
      have v9 : 0 ≤ τ_75.1 9 ∧ τ_75.1 9 ≤ 1500 := hT.1 9
      have v10 : 0 ≤ τ_75.1 10 ∧ τ_75.1 10 ≤ 1000 := hT.1 10
      have v11 : 0 ≤ τ_75.1 11 ∧ τ_75.1 11 ≤ 50 := hT.1 11
      exfalso; omega
    | succ m_75 ih_75 =>
      intro u1_75 τ_75 hm_75 hT W11 G13 G14 G22 G25 i75_1 i75_2 i75_3 i75_4
      have A13 : ∀ j, 0 ≤ τ_75.2.1 13 j ∧ τ_75.2.1 13 j ≤ 4 := fun j => hT.2 13 j
      have A14 : ∀ j, 0 ≤ τ_75.2.1 14 j ∧ τ_75.2.1 14 j ≤ 30000 := fun j => hT.2 14 j
      have A22 : ∀ j, 0 ≤ τ_75.2.1 22 j ∧ τ_75.2.1 22 j ≤ 1499 := fun j => hT.2 22 j
      have v8 : 0 ≤ τ_75.1 8 ∧ τ_75.1 8 ≤ 1000 := hT.1 8
      have v9 : 0 ≤ τ_75.1 9 ∧ τ_75.1 9 ≤ 1500 := hT.1 9
      have v10 : 0 ≤ τ_75.1 10 ∧ τ_75.1 10 ≤ 1000 := hT.1 10
      have v11 : 0 ≤ τ_75.1 11 ∧ τ_75.1 11 ≤ 50 := hT.1 11
      refine h75 _ _ ?_
      refine ⟨fun c15 => ?_, fun c15 => ?_⟩
      ·
        refine ⟨(show 0 ≤ ((3 * τ_75.1 11) + 1) ∧ ((3 * τ_75.1 11) + 1) < 153 from by omega), ?_⟩
        intro x17 r_x17 e_x17
        have b_x17 : (0 ≤ x17 ∧ x17 ≤ 1500) ∧ (¬ ((3 * τ_75.1 11) + 1) % 3 = 1 → x17 ≤ 1000) := by rw [e_x17]; exact marks_c hT _
        replace hT := cT_v (i := 9) hT (show 0 ≤ x17 ∧ x17 ≤ 1500 from by omega)
        refine ⟨(show 0 ≤ (3 * τ_75.1 11) ∧ (3 * τ_75.1 11) < 153 from by omega), ?_⟩
        intro x19 r_x19 e_x19
        have b_x19 : (0 ≤ x19 ∧ x19 ≤ 1500) ∧ (¬ (3 * τ_75.1 11) % 3 = 1 → x19 ≤ 1000) := by rw [e_x19]; exact marks_c hT _
        exact l_166 ((1001 - x19 : Int).toNat + 1) _ _ (show (1001 - x19 : Int) < (((1001 - x19 : Int).toNat + 1 : Nat) : Int) from by (omega)) hT (show τ_75.1 11 = σ.1 11 from by omega) G13 G14 G22 G25 (show 0 ≤ x19 from by omega) (show x19 ≤ 1000 from by omega) (show (τ_75.1 10) = σ.2.1 25 (3 * (σ.1 11) + 2) from by omega) (show (x17) = σ.2.1 25 (3 * (σ.1 11) + 1) from by (first | omega | (rw [e_x17, G25, W11])))
      ·
        refine ⟨(show 0 ≤ u1_75 ∧ u1_75 < 1500 from by omega), ?_⟩
        intro x21 r_x21 e_x21
        have b_x21 : 0 ≤ x21 ∧ x21 ≤ 1499 := by rw [e_x21]; exact hT.2 22 _
        refine ⟨(show 0 ≤ x21 ∧ x21 < 1500 from by omega), ?_⟩
        replace hT := cT_a (k := 21) (j := x21) hT (show (0 : Int) ≤ 0 ∧ 0 ≤ 1 from by omega)
        intro x23 r_x23 e_x23
        have b_x23 : 0 ≤ x23 ∧ x23 ≤ 1499 := by rw [e_x23]; exact hT.2 22 _
        refine ⟨(show 0 ≤ x23 ∧ x23 < 1500 from by omega), ?_⟩
        intro x25 r_x25 e_x25
        have b_x25 : 0 ≤ x25 ∧ x25 ≤ 4 := by rw [e_x25]; exact hT.2 13 _
        refine ⟨fun c26 => ?_, fun c26 => ?_⟩
        ·
          refine ⟨(⟨by omega, by omega⟩ : rg (u1_75 + 1)), ?_⟩
          exact ih_75 _ _ (show (1501 - (u1_75 + 1) : Int) < ((m_75 : Nat) : Int) from by (omega)) hT (show τ_75.1 11 = σ.1 11 from by omega) G13 G14 G22 G25 (show 0 ≤ (u1_75 + 1) from by omega) (show (u1_75 + 1) ≤ 1500 from by omega) (show (τ_75.1 9) = (σ.1 9) from by omega) (show (τ_75.1 10) = σ.2.1 25 (3 * (σ.1 11) + 2) from by (first | omega | (rw [e_x5, G25, W11])))
        ·
          intro x28 r_x28 e_x28
          have b_x28 : 0 ≤ x28 ∧ x28 ≤ 1499 := by rw [e_x28]; exact hT.2 22 _
          have jj := p1 u1_75 (by omega) (by omega)
          rw [← G13, ← G14, ← G22, ← e_x23, ← e_x25] at jj
          rw [show x23 = x28 from by omega] at jj
          refine ⟨_, K_X3_variableOf hT (show 0 ≤ x28 from by omega) (show x28 ≤ 1500 from by omega) (show τ_75.2.1 14 x28 < 29999 from by omega), ?_⟩
          intro x30 r_x30 hq
          obtain ⟨q29_1, q29_2⟩ := hq
          replace q29_1 : x30 = τ_75.2.1 15 (τ_75.2.1 14 x28 + 1) := q29_1
          replace q29_2 : 0 ≤ x30 ∧ x30 ≤ 999 := q29_2
          refine ⟨(show 0 ≤ x30 ∧ x30 < 1000 from by omega), ?_⟩
          replace hT := cT_a (k := 19) (j := x30) hT (show (-1 : Int) ≤ (-1) ∧ (-1) ≤ 1499 from by omega)
          refine ⟨(⟨by omega, by omega⟩ : rg (u1_75 + 1)), ?_⟩
          exact ih_75 _ _ (show (1501 - (u1_75 + 1) : Int) < ((m_75 : Nat) : Int) from by (omega)) hT (show τ_75.1 11 = σ.1 11 from by omega) G13 G14 G22 G25 (show 0 ≤ (u1_75 + 1) from by omega) (show (u1_75 + 1) ≤ 1500 from by omega) (show (τ_75.1 9) = (σ.1 9) from by omega) (show (τ_75.1 10) = σ.2.1 25 (3 * (σ.1 11) + 2) from by (first | omega | (rw [e_x5, G25, W11])))
  have l_14 : ∀ (m_14 : Nat) (u1_14 : Int) (τ_14 : S0), 1001 - u1_14 < (m_14 : Int) → (c_T τ_14) → (τ_14.1 11 = σ.1 11) → (τ_14.2.1 13 = σ.2.1 13) → (τ_14.2.1 14 = σ.2.1 14) → (τ_14.2.1 22 = σ.2.1 22) → (τ_14.2.1 25 = σ.2.1 25) → (0 ≤ u1_14) → (u1_14 ≤ 1000) → ((τ_14.1 9) = (σ.1 9)) → P14 u1_14 τ_14 := by
    intro m_14
    induction m_14 with
    | zero =>
      intro u1_14 τ_14 hm hT W11 G13 G14 G22 G25 i14_1 i14_2 i14_3
      have A13 : ∀ j, 0 ≤ τ_14.2.1 13 j ∧ τ_14.2.1 13 j ≤ 4 := fun j => hT.2 13 j
      have A14 : ∀ j, 0 ≤ τ_14.2.1 14 j ∧ τ_14.2.1 14 j ≤ 30000 := fun j => hT.2 14 j
      have A22 : ∀ j, 0 ≤ τ_14.2.1 22 j ∧ τ_14.2.1 22 j ≤ 1499 := fun j => hT.2 22 j
      have v8 : 0 ≤ τ_14.1 8 ∧ τ_14.1 8 ≤ 1000 := hT.1 8
      have v9 : 0 ≤ τ_14.1 9 ∧ τ_14.1 9 ≤ 1500 := hT.1 9
      have v10 : 0 ≤ τ_14.1 10 ∧ τ_14.1 10 ≤ 1000 := hT.1 10
      have v11 : 0 ≤ τ_14.1 11 ∧ τ_14.1 11 ≤ 50 := hT.1 11
      exfalso; omega
    | succ m_14 ih_14 =>
      intro u1_14 τ_14 hm_14 hT W11 G13 G14 G22 G25 i14_1 i14_2 i14_3
      have A13 : ∀ j, 0 ≤ τ_14.2.1 13 j ∧ τ_14.2.1 13 j ≤ 4 := fun j => hT.2 13 j
      have A14 : ∀ j, 0 ≤ τ_14.2.1 14 j ∧ τ_14.2.1 14 j ≤ 30000 := fun j => hT.2 14 j
      have A22 : ∀ j, 0 ≤ τ_14.2.1 22 j ∧ τ_14.2.1 22 j ≤ 1499 := fun j => hT.2 22 j
      have v8 : 0 ≤ τ_14.1 8 ∧ τ_14.1 8 ≤ 1000 := hT.1 8
      have v9 : 0 ≤ τ_14.1 9 ∧ τ_14.1 9 ≤ 1500 := hT.1 9
      have v10 : 0 ≤ τ_14.1 10 ∧ τ_14.1 10 ≤ 1000 := hT.1 10
      have v11 : 0 ≤ τ_14.1 11 ∧ τ_14.1 11 ≤ 50 := hT.1 11
      refine h14 _ _ ?_
      refine ⟨fun c3 => ?_, fun c3 => ?_⟩
      ·
        refine ⟨(show 0 ≤ ((3 * τ_14.1 11) + 2) ∧ ((3 * τ_14.1 11) + 2) < 153 from by omega), ?_⟩
        intro x5 r_x5 e_x5
        have b_x5 : (0 ≤ x5 ∧ x5 ≤ 1500) ∧ (¬ ((3 * τ_14.1 11) + 2) % 3 = 1 → x5 ≤ 1000) := by rw [e_x5]; exact marks_c hT _
        replace hT := cT_v (i := 10) hT (show 0 ≤ x5 ∧ x5 ≤ 1000 from by omega)
        refine ⟨(show 0 ≤ ((3 * τ_14.1 11) + 1) ∧ ((3 * τ_14.1 11) + 1) < 153 from by omega), ?_⟩
        intro x7 r_x7 e_x7
        have b_x7 : (0 ≤ x7 ∧ x7 ≤ 1500) ∧ (¬ ((3 * τ_14.1 11) + 1) % 3 = 1 → x7 ≤ 1000) := by rw [e_x7]; exact marks_c hT _
        exact l_75 ((1501 - x7 : Int).toNat + 1) _ _ (show (1501 - x7 : Int) < (((1501 - x7 : Int).toNat + 1 : Nat) : Int) from by (omega)) hT (show τ_14.1 11 = σ.1 11 from by omega) G13 G14 G22 G25 (show 0 ≤ x7 from by omega) (show x7 ≤ 1500 from by omega) (show (τ_14.1 9) = (σ.1 9) from by omega) (show (x5) = σ.2.1 25 (3 * (σ.1 11) + 2) from by (first | omega | (rw [e_x5, G25, W11])))
      ·
        refine ⟨(show 0 ≤ u1_14 ∧ u1_14 < 1000 from by omega), ?_⟩
        intro x9 r_x9 e_x9
        have b_x9 : 0 ≤ x9 ∧ x9 ≤ 999 := by rw [e_x9]; exact hT.2 23 _
        intro x10 r_x10 e_x10
        have b_x10 : 0 ≤ x10 ∧ x10 ≤ 999 := by rw [e_x10]; exact hT.2 24 _
        refine ⟨_, K_X9_turnPair hT (show 0 ≤ x9 from by omega) (show x9 < 1000 from by omega) (show 0 ≤ x10 from by omega) (show x10 < 1000 from by omega), ?_⟩
        intro τ13 hn_τ13 hf_τ13 hq
        replace hT := hq
        have w8_τ13 : τ13.1 8 = τ_14.1 8 := hf_τ13.1 8 (by decide)
        have w9_τ13 : τ13.1 9 = τ_14.1 9 := hf_τ13.1 9 (by decide)
        have w10_τ13 : τ13.1 10 = τ_14.1 10 := hf_τ13.1 10 (by decide)
        have w11_τ13 : τ13.1 11 = τ_14.1 11 := hf_τ13.1 11 (by decide)
        have g13_τ13 : τ13.2.1 13 = τ_14.2.1 13 := hf_τ13.2.1 13 (by decide)
        have g14_τ13 : τ13.2.1 14 = τ_14.2.1 14 := hf_τ13.2.1 14 (by decide)
        have g22_τ13 : τ13.2.1 22 = τ_14.2.1 22 := hf_τ13.2.1 22 (by decide)
        have g25_τ13 : τ13.2.1 25 = τ_14.2.1 25 := hf_τ13.2.1 25 (by decide)
        have W11 : τ13.1 11 = σ.1 11 := by omega
        have G13 : τ13.2.1 13 = σ.2.1 13 := (g13_τ13).trans G13
        have G14 : τ13.2.1 14 = σ.2.1 14 := (g14_τ13).trans G14
        have G22 : τ13.2.1 22 = σ.2.1 22 := (g22_τ13).trans G22
        have G25 : τ13.2.1 25 = σ.2.1 25 := (g25_τ13).trans G25
        have A13 : ∀ j, 0 ≤ τ13.2.1 13 j ∧ τ13.2.1 13 j ≤ 4 := fun j => hT.2 13 j
        have A14 : ∀ j, 0 ≤ τ13.2.1 14 j ∧ τ13.2.1 14 j ≤ 30000 := fun j => hT.2 14 j
        have A22 : ∀ j, 0 ≤ τ13.2.1 22 j ∧ τ13.2.1 22 j ≤ 1499 := fun j => hT.2 22 j
        have v8 : 0 ≤ τ13.1 8 ∧ τ13.1 8 ≤ 1000 := hT.1 8
        have v9 : 0 ≤ τ13.1 9 ∧ τ13.1 9 ≤ 1500 := hT.1 9
        have v10 : 0 ≤ τ13.1 10 ∧ τ13.1 10 ≤ 1000 := hT.1 10
        have v11 : 0 ≤ τ13.1 11 ∧ τ13.1 11 ≤ 50 := hT.1 11
        refine ⟨(⟨by omega, by omega⟩ : rg (u1_14 + 1)), ?_⟩
        exact ih_14 _ _ (show (1001 - (u1_14 + 1) : Int) < ((m_14 : Nat) : Int) from by (omega)) hT (show τ13.1 11 = σ.1 11 from by omega) G13 G14 G22 G25 (show 0 ≤ (u1_14 + 1) from by omega) (show (u1_14 + 1) ≤ 1000 from by omega) (show (τ13.1 9) = (σ.1 9) from by omega)
  refine ⟨(show 0 ≤ ((3 * σ.1 11) + 2) ∧ ((3 * σ.1 11) + 2) < 153 from by omega), ?_⟩
  intro x2 r_x2 e_x2
  have b_x2 : (0 ≤ x2 ∧ x2 ≤ 1500) ∧ (¬ ((3 * σ.1 11) + 2) % 3 = 1 → x2 ≤ 1000) := by rw [e_x2]; exact marks_c hT _
  exact l_14 ((1001 - x2 : Int).toNat + 1) _ _ (show (1001 - x2 : Int) < (((1001 - x2 : Int).toNat + 1 : Nat) : Int) from by (omega)) hT (show σ.1 11 = σ.1 11 from by omega) G13 G14 G22 G25 (show 0 ≤ x2 from by omega) (show x2 ≤ 1000 from by omega) (show (σ.1 9) = (σ.1 9) from by omega)
set_option maxHeartbeats 1000000 in
theorem K_X9_close {σ : S0} (hT : c_T σ) (p1 : J_hf σ) (p2 : 0 < (σ.1 11)) : W_X9_close σ (fun (τ : S0) => (c_T τ) ∧ ((τ.1 11) = (σ.1 11) - 1)) := by
  have v8 : 0 ≤ σ.1 8 ∧ σ.1 8 ≤ 1000 := hT.1 8
  have v9 : 0 ≤ σ.1 9 ∧ σ.1 9 ≤ 1500 := hT.1 9
  have v10 : 0 ≤ σ.1 10 ∧ σ.1 10 ≤ 1000 := hT.1 10
  have v11 : 0 ≤ σ.1 11 ∧ σ.1 11 ≤ 50 := hT.1 11
  unfold W_X9_close
  refine ⟨_, K_X9_cut hT (show J_hf σ from by omega) (show 0 ≤ (σ.1 11) from by omega), ?_⟩
  intro τ3 hn_τ3 hf_τ3 hq
  obtain ⟨hT, q1_1, q1_2, q1_3⟩ := hq
  replace q1_1 : (τ3.1 8) = σ.2.1 25 (3 * (σ.1 11)) := q1_1
  replace q1_2 : (τ3.1 9) = σ.2.1 25 (3 * (σ.1 11) + 1) := q1_2
  replace q1_3 : (τ3.1 10) = σ.2.1 25 (3 * (σ.1 11) + 2) := q1_3
  have w11_τ3 : τ3.1 11 = σ.1 11 := hf_τ3.1 11 (by decide)
  have v8 : 0 ≤ τ3.1 8 ∧ τ3.1 8 ≤ 1000 := hT.1 8
  have v9 : 0 ≤ τ3.1 9 ∧ τ3.1 9 ≤ 1500 := hT.1 9
  have v10 : 0 ≤ τ3.1 10 ∧ τ3.1 10 ≤ 1000 := hT.1 10
  have v11 : 0 ≤ τ3.1 11 ∧ τ3.1 11 ≤ 50 := hT.1 11
  refine ⟨(⟨by omega, by omega⟩ : rg (τ3.1 11 - 1)), ?_⟩
  replace hT := cT_v (i := 11) hT (show 0 ≤ (τ3.1 11 - 1) ∧ (τ3.1 11 - 1) ≤ 50 from by omega)
  exact ⟨hT, (show ((τ3.1 11 - 1)) = (σ.1 11) - 1 from by omega)⟩
set_option maxHeartbeats 1000000 in
theorem K_X7_closeScope {σ : S0} (hT : c_T σ) (p1 : J_hf σ) : W_X7_closeScope σ (fun (x : Int) (τ : S0) => (c_T τ) ∧ (0 ≤ x ∧ x ≤ 19)) := by
  have v11 : 0 ≤ σ.1 11 ∧ σ.1 11 ≤ 50 := hT.1 11
  have v35 : 0 ≤ σ.1 35 ∧ σ.1 35 ≤ 7 := hT.1 35
  have W35 : σ.1 35 = σ.1 35 := rfl
  unfold W_X7_closeScope
  refine ⟨fun c1 => ?_, fun c1 => ?_⟩
  ·
    exact ⟨hT, (show 0 ≤ 4 ∧ 4 ≤ 19 from by omega)⟩
  ·
    refine ⟨fun c2 => ?_, fun c2 => ?_⟩
    ·
      refine ⟨_, K_X9_close hT (show J_hf σ from by omega) (show 0 < (σ.1 11) from by omega), ?_⟩
      intro τ5 hn_τ5 hf_τ5 hq
      obtain ⟨hT, q3_1⟩ := hq
      replace q3_1 : (τ5.1 11) = (σ.1 11) - 1 := q3_1
      have w35_τ5 : τ5.1 35 = σ.1 35 := hf_τ5.1 35 (by decide)
      have W35 : τ5.1 35 = σ.1 35 := by omega
      have v11 : 0 ≤ τ5.1 11 ∧ τ5.1 11 ≤ 50 := hT.1 11
      have v35 : 0 ≤ τ5.1 35 ∧ τ5.1 35 ≤ 7 := hT.1 35
      exact ⟨hT, (show 0 ≤ 0 ∧ 0 ≤ 19 from by omega)⟩
    ·
      exact ⟨hT, (show 0 ≤ 4 ∧ 4 ≤ 19 from by omega)⟩
set_option maxHeartbeats 1000000 in
theorem K_X9_addHypothesis {n1 : Int} {σ : S0} (hT : c_T σ) (p1 : 0 ≤ n1) (p2 : n1 < 1500) (p3 : (σ.1 9) < 1500) (p4 : σ.2.1 13 n1 = 0 → σ.2.1 14 n1 < 29999) : W_X9_addHypothesis n1 σ (fun (τ : S0) => (c_T τ) ∧ ((τ.1 9) = (σ.1 9) + 1) ∧ (τ.2.1 22 = st (σ.2.1 22) (σ.1 9) n1)) := by
  have v9 : 0 ≤ σ.1 9 ∧ σ.1 9 ≤ 1500 := hT.1 9
  unfold W_X9_addHypothesis
  refine ⟨(show 0 ≤ n1 ∧ n1 < 1500 from by omega), ?_⟩
  replace hT := cT_a (k := 21) (j := n1) hT (show (0 : Int) ≤ 1 ∧ 1 ≤ 1 from by omega)
  refine ⟨(show 0 ≤ σ.1 9 ∧ σ.1 9 < 1500 from by omega), ?_⟩
  replace hT := cT_a (k := 22) (j := (σ.1 9)) hT (show (0 : Int) ≤ n1 ∧ n1 ≤ 1499 from by omega)
  refine ⟨(⟨by omega, by omega⟩ : rg (σ.1 9 + 1)), ?_⟩
  replace hT := cT_v (i := 9) hT (show 0 ≤ (σ.1 9 + 1) ∧ (σ.1 9 + 1) ≤ 1500 from by omega)
  intro x4 r_x4 e_x4
  have b_x4 : 0 ≤ x4 ∧ x4 ≤ 4 := by rw [e_x4]; exact hT.2 13 _
  refine ⟨fun c5 => ?_, fun c5 => ?_⟩
  ·
    exact ⟨hT, (show ((σ.1 9 + 1)) = (σ.1 9) + 1 from by omega), (show (st (σ.2.1 22) (σ.1 9) n1) = st (σ.2.1 22) (σ.1 9) n1 from by rfl)⟩
  ·
    refine ⟨_, K_X3_variableOf hT (show 0 ≤ n1 from by omega) (show n1 ≤ 1500 from by omega) (show σ.2.1 14 n1 < 29999 from by omega), ?_⟩
    intro x7 r_x7 hq
    obtain ⟨q6_1, q6_2⟩ := hq
    replace q6_1 : x7 = σ.2.1 15 (σ.2.1 14 n1 + 1) := q6_1
    replace q6_2 : 0 ≤ x7 ∧ x7 ≤ 999 := q6_2
    refine ⟨(show 0 ≤ x7 ∧ x7 < 1000 from by omega), ?_⟩
    replace hT := cT_a (k := 19) (j := x7) hT (show (-1 : Int) ≤ n1 ∧ n1 ≤ 1499 from by omega)
    exact ⟨hT, (show ((σ.1 9 + 1)) = (σ.1 9) + 1 from by omega), (show (st (σ.2.1 22) (σ.1 9) n1) = st (σ.2.1 22) (σ.1 9) n1 from by rfl)⟩
set_option maxHeartbeats 1000000 in
theorem K_X9_keep {σ : S0} (hT : c_T σ) : W_X9_keep σ (fun (τ : S0) => (c_T τ) ∧ ((τ.1 11) = 0)) := by
  have v8 : 0 ≤ σ.1 8 ∧ σ.1 8 ≤ 1000 := hT.1 8
  have v9 : 0 ≤ σ.1 9 ∧ σ.1 9 ≤ 1500 := hT.1 9
  have v10 : 0 ≤ σ.1 10 ∧ σ.1 10 ≤ 1000 := hT.1 10
  have v11 : 0 ≤ σ.1 11 ∧ σ.1 11 ≤ 50 := hT.1 11
  have W8 : σ.1 8 = σ.1 8 := rfl
  have W9 : σ.1 9 = σ.1 9 := rfl
  have W10 : σ.1 10 = σ.1 10 := rfl
  unfold W_X9_keep
  replace hT := cT_v (i := 11) hT (show (0 : Int) ≤ 0 ∧ 0 ≤ 50 from by omega)
  refine ⟨_, K_X9_mark hT (show 0 ≤ ((0 : Int)) from by omega), ?_⟩
  intro τ3 hn_τ3 hf_τ3 hq
  obtain ⟨hT, q1_1⟩ := hq
  replace q1_1 : τ3.2.1 25 = st (st (st (σ.2.1 25) (3 * ((0 : Int))) (σ.1 8)) (3 * ((0 : Int)) + 1) (σ.1 9)) (3 * ((0 : Int)) + 2) (σ.1 10) := q1_1
  have w8_τ3 : τ3.1 8 = σ.1 8 := hf_τ3.1 8 (by decide)
  have w9_τ3 : τ3.1 9 = σ.1 9 := hf_τ3.1 9 (by decide)
  have w10_τ3 : τ3.1 10 = σ.1 10 := hf_τ3.1 10 (by decide)
  have w11_τ3 : τ3.1 11 = 0 := hf_τ3.1 11 (by decide)
  have W8 : τ3.1 8 = σ.1 8 := by omega
  have W9 : τ3.1 9 = σ.1 9 := by omega
  have W10 : τ3.1 10 = σ.1 10 := by omega
  have v8 : 0 ≤ τ3.1 8 ∧ τ3.1 8 ≤ 1000 := hT.1 8
  have v9 : 0 ≤ τ3.1 9 ∧ τ3.1 9 ≤ 1500 := hT.1 9
  have v10 : 0 ≤ τ3.1 10 ∧ τ3.1 10 ≤ 1000 := hT.1 10
  have v11 : 0 ≤ τ3.1 11 ∧ τ3.1 11 ≤ 50 := hT.1 11
  exact ⟨hT, (show (τ3.1 11) = 0 from by omega)⟩
set_option maxHeartbeats 1000000 in
theorem K_X9_goBack {σ : S0} (hT : c_T σ) (p1 : J_hf σ) : W_X9_goBack σ (fun (τ : S0) => (c_T τ) ∧ ((τ.1 11) = 0)) := by
  have v8 : 0 ≤ σ.1 8 ∧ σ.1 8 ≤ 1000 := hT.1 8
  have v9 : 0 ≤ σ.1 9 ∧ σ.1 9 ≤ 1500 := hT.1 9
  have v10 : 0 ≤ σ.1 10 ∧ σ.1 10 ≤ 1000 := hT.1 10
  have v11 : 0 ≤ σ.1 11 ∧ σ.1 11 ≤ 50 := hT.1 11
  unfold W_X9_goBack
  replace hT := cT_v (i := 11) hT (show (0 : Int) ≤ 0 ∧ 0 ≤ 50 from by omega)
  have p2 : J_hf (s_v σ 11 0) := p1
  refine ⟨_, K_X9_cut hT (show J_hf (s_v σ 11 0) from by exact p2) (show 0 ≤ ((0 : Int)) from by omega), ?_⟩
  intro τ3 hn_τ3 hf_τ3 hq
  obtain ⟨hT, q1_1, q1_2, q1_3⟩ := hq
  replace q1_1 : (τ3.1 8) = σ.2.1 25 (3 * ((0 : Int))) := q1_1
  replace q1_2 : (τ3.1 9) = σ.2.1 25 (3 * ((0 : Int)) + 1) := q1_2
  replace q1_3 : (τ3.1 10) = σ.2.1 25 (3 * ((0 : Int)) + 2) := q1_3
  have w11_τ3 : τ3.1 11 = 0 := hf_τ3.1 11 (by decide)
  have v8 : 0 ≤ τ3.1 8 ∧ τ3.1 8 ≤ 1000 := hT.1 8
  have v9 : 0 ≤ τ3.1 9 ∧ τ3.1 9 ≤ 1500 := hT.1 9
  have v10 : 0 ≤ τ3.1 10 ∧ τ3.1 10 ≤ 1000 := hT.1 10
  have v11 : 0 ≤ τ3.1 11 ∧ τ3.1 11 ≤ 50 := hT.1 11
  exact ⟨hT, (show (τ3.1 11) = 0 from by omega)⟩
