-- pure: the model reads labelled statements
theorem m_J_x {σ τ : S0} (h : m_J σ) (a : m_ag σ τ) (sv : j_eq (σ.1 9) (σ.2.1 28) (τ.2.1 28)) (hT : m_T σ) (n : τ.1 5 = σ.1 5) : m_J τ := by
  have v6 := a.1 6 (by decide); have v7 := a.1 7 (by decide); have v8 := a.1 8 (by decide); have v9 := a.1 9 (by decide)
  intro i i0 i1
  have old : ∀ k : Nat, (k, 5, (0 : Int)) ∈ m_gT → ∀ j : Int, j < σ.1 5 → τ.2.1 k j = σ.2.1 k j := fun k hk j hj => a.2 (k, 5, 0) hk j (by show j < σ.1 5 + 0; omega)
  have hi : i < σ.1 5 := by omega
  obtain ⟨⟨a1, a2, a3, a4⟩, a5, a6, a7, a8⟩ := h i i0 hi
  rw [old 14 (by decide) i hi, old 15 (by decide) i hi, old 18 (by decide) i hi, old 19 (by decide) i hi, old 21 (by decide) i hi, old 22 (by decide) i hi, old 25 (by decide) i hi, old 26 (by decide) i hi]
  have s2 : 0 ≤ σ.2.1 26 i := (hT.2 26 i).1
  refine ⟨⟨by omega, by omega, by omega, by omega⟩, a5, a6, ?_, fun j j0 j1 => ?_⟩
  · rw [ca_eq sv (by omega), ca_eq sv (by omega)]; exact a7
  · rw [old 14 (by decide) j (by omega), old 18 (by decide) j (by omega), old 21 (by decide) j (by omega), old 25 (by decide) j (by omega)]
    exact a8 j j0 (by omega)
/-- a statement more -/
theorem n_J_n {σ τ : S0} (h : n_J σ) (mj : m_J σ) (g : m_ag σ τ) (r : n_rl σ τ) (sv : j_eq (σ.1 9) (σ.2.1 28) (τ.2.1 28)) (hT : m_T σ) (a : n_J1 (σ.1 5) τ) (n : τ.1 5 = σ.1 5 + 1) : n_J τ := by
  have w := n_J_a (n_J_ag h mj g r sv hT) a
  rw [← n] at w; exact w
set_option maxHeartbeats 4000000 in
theorem K3_X13_readDeclared {n1 : Int} {σ : S0} (hT : m_T σ) (p1 : 0 ≤ n1 ∧ n1 ≤ 1) (p2 : (σ.1 16) ≤ (σ.1 0)) (p3 : oc (σ.2.1 6) ≤ (σ.1 3)) (p4 : oc (σ.2.1 7) < 4096) (p5 : (σ.1 12) ≤ ca (σ.2.1 9) (σ.1 3)) (p6 : j_l2 (σ.2.1 6) (σ.1 3)) (p7 : ca (σ.2.1 12) ((σ.1 3)) ≤ (σ.1 4)) (p8 : n_tb (σ.1 3) (σ.2.1 1) (σ.2.1 2) (σ.2.1 3) (σ.2.1 6)) (p9 : n_nm (σ.1 3) (σ.1 2) (σ.2.1 2) (σ.2.1 3)) (p10 : n_tu (σ.1 3) (σ.1 10) (σ.1 11) (σ.2.1 1) (σ.2.1 2) (σ.2.1 3)) : W_X13_readDeclared n1 σ (fun (τ : S0) => (m_T τ) ∧ (oc (τ.2.1 6) ≤ (τ.1 3)) ∧ ((τ.1 12) ≤ ca (τ.2.1 9) (τ.1 3)) ∧ ((τ.1 16) ≤ (τ.1 0)) ∧ (¬ (σ.1 20) = 0 → (τ.1 20) = (σ.1 20)) ∧ (j_l2 (τ.2.1 6) (τ.1 3)) ∧ (ca (τ.2.1 12) ((τ.1 3)) ≤ (τ.1 4)) ∧ ((τ.1 17) + (τ.1 18) ≤ (τ.1 0)) ∧ ((σ.1 16) ≤ (τ.1 16)) ∧ (m_ag σ τ) ∧ (n_rl σ τ) ∧ (n_rc σ τ) ∧ (n_fo σ τ) ∧ (n_tb (τ.1 3) (τ.2.1 1) (τ.2.1 2) (τ.2.1 3) (τ.2.1 6)) ∧ (n_nm (τ.1 3) (τ.1 2) (τ.2.1 2) (τ.2.1 3)) ∧ (n_tu (τ.1 3) (τ.1 10) (τ.1 11) (τ.2.1 1) (τ.2.1 2) (τ.2.1 3))) := by
  have A1 : ∀ j, 0 ≤ σ.2.1 1 j ∧ σ.2.1 1 j ≤ 255 := fun j => hT.2 1 j
  have A2 : ∀ j, 0 ≤ σ.2.1 2 j ∧ σ.2.1 2 j ≤ 30000 := fun j => hT.2 2 j
  have A3 : ∀ j, 0 ≤ σ.2.1 3 j ∧ σ.2.1 3 j ≤ 60 := fun j => hT.2 3 j
  have A6 : ∀ j, (-1) ≤ σ.2.1 6 j ∧ σ.2.1 6 j ≤ 999 := fun j => hT.2 6 j
  have A7 : ∀ j, (-1) ≤ σ.2.1 7 j ∧ σ.2.1 7 j ≤ 1499 := fun j => hT.2 7 j
  have A8 : ∀ j, 0 ≤ σ.2.1 8 j ∧ σ.2.1 8 j ≤ 1 := fun j => hT.2 8 j
  have A9 : ∀ j, 0 ≤ σ.2.1 9 j ∧ σ.2.1 9 j ≤ 1 := fun j => hT.2 9 j
  have A10 : ∀ j, (-1) ≤ σ.2.1 10 j ∧ σ.2.1 10 j ≤ 999 := fun j => hT.2 10 j
  have A11 : ∀ j, (-1) ≤ σ.2.1 11 j ∧ σ.2.1 11 j ≤ 1499 := fun j => hT.2 11 j
  have A12 : ∀ j, 0 ≤ σ.2.1 12 j ∧ σ.2.1 12 j ≤ 1 := fun j => hT.2 12 j
  have v0 : 0 ≤ σ.1 0 ∧ σ.1 0 ≤ 60000 := hT.1 0
  have v2 : 0 ≤ σ.1 2 ∧ σ.1 2 ≤ 30000 := hT.1 2
  have v3 : 0 ≤ σ.1 3 ∧ σ.1 3 ≤ 1000 := hT.1 3
  have v4 : 0 ≤ σ.1 4 ∧ σ.1 4 ≤ 100 := hT.1 4
  have v5 : 0 ≤ σ.1 5 ∧ σ.1 5 ≤ 1500 := hT.1 5
  have v6 : 0 ≤ σ.1 6 ∧ σ.1 6 ≤ 30000 := hT.1 6
  have v7 : 0 ≤ σ.1 7 ∧ σ.1 7 ≤ 90000 := hT.1 7
  have v8 : 0 ≤ σ.1 8 ∧ σ.1 8 ≤ 20000 := hT.1 8
  have v9 : 0 ≤ σ.1 9 ∧ σ.1 9 ≤ 20000 := hT.1 9
  have v10 : (-1) ≤ σ.1 10 ∧ σ.1 10 ≤ 999 := hT.1 10
  have v11 : (-1) ≤ σ.1 11 ∧ σ.1 11 ≤ 999 := hT.1 11
  have v12 : 0 ≤ σ.1 12 ∧ σ.1 12 ≤ 1000 := hT.1 12
  have v16 : 0 ≤ σ.1 16 ∧ σ.1 16 ≤ 60000 := hT.1 16
  have v17 : 0 ≤ σ.1 17 ∧ σ.1 17 ≤ 60000 := hT.1 17
  have v18 : 0 ≤ σ.1 18 ∧ σ.1 18 ≤ 60000 := hT.1 18
  have v19 : (-1) ≤ σ.1 19 ∧ σ.1 19 ≤ 125 := hT.1 19
  have v20 : 0 ≤ σ.1 20 ∧ σ.1 20 ≤ 19 := hT.1 20
  have W0 : σ.1 0 = σ.1 0 := rfl
  have W4 : σ.1 4 = σ.1 4 := rfl
  have W5 : σ.1 5 = σ.1 5 := rfl
  have W6 : σ.1 6 = σ.1 6 := rfl
  have W7 : σ.1 7 = σ.1 7 := rfl
  have W8 : σ.1 8 = σ.1 8 := rfl
  have W9 : σ.1 9 = σ.1 9 := rfl
  have G7 : σ.2.1 7 = σ.2.1 7 := rfl
  have ag : m_ag σ σ := ag_0 σ
  intro P6 P58 h6 h58
  have Y20 : ca (σ.2.1 12) ((σ.1 3)) ≤ (σ.1 4) := p7
  have Y1 : j_l2 (σ.2.1 6) (σ.1 3) := p6
  have SYt : oc (σ.2.1 6) ≤ (σ.1 3) := p3
  have AVt : (σ.1 12) ≤ ca (σ.2.1 9) (σ.1 3) := p5
  have STt : j_l2 (σ.2.1 6) (σ.1 3) := p6
  have NTB : n_tb (σ.1 3) (σ.2.1 1) (σ.2.1 2) (σ.2.1 3) (σ.2.1 6) := p8
  have NNM : n_nm (σ.1 3) (σ.1 2) (σ.2.1 2) (σ.2.1 3) := p9
  have NTU : n_tu (σ.1 3) (σ.1 10) (σ.1 11) (σ.2.1 1) (σ.2.1 2) (σ.2.1 3) := p10
  have AVt_0 := AVt
  have NNM_0 := NNM
  have NTB_0 := NTB
  have NTU_0 := NTU
  have STt_0 := STt
  have SYt_0 := SYt
  have Y1_0 := Y1
  have Y20_0 := Y20
  have l_6 : ∀ (m_6 : Nat) (u2_6 : Int) (τ_6 : S0), 3 * ((τ_6.1 0) - (τ_6.1 16)) + z_0 ((τ_6.1 20)) + 1 - z_0 ((τ_6.1 19)) < (m_6 : Int) → (m_T τ_6) → (m_ag σ τ_6) → (τ_6.1 0 = σ.1 0) → (τ_6.1 4 = σ.1 4) → (τ_6.1 5 = σ.1 5) → (τ_6.1 6 = σ.1 6) → (τ_6.1 7 = σ.1 7) → (τ_6.1 8 = σ.1 8) → (τ_6.1 9 = σ.1 9) → (τ_6.2.1 7 = σ.2.1 7) → ((τ_6.1 16) ≤ (τ_6.1 0)) → ((τ_6.1 17) + (τ_6.1 18) ≤ (τ_6.1 0)) → (j_l2 (τ_6.2.1 6) (τ_6.1 3)) → (oc (τ_6.2.1 6) ≤ (τ_6.1 3)) → ((τ_6.1 12) ≤ ca (τ_6.2.1 9) (τ_6.1 3)) → (ca (τ_6.2.1 12) ((τ_6.1 3)) ≤ (τ_6.1 4)) → (oc (τ_6.2.1 7) < 4096) → (0 ≤ u2_6) → ((τ_6.1 20) = 0 → (τ_6.1 19) = 1 → u2_6 ≤ (τ_6.1 16)) → (u2_6 ≤ (τ_6.1 16) + 1) → (¬ (σ.1 20) = 0 → (τ_6.1 20) = (σ.1 20)) → ((σ.1 16) ≤ (τ_6.1 16)) → (n_rl σ τ_6) → (n_rc σ τ_6) → (n_fo σ τ_6) → (n_tb (τ_6.1 3) (τ_6.2.1 1) (τ_6.2.1 2) (τ_6.2.1 3) (τ_6.2.1 6)) → (n_nm (τ_6.1 3) (τ_6.1 2) (τ_6.2.1 2) (τ_6.2.1 3)) → (n_tu (τ_6.1 3) (τ_6.1 10) (τ_6.1 11) (τ_6.2.1 1) (τ_6.2.1 2) (τ_6.2.1 3)) → P6 n1 u2_6 τ_6 := by
    intro m_6
    induction m_6 with
    | zero =>
      intro u2_6 τ_6 hm hT ag W0 W4 W5 W6 W7 W8 W9 G7 i6_1 i6_2 i6_3 i6_4 i6_5 i6_6 i6_7 i6_8 i6_9 i6_10 i6_11 i6_12 i6_13 i6_14 i6_15 i6_16 i6_17 i6_18
      have A1 : ∀ j, 0 ≤ τ_6.2.1 1 j ∧ τ_6.2.1 1 j ≤ 255 := fun j => hT.2 1 j
      have A2 : ∀ j, 0 ≤ τ_6.2.1 2 j ∧ τ_6.2.1 2 j ≤ 30000 := fun j => hT.2 2 j
      have A3 : ∀ j, 0 ≤ τ_6.2.1 3 j ∧ τ_6.2.1 3 j ≤ 60 := fun j => hT.2 3 j
      have A6 : ∀ j, (-1) ≤ τ_6.2.1 6 j ∧ τ_6.2.1 6 j ≤ 999 := fun j => hT.2 6 j
      have A7 : ∀ j, (-1) ≤ τ_6.2.1 7 j ∧ τ_6.2.1 7 j ≤ 1499 := fun j => hT.2 7 j
      have A8 : ∀ j, 0 ≤ τ_6.2.1 8 j ∧ τ_6.2.1 8 j ≤ 1 := fun j => hT.2 8 j
      have A9 : ∀ j, 0 ≤ τ_6.2.1 9 j ∧ τ_6.2.1 9 j ≤ 1 := fun j => hT.2 9 j
      have A10 : ∀ j, (-1) ≤ τ_6.2.1 10 j ∧ τ_6.2.1 10 j ≤ 999 := fun j => hT.2 10 j
      have A11 : ∀ j, (-1) ≤ τ_6.2.1 11 j ∧ τ_6.2.1 11 j ≤ 1499 := fun j => hT.2 11 j
      have A12 : ∀ j, 0 ≤ τ_6.2.1 12 j ∧ τ_6.2.1 12 j ≤ 1 := fun j => hT.2 12 j
      have v0 : 0 ≤ τ_6.1 0 ∧ τ_6.1 0 ≤ 60000 := hT.1 0
      have v2 : 0 ≤ τ_6.1 2 ∧ τ_6.1 2 ≤ 30000 := hT.1 2
      have v3 : 0 ≤ τ_6.1 3 ∧ τ_6.1 3 ≤ 1000 := hT.1 3
      have v4 : 0 ≤ τ_6.1 4 ∧ τ_6.1 4 ≤ 100 := hT.1 4
      have v5 : 0 ≤ τ_6.1 5 ∧ τ_6.1 5 ≤ 1500 := hT.1 5
      have v6 : 0 ≤ τ_6.1 6 ∧ τ_6.1 6 ≤ 30000 := hT.1 6
      have v7 : 0 ≤ τ_6.1 7 ∧ τ_6.1 7 ≤ 90000 := hT.1 7
      have v8 : 0 ≤ τ_6.1 8 ∧ τ_6.1 8 ≤ 20000 := hT.1 8
      have v9 : 0 ≤ τ_6.1 9 ∧ τ_6.1 9 ≤ 20000 := hT.1 9
      have v10 : (-1) ≤ τ_6.1 10 ∧ τ_6.1 10 ≤ 999 := hT.1 10
      have v11 : (-1) ≤ τ_6.1 11 ∧ τ_6.1 11 ≤ 999 := hT.1 11
      have v12 : 0 ≤ τ_6.1 12 ∧ τ_6.1 12 ≤ 1000 := hT.1 12
      have v16 : 0 ≤ τ_6.1 16 ∧ τ_6.1 16 ≤ 60000 := hT.1 16
      have v17 : 0 ≤ τ_6.1 17 ∧ τ_6.1 17 ≤ 60000 := hT.1 17
      have v18 : 0 ≤ τ_6.1 18 ∧ τ_6.1 18 ≤ 60000 := hT.1 18
      have v19 : (-1) ≤ τ_6.1 19 ∧ τ_6.1 19 ≤ 125 := hT.1 19
      have v20 : 0 ≤ τ_6.1 20 ∧ τ_6.1 20 ≤ 19 := hT.1 20
      have av3 : σ.1 3 ≤ τ_6.1 3 := ag.1 3 (by decide)
      have zz0 := z_e ((τ_6.1 20))
      have zz1 := z_e ((τ_6.1 19))
      exfalso; (first | omega | (simp only [st_s] <;> omega) | assumption | omega | fail)
    | succ m_6 ih_6 =>
      intro u2_6 τ_6 hm_6 hT ag W0 W4 W5 W6 W7 W8 W9 G7 i6_1 i6_2 i6_3 i6_4 i6_5 i6_6 i6_7 i6_8 i6_9 i6_10 i6_11 i6_12 i6_13 i6_14 i6_15 i6_16 i6_17 i6_18
      have A1 : ∀ j, 0 ≤ τ_6.2.1 1 j ∧ τ_6.2.1 1 j ≤ 255 := fun j => hT.2 1 j
      have A2 : ∀ j, 0 ≤ τ_6.2.1 2 j ∧ τ_6.2.1 2 j ≤ 30000 := fun j => hT.2 2 j
      have A3 : ∀ j, 0 ≤ τ_6.2.1 3 j ∧ τ_6.2.1 3 j ≤ 60 := fun j => hT.2 3 j
      have A6 : ∀ j, (-1) ≤ τ_6.2.1 6 j ∧ τ_6.2.1 6 j ≤ 999 := fun j => hT.2 6 j
      have A7 : ∀ j, (-1) ≤ τ_6.2.1 7 j ∧ τ_6.2.1 7 j ≤ 1499 := fun j => hT.2 7 j
      have A8 : ∀ j, 0 ≤ τ_6.2.1 8 j ∧ τ_6.2.1 8 j ≤ 1 := fun j => hT.2 8 j
      have A9 : ∀ j, 0 ≤ τ_6.2.1 9 j ∧ τ_6.2.1 9 j ≤ 1 := fun j => hT.2 9 j
      have A10 : ∀ j, (-1) ≤ τ_6.2.1 10 j ∧ τ_6.2.1 10 j ≤ 999 := fun j => hT.2 10 j
      have A11 : ∀ j, (-1) ≤ τ_6.2.1 11 j ∧ τ_6.2.1 11 j ≤ 1499 := fun j => hT.2 11 j
      have A12 : ∀ j, 0 ≤ τ_6.2.1 12 j ∧ τ_6.2.1 12 j ≤ 1 := fun j => hT.2 12 j
      have v0 : 0 ≤ τ_6.1 0 ∧ τ_6.1 0 ≤ 60000 := hT.1 0
      have v2 : 0 ≤ τ_6.1 2 ∧ τ_6.1 2 ≤ 30000 := hT.1 2
      have v3 : 0 ≤ τ_6.1 3 ∧ τ_6.1 3 ≤ 1000 := hT.1 3
      have v4 : 0 ≤ τ_6.1 4 ∧ τ_6.1 4 ≤ 100 := hT.1 4
      have v5 : 0 ≤ τ_6.1 5 ∧ τ_6.1 5 ≤ 1500 := hT.1 5
      have v6 : 0 ≤ τ_6.1 6 ∧ τ_6.1 6 ≤ 30000 := hT.1 6
      have v7 : 0 ≤ τ_6.1 7 ∧ τ_6.1 7 ≤ 90000 := hT.1 7
      have v8 : 0 ≤ τ_6.1 8 ∧ τ_6.1 8 ≤ 20000 := hT.1 8
      have v9 : 0 ≤ τ_6.1 9 ∧ τ_6.1 9 ≤ 20000 := hT.1 9
      have v10 : (-1) ≤ τ_6.1 10 ∧ τ_6.1 10 ≤ 999 := hT.1 10
      have v11 : (-1) ≤ τ_6.1 11 ∧ τ_6.1 11 ≤ 999 := hT.1 11
      have v12 : 0 ≤ τ_6.1 12 ∧ τ_6.1 12 ≤ 1000 := hT.1 12
      have v16 : 0 ≤ τ_6.1 16 ∧ τ_6.1 16 ≤ 60000 := hT.1 16
      have v17 : 0 ≤ τ_6.1 17 ∧ τ_6.1 17 ≤ 60000 := hT.1 17
      have v18 : 0 ≤ τ_6.1 18 ∧ τ_6.1 18 ≤ 60000 := hT.1 18
      have v19 : (-1) ≤ τ_6.1 19 ∧ τ_6.1 19 ≤ 125 := hT.1 19
      have v20 : 0 ≤ τ_6.1 20 ∧ τ_6.1 20 ≤ 19 := hT.1 20
      have av3 : σ.1 3 ≤ τ_6.1 3 := ag.1 3 (by decide)
      have zy6_0 := z_e ((τ_6.1 20))
      have zy6_1 := z_e ((τ_6.1 19))
      have o7_τ_6 := congrArg oc G7
      have Y20 : ca (τ_6.2.1 12) ((τ_6.1 3)) ≤ (τ_6.1 4) := i6_6
      have Y1 : j_l2 (τ_6.2.1 6) (τ_6.1 3) := i6_3
      have SYt : oc (τ_6.2.1 6) ≤ (τ_6.1 3) := i6_4
      have AVt : (τ_6.1 12) ≤ ca (τ_6.2.1 9) (τ_6.1 3) := i6_5
      have STt : j_l2 (τ_6.2.1 6) (τ_6.1 3) := i6_3
      have NTB : n_tb (τ_6.1 3) (τ_6.2.1 1) (τ_6.2.1 2) (τ_6.2.1 3) (τ_6.2.1 6) := i6_16
      have NNM : n_nm (τ_6.1 3) (τ_6.1 2) (τ_6.2.1 2) (τ_6.2.1 3) := i6_17
      have NTU : n_tu (τ_6.1 3) (τ_6.1 10) (τ_6.1 11) (τ_6.2.1 1) (τ_6.2.1 2) (τ_6.2.1 3) := i6_18
      refine h6 n1 u2_6 τ_6 ?_
      refine ⟨fun c4 => ?_, fun c4 => ?_⟩
      ·
        refine h58 _ _ ?_
        refine ⟨fun c19 => ?_, fun c19 => ?_⟩
        ·
          exact ⟨hT, (show oc (τ_6.2.1 6) ≤ (τ_6.1 3) from SYt), (show (τ_6.1 12) ≤ ca (τ_6.2.1 9) (τ_6.1 3) from AVt), (show (τ_6.1 16) ≤ (τ_6.1 0) from by (first | omega | (simp only [st_s] <;> omega) | assumption | omega | fail)), (show ¬ (σ.1 20) = 0 → (τ_6.1 20) = (σ.1 20) from by (first | omega | (simp only [st_s] <;> omega) | assumption | omega | fail)), (show j_l2 (τ_6.2.1 6) (τ_6.1 3) from Y1), (show ca (τ_6.2.1 12) ((τ_6.1 3)) ≤ (τ_6.1 4) from Y20), (show (τ_6.1 17) + (τ_6.1 18) ≤ (τ_6.1 0) from by (first | omega | (simp only [st_s] <;> omega) | assumption | omega | fail)), (show (σ.1 16) ≤ (τ_6.1 16) from by (first | omega | (simp only [st_s] <;> omega) | assumption | omega | fail)), ag, (show n_rl σ τ_6 from by (first | exact i6_13 | exact n_rl_r i6_13 hf_τ18 rfl rfl | exact n_rl_r i6_13 hf_τ23 rfl rfl | fail)), (show n_rc σ τ_6 from by (first | exact i6_14 | exact n_rc_r i6_14 hf_τ18 rfl rfl | exact n_rc_r i6_14 hf_τ23 rfl rfl | fail)), (show n_fo σ τ_6 from by (first | exact i6_15 | exact n_fo_t i6_15 (n_fo_h hf_τ18 rfl rfl) (by omega) | exact n_fo_t i6_15 (n_fo_h hf_τ23 rfl rfl) (by omega) | fail)), (show n_tb (τ_6.1 3) (τ_6.2.1 1) (τ_6.2.1 2) (τ_6.2.1 3) (τ_6.2.1 6) from NTB), (show n_nm (τ_6.1 3) (τ_6.1 2) (τ_6.2.1 2) (τ_6.2.1 3) from NNM), (show n_tu (τ_6.1 3) (τ_6.1 10) (τ_6.1 11) (τ_6.2.1 1) (τ_6.2.1 2) (τ_6.2.1 3) from NTU)⟩
        ·
          refine ⟨fun c20 => ?_, fun c20 => ?_⟩
          ·
            exact ⟨hT, (show oc (τ_6.2.1 6) ≤ (τ_6.1 3) from SYt), (show (τ_6.1 12) ≤ ca (τ_6.2.1 9) (τ_6.1 3) from AVt), (show (τ_6.1 16) ≤ (τ_6.1 0) from by (first | omega | (simp only [st_s] <;> omega) | assumption | omega | fail)), (show ¬ (σ.1 20) = 0 → (τ_6.1 20) = (σ.1 20) from by (first | omega | (simp only [st_s] <;> omega) | assumption | omega | fail)), (show j_l2 (τ_6.2.1 6) (τ_6.1 3) from Y1), (show ca (τ_6.2.1 12) ((τ_6.1 3)) ≤ (τ_6.1 4) from Y20), (show (τ_6.1 17) + (τ_6.1 18) ≤ (τ_6.1 0) from by (first | omega | (simp only [st_s] <;> omega) | assumption | omega | fail)), (show (σ.1 16) ≤ (τ_6.1 16) from by (first | omega | (simp only [st_s] <;> omega) | assumption | omega | fail)), ag, (show n_rl σ τ_6 from by (first | exact i6_13 | exact n_rl_r i6_13 hf_τ18 rfl rfl | exact n_rl_r i6_13 hf_τ23 rfl rfl | fail)), (show n_rc σ τ_6 from by (first | exact i6_14 | exact n_rc_r i6_14 hf_τ18 rfl rfl | exact n_rc_r i6_14 hf_τ23 rfl rfl | fail)), (show n_fo σ τ_6 from by (first | exact i6_15 | exact n_fo_t i6_15 (n_fo_h hf_τ18 rfl rfl) (by omega) | exact n_fo_t i6_15 (n_fo_h hf_τ23 rfl rfl) (by omega) | fail)), (show n_tb (τ_6.1 3) (τ_6.2.1 1) (τ_6.2.1 2) (τ_6.2.1 3) (τ_6.2.1 6) from NTB), (show n_nm (τ_6.1 3) (τ_6.1 2) (τ_6.2.1 2) (τ_6.2.1 3) from NNM), (show n_tu (τ_6.1 3) (τ_6.1 10) (τ_6.1 11) (τ_6.2.1 1) (τ_6.2.1 2) (τ_6.2.1 3) from NTU)⟩
          ·
            refine ⟨_, K_X13_failHere hT (show 0 ≤ (4 : Int) from by (first | omega | (simp only [st_s] <;> omega) | assumption | omega | fail)) (show (4 : Int) ≤ 19 from by (first | omega | (simp only [st_s] <;> omega) | assumption | omega | fail)), ?_⟩
            intro τ23 hn_τ23 hf_τ23 hq
            obtain ⟨hT, q21_1, q21_2⟩ := hq
            replace q21_1 : ¬ (τ_6.1 20) = 0 → (τ23.1 20) = (τ_6.1 20) := q21_1
            replace q21_2 : (τ_6.1 20) = 0 → (τ23.1 20) = (4 : Int) := q21_2
            replace ag : m_ag σ τ23 := ag_r ag hf_τ23 rfl rfl
            have w0_τ23 : τ23.1 0 = τ_6.1 0 := hf_τ23.1 0 (by decide)
            have w2_τ23 : τ23.1 2 = τ_6.1 2 := hf_τ23.1 2 (by decide)
            have w3_τ23 : τ23.1 3 = τ_6.1 3 := hf_τ23.1 3 (by decide)
            have w4_τ23 : τ23.1 4 = τ_6.1 4 := hf_τ23.1 4 (by decide)
            have w5_τ23 : τ23.1 5 = τ_6.1 5 := hf_τ23.1 5 (by decide)
            have w6_τ23 : τ23.1 6 = τ_6.1 6 := hf_τ23.1 6 (by decide)
            have w7_τ23 : τ23.1 7 = τ_6.1 7 := hf_τ23.1 7 (by decide)
            have w8_τ23 : τ23.1 8 = τ_6.1 8 := hf_τ23.1 8 (by decide)
            have w9_τ23 : τ23.1 9 = τ_6.1 9 := hf_τ23.1 9 (by decide)
            have w10_τ23 : τ23.1 10 = τ_6.1 10 := hf_τ23.1 10 (by decide)
            have w11_τ23 : τ23.1 11 = τ_6.1 11 := hf_τ23.1 11 (by decide)
            have w12_τ23 : τ23.1 12 = τ_6.1 12 := hf_τ23.1 12 (by decide)
            have w16_τ23 : τ23.1 16 = τ_6.1 16 := hf_τ23.1 16 (by decide)
            have w17_τ23 : τ23.1 17 = τ_6.1 17 := hf_τ23.1 17 (by decide)
            have w18_τ23 : τ23.1 18 = τ_6.1 18 := hf_τ23.1 18 (by decide)
            have w19_τ23 : τ23.1 19 = τ_6.1 19 := hf_τ23.1 19 (by decide)
            have g1_τ23 : τ23.2.1 1 = τ_6.2.1 1 := hf_τ23.2.1 1 (by decide)
            have g2_τ23 : τ23.2.1 2 = τ_6.2.1 2 := hf_τ23.2.1 2 (by decide)
            have g3_τ23 : τ23.2.1 3 = τ_6.2.1 3 := hf_τ23.2.1 3 (by decide)
            have g6_τ23 : τ23.2.1 6 = τ_6.2.1 6 := hf_τ23.2.1 6 (by decide)
            have g7_τ23 : τ23.2.1 7 = τ_6.2.1 7 := hf_τ23.2.1 7 (by decide)
            have g8_τ23 : τ23.2.1 8 = τ_6.2.1 8 := hf_τ23.2.1 8 (by decide)
            have g9_τ23 : τ23.2.1 9 = τ_6.2.1 9 := hf_τ23.2.1 9 (by decide)
            have g10_τ23 : τ23.2.1 10 = τ_6.2.1 10 := hf_τ23.2.1 10 (by decide)
            have g11_τ23 : τ23.2.1 11 = τ_6.2.1 11 := hf_τ23.2.1 11 (by decide)
            have g12_τ23 : τ23.2.1 12 = τ_6.2.1 12 := hf_τ23.2.1 12 (by decide)
            first | (have ca_τ23 := congr (congrArg ca g9_τ23) w3_τ23) | skip
            first | (have o6_τ23 := congrArg oc g6_τ23) | skip
            first | (have o7_τ23 := congrArg oc g7_τ23) | skip
            have W0 : τ23.1 0 = σ.1 0 := by first | exact w0_τ23.trans W0 | omega
            have W4 : τ23.1 4 = σ.1 4 := by first | exact w4_τ23.trans W4 | omega
            have W5 : τ23.1 5 = σ.1 5 := by first | exact w5_τ23.trans W5 | omega
            have W6 : τ23.1 6 = σ.1 6 := by first | exact w6_τ23.trans W6 | omega
            have W7 : τ23.1 7 = σ.1 7 := by first | exact w7_τ23.trans W7 | omega
            have W8 : τ23.1 8 = σ.1 8 := by first | exact w8_τ23.trans W8 | omega
            have W9 : τ23.1 9 = σ.1 9 := by first | exact w9_τ23.trans W9 | omega
            have G7 : τ23.2.1 7 = σ.2.1 7 := (g7_τ23).trans G7
            have Y20 : ca (τ23.2.1 12) ((τ23.1 3)) ≤ (τ23.1 4) := by rw [show (ca (τ23.2.1 12) ((τ23.1 3)) ≤ (τ23.1 4)) = (ca (τ_6.2.1 12) ((τ_6.1 3)) ≤ (τ_6.1 4)) from by rw [w3_τ23, w4_τ23, g12_τ23]]; exact Y20
            have Y1 : j_l2 (τ23.2.1 6) (τ23.1 3) := by rw [show (j_l2 (τ23.2.1 6) (τ23.1 3)) = (j_l2 (τ_6.2.1 6) (τ_6.1 3)) from by rw [w3_τ23, g6_τ23]]; exact Y1
            have SYt : oc (τ23.2.1 6) ≤ (τ23.1 3) := by rw [show (oc (τ23.2.1 6) ≤ (τ23.1 3)) = (oc (τ_6.2.1 6) ≤ (τ_6.1 3)) from by rw [w3_τ23, g6_τ23]]; exact SYt
            have AVt : (τ23.1 12) ≤ ca (τ23.2.1 9) (τ23.1 3) := by rw [show ((τ23.1 12) ≤ ca (τ23.2.1 9) (τ23.1 3)) = ((τ_6.1 12) ≤ ca (τ_6.2.1 9) (τ_6.1 3)) from by rw [w3_τ23, w12_τ23, g9_τ23]]; exact AVt
            have STt : j_l2 (τ23.2.1 6) (τ23.1 3) := by rw [show (j_l2 (τ23.2.1 6) (τ23.1 3)) = (j_l2 (τ_6.2.1 6) (τ_6.1 3)) from by rw [w3_τ23, g6_τ23]]; exact STt
            have NTB : n_tb (τ23.1 3) (τ23.2.1 1) (τ23.2.1 2) (τ23.2.1 3) (τ23.2.1 6) := by rw [show (n_tb (τ23.1 3) (τ23.2.1 1) (τ23.2.1 2) (τ23.2.1 3) (τ23.2.1 6)) = (n_tb (τ_6.1 3) (τ_6.2.1 1) (τ_6.2.1 2) (τ_6.2.1 3) (τ_6.2.1 6)) from by rw [w3_τ23, g1_τ23, g2_τ23, g3_τ23, g6_τ23]]; exact NTB
            have NNM : n_nm (τ23.1 3) (τ23.1 2) (τ23.2.1 2) (τ23.2.1 3) := by rw [show (n_nm (τ23.1 3) (τ23.1 2) (τ23.2.1 2) (τ23.2.1 3)) = (n_nm (τ_6.1 3) (τ_6.1 2) (τ_6.2.1 2) (τ_6.2.1 3)) from by rw [w2_τ23, w3_τ23, g2_τ23, g3_τ23]]; exact NNM
            have NTU : n_tu (τ23.1 3) (τ23.1 10) (τ23.1 11) (τ23.2.1 1) (τ23.2.1 2) (τ23.2.1 3) := by rw [show (n_tu (τ23.1 3) (τ23.1 10) (τ23.1 11) (τ23.2.1 1) (τ23.2.1 2) (τ23.2.1 3)) = (n_tu (τ_6.1 3) (τ_6.1 10) (τ_6.1 11) (τ_6.2.1 1) (τ_6.2.1 2) (τ_6.2.1 3)) from by rw [w3_τ23, w10_τ23, w11_τ23, g1_τ23, g2_τ23, g3_τ23]]; exact NTU
            have A1 : ∀ j, 0 ≤ τ23.2.1 1 j ∧ τ23.2.1 1 j ≤ 255 := fun j => hT.2 1 j
            have A2 : ∀ j, 0 ≤ τ23.2.1 2 j ∧ τ23.2.1 2 j ≤ 30000 := fun j => hT.2 2 j
            have A3 : ∀ j, 0 ≤ τ23.2.1 3 j ∧ τ23.2.1 3 j ≤ 60 := fun j => hT.2 3 j
            have A6 : ∀ j, (-1) ≤ τ23.2.1 6 j ∧ τ23.2.1 6 j ≤ 999 := fun j => hT.2 6 j
            have A7 : ∀ j, (-1) ≤ τ23.2.1 7 j ∧ τ23.2.1 7 j ≤ 1499 := fun j => hT.2 7 j
            have A8 : ∀ j, 0 ≤ τ23.2.1 8 j ∧ τ23.2.1 8 j ≤ 1 := fun j => hT.2 8 j
            have A9 : ∀ j, 0 ≤ τ23.2.1 9 j ∧ τ23.2.1 9 j ≤ 1 := fun j => hT.2 9 j
            have A10 : ∀ j, (-1) ≤ τ23.2.1 10 j ∧ τ23.2.1 10 j ≤ 999 := fun j => hT.2 10 j
            have A11 : ∀ j, (-1) ≤ τ23.2.1 11 j ∧ τ23.2.1 11 j ≤ 1499 := fun j => hT.2 11 j
            have A12 : ∀ j, 0 ≤ τ23.2.1 12 j ∧ τ23.2.1 12 j ≤ 1 := fun j => hT.2 12 j
            have v0 : 0 ≤ τ23.1 0 ∧ τ23.1 0 ≤ 60000 := hT.1 0
            have v2 : 0 ≤ τ23.1 2 ∧ τ23.1 2 ≤ 30000 := hT.1 2
            have v3 : 0 ≤ τ23.1 3 ∧ τ23.1 3 ≤ 1000 := hT.1 3
            have v4 : 0 ≤ τ23.1 4 ∧ τ23.1 4 ≤ 100 := hT.1 4
            have v5 : 0 ≤ τ23.1 5 ∧ τ23.1 5 ≤ 1500 := hT.1 5
            have v6 : 0 ≤ τ23.1 6 ∧ τ23.1 6 ≤ 30000 := hT.1 6
            have v7 : 0 ≤ τ23.1 7 ∧ τ23.1 7 ≤ 90000 := hT.1 7
            have v8 : 0 ≤ τ23.1 8 ∧ τ23.1 8 ≤ 20000 := hT.1 8
            have v9 : 0 ≤ τ23.1 9 ∧ τ23.1 9 ≤ 20000 := hT.1 9
            have v10 : (-1) ≤ τ23.1 10 ∧ τ23.1 10 ≤ 999 := hT.1 10
            have v11 : (-1) ≤ τ23.1 11 ∧ τ23.1 11 ≤ 999 := hT.1 11
            have v12 : 0 ≤ τ23.1 12 ∧ τ23.1 12 ≤ 1000 := hT.1 12
            have v16 : 0 ≤ τ23.1 16 ∧ τ23.1 16 ≤ 60000 := hT.1 16
            have v17 : 0 ≤ τ23.1 17 ∧ τ23.1 17 ≤ 60000 := hT.1 17
            have v18 : 0 ≤ τ23.1 18 ∧ τ23.1 18 ≤ 60000 := hT.1 18
            have v19 : (-1) ≤ τ23.1 19 ∧ τ23.1 19 ≤ 125 := hT.1 19
            have v20 : 0 ≤ τ23.1 20 ∧ τ23.1 20 ≤ 19 := hT.1 20
            have av3 : σ.1 3 ≤ τ23.1 3 := ag.1 3 (by decide)
            exact ⟨hT, (show oc (τ23.2.1 6) ≤ (τ23.1 3) from SYt), (show (τ23.1 12) ≤ ca (τ23.2.1 9) (τ23.1 3) from AVt), (show (τ23.1 16) ≤ (τ23.1 0) from by (first | omega | (simp only [st_s] <;> omega) | assumption | omega | fail)), (show ¬ (σ.1 20) = 0 → (τ23.1 20) = (σ.1 20) from by (first | omega | (simp only [st_s] <;> omega) | assumption | omega | fail)), (show j_l2 (τ23.2.1 6) (τ23.1 3) from Y1), (show ca (τ23.2.1 12) ((τ23.1 3)) ≤ (τ23.1 4) from Y20), (show (τ23.1 17) + (τ23.1 18) ≤ (τ23.1 0) from by (first | omega | (simp only [st_s] <;> omega) | assumption | omega | fail)), (show (σ.1 16) ≤ (τ23.1 16) from by (first | omega | (simp only [st_s] <;> omega) | assumption | omega | fail)), ag, (show n_rl σ τ23 from by (first | exact i6_13 | exact n_rl_r i6_13 hf_τ18 rfl rfl | exact n_rl_r i6_13 hf_τ23 rfl rfl | fail)), (show n_rc σ τ23 from by (first | exact i6_14 | exact n_rc_r i6_14 hf_τ18 rfl rfl | exact n_rc_r i6_14 hf_τ23 rfl rfl | fail)), (show n_fo σ τ23 from by (first | exact i6_15 | exact n_fo_t i6_15 (n_fo_h hf_τ18 rfl rfl) (by omega) | exact n_fo_t i6_15 (n_fo_h hf_τ23 rfl rfl) (by omega) | fail)), (show n_tb (τ23.1 3) (τ23.2.1 1) (τ23.2.1 2) (τ23.2.1 3) (τ23.2.1 6) from NTB), (show n_nm (τ23.1 3) (τ23.1 2) (τ23.2.1 2) (τ23.2.1 3) from NNM), (show n_tu (τ23.1 3) (τ23.1 10) (τ23.1 11) (τ23.2.1 1) (τ23.2.1 2) (τ23.2.1 3) from NTU)⟩
      ·
        refine ⟨fun c5 => ?_, fun c5 => ?_⟩
        ·
          refine h58 _ _ ?_
          refine ⟨fun c19 => ?_, fun c19 => ?_⟩
          ·
            exact ⟨hT, (show oc (τ_6.2.1 6) ≤ (τ_6.1 3) from SYt), (show (τ_6.1 12) ≤ ca (τ_6.2.1 9) (τ_6.1 3) from AVt), (show (τ_6.1 16) ≤ (τ_6.1 0) from by (first | omega | (simp only [st_s] <;> omega) | assumption | omega | fail)), (show ¬ (σ.1 20) = 0 → (τ_6.1 20) = (σ.1 20) from by (first | omega | (simp only [st_s] <;> omega) | assumption | omega | fail)), (show j_l2 (τ_6.2.1 6) (τ_6.1 3) from Y1), (show ca (τ_6.2.1 12) ((τ_6.1 3)) ≤ (τ_6.1 4) from Y20), (show (τ_6.1 17) + (τ_6.1 18) ≤ (τ_6.1 0) from by (first | omega | (simp only [st_s] <;> omega) | assumption | omega | fail)), (show (σ.1 16) ≤ (τ_6.1 16) from by (first | omega | (simp only [st_s] <;> omega) | assumption | omega | fail)), ag, (show n_rl σ τ_6 from by (first | exact i6_13 | exact n_rl_r i6_13 hf_τ18 rfl rfl | exact n_rl_r i6_13 hf_τ23 rfl rfl | fail)), (show n_rc σ τ_6 from by (first | exact i6_14 | exact n_rc_r i6_14 hf_τ18 rfl rfl | exact n_rc_r i6_14 hf_τ23 rfl rfl | fail)), (show n_fo σ τ_6 from by (first | exact i6_15 | exact n_fo_t i6_15 (n_fo_h hf_τ18 rfl rfl) (by omega) | exact n_fo_t i6_15 (n_fo_h hf_τ23 rfl rfl) (by omega) | fail)), (show n_tb (τ_6.1 3) (τ_6.2.1 1) (τ_6.2.1 2) (τ_6.2.1 3) (τ_6.2.1 6) from NTB), (show n_nm (τ_6.1 3) (τ_6.1 2) (τ_6.2.1 2) (τ_6.2.1 3) from NNM), (show n_tu (τ_6.1 3) (τ_6.1 10) (τ_6.1 11) (τ_6.2.1 1) (τ_6.2.1 2) (τ_6.2.1 3) from NTU)⟩
          ·
            refine ⟨fun c20 => ?_, fun c20 => ?_⟩
            ·
              exact ⟨hT, (show oc (τ_6.2.1 6) ≤ (τ_6.1 3) from SYt), (show (τ_6.1 12) ≤ ca (τ_6.2.1 9) (τ_6.1 3) from AVt), (show (τ_6.1 16) ≤ (τ_6.1 0) from by (first | omega | (simp only [st_s] <;> omega) | assumption | omega | fail)), (show ¬ (σ.1 20) = 0 → (τ_6.1 20) = (σ.1 20) from by (first | omega | (simp only [st_s] <;> omega) | assumption | omega | fail)), (show j_l2 (τ_6.2.1 6) (τ_6.1 3) from Y1), (show ca (τ_6.2.1 12) ((τ_6.1 3)) ≤ (τ_6.1 4) from Y20), (show (τ_6.1 17) + (τ_6.1 18) ≤ (τ_6.1 0) from by (first | omega | (simp only [st_s] <;> omega) | assumption | omega | fail)), (show (σ.1 16) ≤ (τ_6.1 16) from by (first | omega | (simp only [st_s] <;> omega) | assumption | omega | fail)), ag, (show n_rl σ τ_6 from by (first | exact i6_13 | exact n_rl_r i6_13 hf_τ18 rfl rfl | exact n_rl_r i6_13 hf_τ23 rfl rfl | fail)), (show n_rc σ τ_6 from by (first | exact i6_14 | exact n_rc_r i6_14 hf_τ18 rfl rfl | exact n_rc_r i6_14 hf_τ23 rfl rfl | fail)), (show n_fo σ τ_6 from by (first | exact i6_15 | exact n_fo_t i6_15 (n_fo_h hf_τ18 rfl rfl) (by omega) | exact n_fo_t i6_15 (n_fo_h hf_τ23 rfl rfl) (by omega) | fail)), (show n_tb (τ_6.1 3) (τ_6.2.1 1) (τ_6.2.1 2) (τ_6.2.1 3) (τ_6.2.1 6) from NTB), (show n_nm (τ_6.1 3) (τ_6.1 2) (τ_6.2.1 2) (τ_6.2.1 3) from NNM), (show n_tu (τ_6.1 3) (τ_6.1 10) (τ_6.1 11) (τ_6.2.1 1) (τ_6.2.1 2) (τ_6.2.1 3) from NTU)⟩
            ·
              refine ⟨_, K_X13_failHere hT (show 0 ≤ (4 : Int) from by (first | omega | (simp only [st_s] <;> omega) | assumption | omega | fail)) (show (4 : Int) ≤ 19 from by (first | omega | (simp only [st_s] <;> omega) | assumption | omega | fail)), ?_⟩
              intro τ23 hn_τ23 hf_τ23 hq
              obtain ⟨hT, q21_1, q21_2⟩ := hq
              replace q21_1 : ¬ (τ_6.1 20) = 0 → (τ23.1 20) = (τ_6.1 20) := q21_1
              replace q21_2 : (τ_6.1 20) = 0 → (τ23.1 20) = (4 : Int) := q21_2
              replace ag : m_ag σ τ23 := ag_r ag hf_τ23 rfl rfl
              have w0_τ23 : τ23.1 0 = τ_6.1 0 := hf_τ23.1 0 (by decide)
              have w2_τ23 : τ23.1 2 = τ_6.1 2 := hf_τ23.1 2 (by decide)
              have w3_τ23 : τ23.1 3 = τ_6.1 3 := hf_τ23.1 3 (by decide)
              have w4_τ23 : τ23.1 4 = τ_6.1 4 := hf_τ23.1 4 (by decide)
              have w5_τ23 : τ23.1 5 = τ_6.1 5 := hf_τ23.1 5 (by decide)
              have w6_τ23 : τ23.1 6 = τ_6.1 6 := hf_τ23.1 6 (by decide)
              have w7_τ23 : τ23.1 7 = τ_6.1 7 := hf_τ23.1 7 (by decide)
              have w8_τ23 : τ23.1 8 = τ_6.1 8 := hf_τ23.1 8 (by decide)
              have w9_τ23 : τ23.1 9 = τ_6.1 9 := hf_τ23.1 9 (by decide)
              have w10_τ23 : τ23.1 10 = τ_6.1 10 := hf_τ23.1 10 (by decide)
              have w11_τ23 : τ23.1 11 = τ_6.1 11 := hf_τ23.1 11 (by decide)
              have w12_τ23 : τ23.1 12 = τ_6.1 12 := hf_τ23.1 12 (by decide)
              have w16_τ23 : τ23.1 16 = τ_6.1 16 := hf_τ23.1 16 (by decide)
              have w17_τ23 : τ23.1 17 = τ_6.1 17 := hf_τ23.1 17 (by decide)
              have w18_τ23 : τ23.1 18 = τ_6.1 18 := hf_τ23.1 18 (by decide)
              have w19_τ23 : τ23.1 19 = τ_6.1 19 := hf_τ23.1 19 (by decide)
              have g1_τ23 : τ23.2.1 1 = τ_6.2.1 1 := hf_τ23.2.1 1 (by decide)
              have g2_τ23 : τ23.2.1 2 = τ_6.2.1 2 := hf_τ23.2.1 2 (by decide)
              have g3_τ23 : τ23.2.1 3 = τ_6.2.1 3 := hf_τ23.2.1 3 (by decide)
              have g6_τ23 : τ23.2.1 6 = τ_6.2.1 6 := hf_τ23.2.1 6 (by decide)
              have g7_τ23 : τ23.2.1 7 = τ_6.2.1 7 := hf_τ23.2.1 7 (by decide)
              have g8_τ23 : τ23.2.1 8 = τ_6.2.1 8 := hf_τ23.2.1 8 (by decide)
              have g9_τ23 : τ23.2.1 9 = τ_6.2.1 9 := hf_τ23.2.1 9 (by decide)
              have g10_τ23 : τ23.2.1 10 = τ_6.2.1 10 := hf_τ23.2.1 10 (by decide)
              have g11_τ23 : τ23.2.1 11 = τ_6.2.1 11 := hf_τ23.2.1 11 (by decide)
              have g12_τ23 : τ23.2.1 12 = τ_6.2.1 12 := hf_τ23.2.1 12 (by decide)
              first | (have ca_τ23 := congr (congrArg ca g9_τ23) w3_τ23) | skip
              first | (have o6_τ23 := congrArg oc g6_τ23) | skip
              first | (have o7_τ23 := congrArg oc g7_τ23) | skip
              have W0 : τ23.1 0 = σ.1 0 := by first | exact w0_τ23.trans W0 | omega
              have W4 : τ23.1 4 = σ.1 4 := by first | exact w4_τ23.trans W4 | omega
              have W5 : τ23.1 5 = σ.1 5 := by first | exact w5_τ23.trans W5 | omega
              have W6 : τ23.1 6 = σ.1 6 := by first | exact w6_τ23.trans W6 | omega
              have W7 : τ23.1 7 = σ.1 7 := by first | exact w7_τ23.trans W7 | omega
              have W8 : τ23.1 8 = σ.1 8 := by first | exact w8_τ23.trans W8 | omega
              have W9 : τ23.1 9 = σ.1 9 := by first | exact w9_τ23.trans W9 | omega
              have G7 : τ23.2.1 7 = σ.2.1 7 := (g7_τ23).trans G7
              have Y20 : ca (τ23.2.1 12) ((τ23.1 3)) ≤ (τ23.1 4) := by rw [show (ca (τ23.2.1 12) ((τ23.1 3)) ≤ (τ23.1 4)) = (ca (τ_6.2.1 12) ((τ_6.1 3)) ≤ (τ_6.1 4)) from by rw [w3_τ23, w4_τ23, g12_τ23]]; exact Y20
              have Y1 : j_l2 (τ23.2.1 6) (τ23.1 3) := by rw [show (j_l2 (τ23.2.1 6) (τ23.1 3)) = (j_l2 (τ_6.2.1 6) (τ_6.1 3)) from by rw [w3_τ23, g6_τ23]]; exact Y1
              have SYt : oc (τ23.2.1 6) ≤ (τ23.1 3) := by rw [show (oc (τ23.2.1 6) ≤ (τ23.1 3)) = (oc (τ_6.2.1 6) ≤ (τ_6.1 3)) from by rw [w3_τ23, g6_τ23]]; exact SYt
              have AVt : (τ23.1 12) ≤ ca (τ23.2.1 9) (τ23.1 3) := by rw [show ((τ23.1 12) ≤ ca (τ23.2.1 9) (τ23.1 3)) = ((τ_6.1 12) ≤ ca (τ_6.2.1 9) (τ_6.1 3)) from by rw [w3_τ23, w12_τ23, g9_τ23]]; exact AVt
              have STt : j_l2 (τ23.2.1 6) (τ23.1 3) := by rw [show (j_l2 (τ23.2.1 6) (τ23.1 3)) = (j_l2 (τ_6.2.1 6) (τ_6.1 3)) from by rw [w3_τ23, g6_τ23]]; exact STt
              have NTB : n_tb (τ23.1 3) (τ23.2.1 1) (τ23.2.1 2) (τ23.2.1 3) (τ23.2.1 6) := by rw [show (n_tb (τ23.1 3) (τ23.2.1 1) (τ23.2.1 2) (τ23.2.1 3) (τ23.2.1 6)) = (n_tb (τ_6.1 3) (τ_6.2.1 1) (τ_6.2.1 2) (τ_6.2.1 3) (τ_6.2.1 6)) from by rw [w3_τ23, g1_τ23, g2_τ23, g3_τ23, g6_τ23]]; exact NTB
              have NNM : n_nm (τ23.1 3) (τ23.1 2) (τ23.2.1 2) (τ23.2.1 3) := by rw [show (n_nm (τ23.1 3) (τ23.1 2) (τ23.2.1 2) (τ23.2.1 3)) = (n_nm (τ_6.1 3) (τ_6.1 2) (τ_6.2.1 2) (τ_6.2.1 3)) from by rw [w2_τ23, w3_τ23, g2_τ23, g3_τ23]]; exact NNM
              have NTU : n_tu (τ23.1 3) (τ23.1 10) (τ23.1 11) (τ23.2.1 1) (τ23.2.1 2) (τ23.2.1 3) := by rw [show (n_tu (τ23.1 3) (τ23.1 10) (τ23.1 11) (τ23.2.1 1) (τ23.2.1 2) (τ23.2.1 3)) = (n_tu (τ_6.1 3) (τ_6.1 10) (τ_6.1 11) (τ_6.2.1 1) (τ_6.2.1 2) (τ_6.2.1 3)) from by rw [w3_τ23, w10_τ23, w11_τ23, g1_τ23, g2_τ23, g3_τ23]]; exact NTU
              have A1 : ∀ j, 0 ≤ τ23.2.1 1 j ∧ τ23.2.1 1 j ≤ 255 := fun j => hT.2 1 j
              have A2 : ∀ j, 0 ≤ τ23.2.1 2 j ∧ τ23.2.1 2 j ≤ 30000 := fun j => hT.2 2 j
              have A3 : ∀ j, 0 ≤ τ23.2.1 3 j ∧ τ23.2.1 3 j ≤ 60 := fun j => hT.2 3 j
              have A6 : ∀ j, (-1) ≤ τ23.2.1 6 j ∧ τ23.2.1 6 j ≤ 999 := fun j => hT.2 6 j
              have A7 : ∀ j, (-1) ≤ τ23.2.1 7 j ∧ τ23.2.1 7 j ≤ 1499 := fun j => hT.2 7 j
              have A8 : ∀ j, 0 ≤ τ23.2.1 8 j ∧ τ23.2.1 8 j ≤ 1 := fun j => hT.2 8 j
              have A9 : ∀ j, 0 ≤ τ23.2.1 9 j ∧ τ23.2.1 9 j ≤ 1 := fun j => hT.2 9 j
              have A10 : ∀ j, (-1) ≤ τ23.2.1 10 j ∧ τ23.2.1 10 j ≤ 999 := fun j => hT.2 10 j
              have A11 : ∀ j, (-1) ≤ τ23.2.1 11 j ∧ τ23.2.1 11 j ≤ 1499 := fun j => hT.2 11 j
              have A12 : ∀ j, 0 ≤ τ23.2.1 12 j ∧ τ23.2.1 12 j ≤ 1 := fun j => hT.2 12 j
              have v0 : 0 ≤ τ23.1 0 ∧ τ23.1 0 ≤ 60000 := hT.1 0
              have v2 : 0 ≤ τ23.1 2 ∧ τ23.1 2 ≤ 30000 := hT.1 2
              have v3 : 0 ≤ τ23.1 3 ∧ τ23.1 3 ≤ 1000 := hT.1 3
              have v4 : 0 ≤ τ23.1 4 ∧ τ23.1 4 ≤ 100 := hT.1 4
              have v5 : 0 ≤ τ23.1 5 ∧ τ23.1 5 ≤ 1500 := hT.1 5
              have v6 : 0 ≤ τ23.1 6 ∧ τ23.1 6 ≤ 30000 := hT.1 6
              have v7 : 0 ≤ τ23.1 7 ∧ τ23.1 7 ≤ 90000 := hT.1 7
              have v8 : 0 ≤ τ23.1 8 ∧ τ23.1 8 ≤ 20000 := hT.1 8
              have v9 : 0 ≤ τ23.1 9 ∧ τ23.1 9 ≤ 20000 := hT.1 9
              have v10 : (-1) ≤ τ23.1 10 ∧ τ23.1 10 ≤ 999 := hT.1 10
              have v11 : (-1) ≤ τ23.1 11 ∧ τ23.1 11 ≤ 999 := hT.1 11
              have v12 : 0 ≤ τ23.1 12 ∧ τ23.1 12 ≤ 1000 := hT.1 12
              have v16 : 0 ≤ τ23.1 16 ∧ τ23.1 16 ≤ 60000 := hT.1 16
              have v17 : 0 ≤ τ23.1 17 ∧ τ23.1 17 ≤ 60000 := hT.1 17
              have v18 : 0 ≤ τ23.1 18 ∧ τ23.1 18 ≤ 60000 := hT.1 18
              have v19 : (-1) ≤ τ23.1 19 ∧ τ23.1 19 ≤ 125 := hT.1 19
              have v20 : 0 ≤ τ23.1 20 ∧ τ23.1 20 ≤ 19 := hT.1 20
              have av3 : σ.1 3 ≤ τ23.1 3 := ag.1 3 (by decide)
              exact ⟨hT, (show oc (τ23.2.1 6) ≤ (τ23.1 3) from SYt), (show (τ23.1 12) ≤ ca (τ23.2.1 9) (τ23.1 3) from AVt), (show (τ23.1 16) ≤ (τ23.1 0) from by (first | omega | (simp only [st_s] <;> omega) | assumption | omega | fail)), (show ¬ (σ.1 20) = 0 → (τ23.1 20) = (σ.1 20) from by (first | omega | (simp only [st_s] <;> omega) | assumption | omega | fail)), (show j_l2 (τ23.2.1 6) (τ23.1 3) from Y1), (show ca (τ23.2.1 12) ((τ23.1 3)) ≤ (τ23.1 4) from Y20), (show (τ23.1 17) + (τ23.1 18) ≤ (τ23.1 0) from by (first | omega | (simp only [st_s] <;> omega) | assumption | omega | fail)), (show (σ.1 16) ≤ (τ23.1 16) from by (first | omega | (simp only [st_s] <;> omega) | assumption | omega | fail)), ag, (show n_rl σ τ23 from by (first | exact i6_13 | exact n_rl_r i6_13 hf_τ18 rfl rfl | exact n_rl_r i6_13 hf_τ23 rfl rfl | fail)), (show n_rc σ τ23 from by (first | exact i6_14 | exact n_rc_r i6_14 hf_τ18 rfl rfl | exact n_rc_r i6_14 hf_τ23 rfl rfl | fail)), (show n_fo σ τ23 from by (first | exact i6_15 | exact n_fo_t i6_15 (n_fo_h hf_τ18 rfl rfl) (by omega) | exact n_fo_t i6_15 (n_fo_h hf_τ23 rfl rfl) (by omega) | fail)), (show n_tb (τ23.1 3) (τ23.2.1 1) (τ23.2.1 2) (τ23.2.1 3) (τ23.2.1 6) from NTB), (show n_nm (τ23.1 3) (τ23.1 2) (τ23.2.1 2) (τ23.2.1 3) from NNM), (show n_tu (τ23.1 3) (τ23.1 10) (τ23.1 11) (τ23.2.1 1) (τ23.2.1 2) (τ23.2.1 3) from NTU)⟩
        ·
          refine ⟨fun c6 => ?_, fun c6 => ?_⟩
          ·
            refine ⟨_, K3_X13_declare hT (show 0 ≤ n1 ∧ n1 ≤ 1 from by (first | omega | (simp only [st_s] <;> omega) | assumption | omega | fail)) (show (τ_6.1 17) + (τ_6.1 18) ≤ (τ_6.1 0) from by (first | omega | (simp only [st_s] <;> omega) | assumption | omega | fail)) (show oc (τ_6.2.1 6) ≤ (τ_6.1 3) from SYt) (show oc (τ_6.2.1 7) < 4096 from by (first | omega | (simp only [st_s] <;> omega) | assumption | omega | fail)) (show (τ_6.1 12) ≤ ca (τ_6.2.1 9) (τ_6.1 3) from AVt) (show j_l2 (τ_6.2.1 6) (τ_6.1 3) from Y1) (show ca (τ_6.2.1 12) ((τ_6.1 3)) ≤ (τ_6.1 4) from Y20) (show n_tb (τ_6.1 3) (τ_6.2.1 1) (τ_6.2.1 2) (τ_6.2.1 3) (τ_6.2.1 6) from NTB) (show n_nm (τ_6.1 3) (τ_6.1 2) (τ_6.2.1 2) (τ_6.2.1 3) from NNM) (show n_tu (τ_6.1 3) (τ_6.1 10) (τ_6.1 11) (τ_6.2.1 1) (τ_6.2.1 2) (τ_6.2.1 3) from NTU), ?_⟩
            intro τ9 hn_τ9 hf_τ9 hq
            obtain ⟨hT, q7_1, q7_2, q7_3, q7_4, q7_5, q7_6, q7_7, q7_8, q7_9, q7_10, q7_11⟩ := hq
            replace q7_1 : oc (τ9.2.1 6) ≤ (τ9.1 3) := q7_1
            replace q7_2 : (τ9.1 12) ≤ ca (τ9.2.1 9) (τ9.1 3) := q7_2
            replace q7_3 : j_l2 (τ9.2.1 6) (τ9.1 3) := q7_3
            replace q7_4 : ca (τ9.2.1 12) ((τ9.1 3)) ≤ (τ9.1 4) := q7_4
            replace q7_5 : m_ag τ_6 τ9 := q7_5
            replace q7_6 : n_rl τ_6 τ9 := q7_6
            replace q7_7 : n_tb (τ9.1 3) (τ9.2.1 1) (τ9.2.1 2) (τ9.2.1 3) (τ9.2.1 6) := q7_7
            replace q7_8 : n_nm (τ9.1 3) (τ9.1 2) (τ9.2.1 2) (τ9.2.1 3) := q7_8
            replace q7_9 : n_tu (τ9.1 3) (τ9.1 10) (τ9.1 11) (τ9.2.1 1) (τ9.2.1 2) (τ9.2.1 3) := q7_9
            replace q7_10 : n_rc τ_6 τ9 := q7_10
            replace q7_11 : n_fo τ_6 τ9 := q7_11
            replace ag : m_ag σ τ9 := ag_t ag q7_5 rfl
            have w0_τ9 : τ9.1 0 = τ_6.1 0 := hf_τ9.1 0 (by decide)
            have w4_τ9 : τ9.1 4 = τ_6.1 4 := hf_τ9.1 4 (by decide)
            have w5_τ9 : τ9.1 5 = τ_6.1 5 := hf_τ9.1 5 (by decide)
            have w6_τ9 : τ9.1 6 = τ_6.1 6 := hf_τ9.1 6 (by decide)
            have w7_τ9 : τ9.1 7 = τ_6.1 7 := hf_τ9.1 7 (by decide)
            have w8_τ9 : τ9.1 8 = τ_6.1 8 := hf_τ9.1 8 (by decide)
            have w9_τ9 : τ9.1 9 = τ_6.1 9 := hf_τ9.1 9 (by decide)
            have w16_τ9 : τ9.1 16 = τ_6.1 16 := hf_τ9.1 16 (by decide)
            have w17_τ9 : τ9.1 17 = τ_6.1 17 := hf_τ9.1 17 (by decide)
            have w18_τ9 : τ9.1 18 = τ_6.1 18 := hf_τ9.1 18 (by decide)
            have w19_τ9 : τ9.1 19 = τ_6.1 19 := hf_τ9.1 19 (by decide)
            have g7_τ9 : τ9.2.1 7 = τ_6.2.1 7 := hf_τ9.2.1 7 (by decide)
            first | (have ca_τ9 := congr (congrArg ca g9_τ9) w3_τ9) | skip
            first | (have o6_τ9 := congrArg oc g6_τ9) | skip
            first | (have o7_τ9 := congrArg oc g7_τ9) | skip
            have W0 : τ9.1 0 = σ.1 0 := by first | exact w0_τ9.trans W0 | omega
            have W4 : τ9.1 4 = σ.1 4 := by first | exact w4_τ9.trans W4 | omega
            have W5 : τ9.1 5 = σ.1 5 := by first | exact w5_τ9.trans W5 | omega
            have W6 : τ9.1 6 = σ.1 6 := by first | exact w6_τ9.trans W6 | omega
            have W7 : τ9.1 7 = σ.1 7 := by first | exact w7_τ9.trans W7 | omega
            have W8 : τ9.1 8 = σ.1 8 := by first | exact w8_τ9.trans W8 | omega
            have W9 : τ9.1 9 = σ.1 9 := by first | exact w9_τ9.trans W9 | omega
            have G7 : τ9.2.1 7 = σ.2.1 7 := (g7_τ9).trans G7
            have Y20 : ca (τ9.2.1 12) ((τ9.1 3)) ≤ (τ9.1 4) := q7_4
            have Y1 : j_l2 (τ9.2.1 6) (τ9.1 3) := q7_3
            have SYt : oc (τ9.2.1 6) ≤ (τ9.1 3) := q7_1
            have AVt : (τ9.1 12) ≤ ca (τ9.2.1 9) (τ9.1 3) := q7_2
            have STt : j_l2 (τ9.2.1 6) (τ9.1 3) := q7_3
            have NTB : n_tb (τ9.1 3) (τ9.2.1 1) (τ9.2.1 2) (τ9.2.1 3) (τ9.2.1 6) := q7_7
            have NNM : n_nm (τ9.1 3) (τ9.1 2) (τ9.2.1 2) (τ9.2.1 3) := q7_8
            have NTU : n_tu (τ9.1 3) (τ9.1 10) (τ9.1 11) (τ9.2.1 1) (τ9.2.1 2) (τ9.2.1 3) := q7_9
            have A1 : ∀ j, 0 ≤ τ9.2.1 1 j ∧ τ9.2.1 1 j ≤ 255 := fun j => hT.2 1 j
            have A2 : ∀ j, 0 ≤ τ9.2.1 2 j ∧ τ9.2.1 2 j ≤ 30000 := fun j => hT.2 2 j
            have A3 : ∀ j, 0 ≤ τ9.2.1 3 j ∧ τ9.2.1 3 j ≤ 60 := fun j => hT.2 3 j
            have A6 : ∀ j, (-1) ≤ τ9.2.1 6 j ∧ τ9.2.1 6 j ≤ 999 := fun j => hT.2 6 j
            have A7 : ∀ j, (-1) ≤ τ9.2.1 7 j ∧ τ9.2.1 7 j ≤ 1499 := fun j => hT.2 7 j
            have A8 : ∀ j, 0 ≤ τ9.2.1 8 j ∧ τ9.2.1 8 j ≤ 1 := fun j => hT.2 8 j
            have A9 : ∀ j, 0 ≤ τ9.2.1 9 j ∧ τ9.2.1 9 j ≤ 1 := fun j => hT.2 9 j
            have A10 : ∀ j, (-1) ≤ τ9.2.1 10 j ∧ τ9.2.1 10 j ≤ 999 := fun j => hT.2 10 j
            have A11 : ∀ j, (-1) ≤ τ9.2.1 11 j ∧ τ9.2.1 11 j ≤ 1499 := fun j => hT.2 11 j
            have A12 : ∀ j, 0 ≤ τ9.2.1 12 j ∧ τ9.2.1 12 j ≤ 1 := fun j => hT.2 12 j
            have v0 : 0 ≤ τ9.1 0 ∧ τ9.1 0 ≤ 60000 := hT.1 0
            have v2 : 0 ≤ τ9.1 2 ∧ τ9.1 2 ≤ 30000 := hT.1 2
            have v3 : 0 ≤ τ9.1 3 ∧ τ9.1 3 ≤ 1000 := hT.1 3
            have v4 : 0 ≤ τ9.1 4 ∧ τ9.1 4 ≤ 100 := hT.1 4
            have v5 : 0 ≤ τ9.1 5 ∧ τ9.1 5 ≤ 1500 := hT.1 5
            have v6 : 0 ≤ τ9.1 6 ∧ τ9.1 6 ≤ 30000 := hT.1 6
            have v7 : 0 ≤ τ9.1 7 ∧ τ9.1 7 ≤ 90000 := hT.1 7
            have v8 : 0 ≤ τ9.1 8 ∧ τ9.1 8 ≤ 20000 := hT.1 8
            have v9 : 0 ≤ τ9.1 9 ∧ τ9.1 9 ≤ 20000 := hT.1 9
            have v10 : (-1) ≤ τ9.1 10 ∧ τ9.1 10 ≤ 999 := hT.1 10
            have v11 : (-1) ≤ τ9.1 11 ∧ τ9.1 11 ≤ 999 := hT.1 11
            have v12 : 0 ≤ τ9.1 12 ∧ τ9.1 12 ≤ 1000 := hT.1 12
            have v16 : 0 ≤ τ9.1 16 ∧ τ9.1 16 ≤ 60000 := hT.1 16
            have v17 : 0 ≤ τ9.1 17 ∧ τ9.1 17 ≤ 60000 := hT.1 17
            have v18 : 0 ≤ τ9.1 18 ∧ τ9.1 18 ≤ 60000 := hT.1 18
            have v19 : (-1) ≤ τ9.1 19 ∧ τ9.1 19 ≤ 125 := hT.1 19
            have v20 : 0 ≤ τ9.1 20 ∧ τ9.1 20 ≤ 19 := hT.1 20
            have av3 : σ.1 3 ≤ τ9.1 3 := ag.1 3 (by decide)
            have NTB := q7_7
            have NNM := q7_8
            have NTU := q7_9
            have rl9 : n_rl σ τ9 := n_rl_t i6_13 q7_6
            have rc9 : n_rc σ τ9 := n_rc_t i6_14 q7_10
            have fo9 : n_fo σ τ9 := n_fo_t i6_15 q7_11 (by omega)
            refine ⟨fun c10 => ?_, fun c10 => ?_⟩
            ·
              refine ⟨(⟨by (first | omega | (simp only [st_s] <;> omega) | assumption | omega | fail), by (first | omega | (simp only [st_s] <;> omega) | assumption | omega | fail)⟩ : rg (u2_6 + 1)), ?_⟩
              exact ih_6 _ _ (show (3 * ((τ9.1 0) - (τ9.1 16)) + z_0 ((τ9.1 20)) + 1 - z_0 ((τ9.1 19)) : Int) < ((m_6 : Nat) : Int) from by (have zz0 := z_e ((τ9.1 20)); have zz1 := z_e ((τ9.1 19)); (first | omega | (simp only [st_s] <;> omega) | assumption | omega | fail))) hT ag (show τ9.1 0 = σ.1 0 from by first | exact W0 | omega) (show τ9.1 4 = σ.1 4 from by first | exact W4 | omega) (show τ9.1 5 = σ.1 5 from by first | exact W5 | omega) (show τ9.1 6 = σ.1 6 from by first | exact W6 | omega) (show τ9.1 7 = σ.1 7 from by first | exact W7 | omega) (show τ9.1 8 = σ.1 8 from by first | exact W8 | omega) (show τ9.1 9 = σ.1 9 from by first | exact W9 | omega) G7 (show (τ9.1 16) ≤ (τ9.1 0) from by (first | omega | (simp only [st_s] <;> omega) | assumption | omega | fail)) (show (τ9.1 17) + (τ9.1 18) ≤ (τ9.1 0) from by (first | omega | (simp only [st_s] <;> omega) | assumption | omega | fail)) (show j_l2 (τ9.2.1 6) (τ9.1 3) from Y1) (show oc (τ9.2.1 6) ≤ (τ9.1 3) from SYt) (show (τ9.1 12) ≤ ca (τ9.2.1 9) (τ9.1 3) from AVt) (show ca (τ9.2.1 12) ((τ9.1 3)) ≤ (τ9.1 4) from Y20) (show oc (τ9.2.1 7) < 4096 from by (first | omega | (simp only [st_s] <;> omega) | assumption | omega | fail)) (show 0 ≤ (u2_6 + 1) from by (first | omega | (simp only [st_s] <;> omega) | assumption | omega | fail)) (show (τ9.1 20) = 0 → (τ9.1 19) = 1 → (u2_6 + 1) ≤ (τ9.1 16) from by (first | omega | (simp only [st_s] <;> omega) | assumption | omega | fail)) (show (u2_6 + 1) ≤ (τ9.1 16) + 1 from by (first | omega | (simp only [st_s] <;> omega) | assumption | omega | fail)) (show ¬ (σ.1 20) = 0 → (τ9.1 20) = (σ.1 20) from by (first | omega | (simp only [st_s] <;> omega) | assumption | omega | fail)) (show (σ.1 16) ≤ (τ9.1 16) from by (first | omega | (simp only [st_s] <;> omega) | assumption | omega | fail)) (show n_rl σ τ9 from by (first | exact rl9 | exact n_rl_r rl9 hf_τ14 rfl rfl | exact n_rl_h hf_τ3 rfl rfl | fail)) (show n_rc σ τ9 from by (first | exact rc9 | exact n_rc_r rc9 hf_τ14 rfl rfl | exact n_rc_h hf_τ3 rfl rfl | fail)) (show n_fo σ τ9 from by (first | exact fo9 | exact n_fo_t fo9 (n_fo_h hf_τ14 rfl rfl) (by omega) | exact n_fo_h hf_τ3 rfl rfl | fail)) (show n_tb (τ9.1 3) (τ9.2.1 1) (τ9.2.1 2) (τ9.2.1 3) (τ9.2.1 6) from NTB) (show n_nm (τ9.1 3) (τ9.1 2) (τ9.2.1 2) (τ9.2.1 3) from NNM) (show n_tu (τ9.1 3) (τ9.1 10) (τ9.1 11) (τ9.2.1 1) (τ9.2.1 2) (τ9.2.1 3) from NTU)
            ·
              refine ⟨_, K_X13_next hT (show (τ9.1 16) ≤ (τ9.1 0) from by (first | omega | (simp only [st_s] <;> omega) | assumption | omega | fail)), ?_⟩
              intro τ14 hn_τ14 hf_τ14 hq
              obtain ⟨hT, q12_1, q12_2, q12_3, q12_4, q12_5⟩ := hq
              replace q12_1 : (τ14.1 16) ≤ (τ14.1 0) := q12_1
              replace q12_2 : (τ14.1 17) + (τ14.1 18) ≤ (τ14.1 0) := q12_2
              replace q12_3 : (τ9.1 16) ≤ (τ14.1 16) := q12_3
              replace q12_4 : ¬ (τ9.1 20) = 0 → (τ14.1 20) = (τ9.1 20) := q12_4
              replace q12_5 : (τ14.1 20) = 0 → ¬ (τ14.1 19) = 0 → (τ9.1 16) < (τ14.1 16) ∧ 0 < (τ14.1 18) := q12_5
              replace ag : m_ag σ τ14 := ag_r ag hf_τ14 rfl rfl
              have w0_τ14 : τ14.1 0 = τ9.1 0 := hf_τ14.1 0 (by decide)
              have w2_τ14 : τ14.1 2 = τ9.1 2 := hf_τ14.1 2 (by decide)
              have w3_τ14 : τ14.1 3 = τ9.1 3 := hf_τ14.1 3 (by decide)
              have w4_τ14 : τ14.1 4 = τ9.1 4 := hf_τ14.1 4 (by decide)
              have w5_τ14 : τ14.1 5 = τ9.1 5 := hf_τ14.1 5 (by decide)
              have w6_τ14 : τ14.1 6 = τ9.1 6 := hf_τ14.1 6 (by decide)
              have w7_τ14 : τ14.1 7 = τ9.1 7 := hf_τ14.1 7 (by decide)
              have w8_τ14 : τ14.1 8 = τ9.1 8 := hf_τ14.1 8 (by decide)
              have w9_τ14 : τ14.1 9 = τ9.1 9 := hf_τ14.1 9 (by decide)
              have w10_τ14 : τ14.1 10 = τ9.1 10 := hf_τ14.1 10 (by decide)
              have w11_τ14 : τ14.1 11 = τ9.1 11 := hf_τ14.1 11 (by decide)
              have w12_τ14 : τ14.1 12 = τ9.1 12 := hf_τ14.1 12 (by decide)
              have g1_τ14 : τ14.2.1 1 = τ9.2.1 1 := hf_τ14.2.1 1 (by decide)
              have g2_τ14 : τ14.2.1 2 = τ9.2.1 2 := hf_τ14.2.1 2 (by decide)
              have g3_τ14 : τ14.2.1 3 = τ9.2.1 3 := hf_τ14.2.1 3 (by decide)
              have g6_τ14 : τ14.2.1 6 = τ9.2.1 6 := hf_τ14.2.1 6 (by decide)
              have g7_τ14 : τ14.2.1 7 = τ9.2.1 7 := hf_τ14.2.1 7 (by decide)
              have g8_τ14 : τ14.2.1 8 = τ9.2.1 8 := hf_τ14.2.1 8 (by decide)
              have g9_τ14 : τ14.2.1 9 = τ9.2.1 9 := hf_τ14.2.1 9 (by decide)
              have g10_τ14 : τ14.2.1 10 = τ9.2.1 10 := hf_τ14.2.1 10 (by decide)
              have g11_τ14 : τ14.2.1 11 = τ9.2.1 11 := hf_τ14.2.1 11 (by decide)
              have g12_τ14 : τ14.2.1 12 = τ9.2.1 12 := hf_τ14.2.1 12 (by decide)
              first | (have ca_τ14 := congr (congrArg ca g9_τ14) w3_τ14) | skip
              first | (have o6_τ14 := congrArg oc g6_τ14) | skip
              first | (have o7_τ14 := congrArg oc g7_τ14) | skip
              have W0 : τ14.1 0 = σ.1 0 := by first | exact w0_τ14.trans W0 | omega
              have W4 : τ14.1 4 = σ.1 4 := by first | exact w4_τ14.trans W4 | omega
              have W5 : τ14.1 5 = σ.1 5 := by first | exact w5_τ14.trans W5 | omega
              have W6 : τ14.1 6 = σ.1 6 := by first | exact w6_τ14.trans W6 | omega
              have W7 : τ14.1 7 = σ.1 7 := by first | exact w7_τ14.trans W7 | omega
              have W8 : τ14.1 8 = σ.1 8 := by first | exact w8_τ14.trans W8 | omega
              have W9 : τ14.1 9 = σ.1 9 := by first | exact w9_τ14.trans W9 | omega
              have G7 : τ14.2.1 7 = σ.2.1 7 := (g7_τ14).trans G7
              have Y20 : ca (τ14.2.1 12) ((τ14.1 3)) ≤ (τ14.1 4) := by rw [show (ca (τ14.2.1 12) ((τ14.1 3)) ≤ (τ14.1 4)) = (ca (τ9.2.1 12) ((τ9.1 3)) ≤ (τ9.1 4)) from by rw [w3_τ14, w4_τ14, g12_τ14]]; exact Y20
              have Y1 : j_l2 (τ14.2.1 6) (τ14.1 3) := by rw [show (j_l2 (τ14.2.1 6) (τ14.1 3)) = (j_l2 (τ9.2.1 6) (τ9.1 3)) from by rw [w3_τ14, g6_τ14]]; exact Y1
              have SYt : oc (τ14.2.1 6) ≤ (τ14.1 3) := by rw [show (oc (τ14.2.1 6) ≤ (τ14.1 3)) = (oc (τ9.2.1 6) ≤ (τ9.1 3)) from by rw [w3_τ14, g6_τ14]]; exact SYt
              have AVt : (τ14.1 12) ≤ ca (τ14.2.1 9) (τ14.1 3) := by rw [show ((τ14.1 12) ≤ ca (τ14.2.1 9) (τ14.1 3)) = ((τ9.1 12) ≤ ca (τ9.2.1 9) (τ9.1 3)) from by rw [w3_τ14, w12_τ14, g9_τ14]]; exact AVt
              have STt : j_l2 (τ14.2.1 6) (τ14.1 3) := by rw [show (j_l2 (τ14.2.1 6) (τ14.1 3)) = (j_l2 (τ9.2.1 6) (τ9.1 3)) from by rw [w3_τ14, g6_τ14]]; exact STt
              have NTB : n_tb (τ14.1 3) (τ14.2.1 1) (τ14.2.1 2) (τ14.2.1 3) (τ14.2.1 6) := by rw [show (n_tb (τ14.1 3) (τ14.2.1 1) (τ14.2.1 2) (τ14.2.1 3) (τ14.2.1 6)) = (n_tb (τ9.1 3) (τ9.2.1 1) (τ9.2.1 2) (τ9.2.1 3) (τ9.2.1 6)) from by rw [w3_τ14, g1_τ14, g2_τ14, g3_τ14, g6_τ14]]; exact NTB
              have NNM : n_nm (τ14.1 3) (τ14.1 2) (τ14.2.1 2) (τ14.2.1 3) := by rw [show (n_nm (τ14.1 3) (τ14.1 2) (τ14.2.1 2) (τ14.2.1 3)) = (n_nm (τ9.1 3) (τ9.1 2) (τ9.2.1 2) (τ9.2.1 3)) from by rw [w2_τ14, w3_τ14, g2_τ14, g3_τ14]]; exact NNM
              have NTU : n_tu (τ14.1 3) (τ14.1 10) (τ14.1 11) (τ14.2.1 1) (τ14.2.1 2) (τ14.2.1 3) := by rw [show (n_tu (τ14.1 3) (τ14.1 10) (τ14.1 11) (τ14.2.1 1) (τ14.2.1 2) (τ14.2.1 3)) = (n_tu (τ9.1 3) (τ9.1 10) (τ9.1 11) (τ9.2.1 1) (τ9.2.1 2) (τ9.2.1 3)) from by rw [w3_τ14, w10_τ14, w11_τ14, g1_τ14, g2_τ14, g3_τ14]]; exact NTU
              have A1 : ∀ j, 0 ≤ τ14.2.1 1 j ∧ τ14.2.1 1 j ≤ 255 := fun j => hT.2 1 j
              have A2 : ∀ j, 0 ≤ τ14.2.1 2 j ∧ τ14.2.1 2 j ≤ 30000 := fun j => hT.2 2 j
              have A3 : ∀ j, 0 ≤ τ14.2.1 3 j ∧ τ14.2.1 3 j ≤ 60 := fun j => hT.2 3 j
              have A6 : ∀ j, (-1) ≤ τ14.2.1 6 j ∧ τ14.2.1 6 j ≤ 999 := fun j => hT.2 6 j
              have A7 : ∀ j, (-1) ≤ τ14.2.1 7 j ∧ τ14.2.1 7 j ≤ 1499 := fun j => hT.2 7 j
              have A8 : ∀ j, 0 ≤ τ14.2.1 8 j ∧ τ14.2.1 8 j ≤ 1 := fun j => hT.2 8 j
              have A9 : ∀ j, 0 ≤ τ14.2.1 9 j ∧ τ14.2.1 9 j ≤ 1 := fun j => hT.2 9 j
              have A10 : ∀ j, (-1) ≤ τ14.2.1 10 j ∧ τ14.2.1 10 j ≤ 999 := fun j => hT.2 10 j
              have A11 : ∀ j, (-1) ≤ τ14.2.1 11 j ∧ τ14.2.1 11 j ≤ 1499 := fun j => hT.2 11 j
              have A12 : ∀ j, 0 ≤ τ14.2.1 12 j ∧ τ14.2.1 12 j ≤ 1 := fun j => hT.2 12 j
              have v0 : 0 ≤ τ14.1 0 ∧ τ14.1 0 ≤ 60000 := hT.1 0
              have v2 : 0 ≤ τ14.1 2 ∧ τ14.1 2 ≤ 30000 := hT.1 2
              have v3 : 0 ≤ τ14.1 3 ∧ τ14.1 3 ≤ 1000 := hT.1 3
              have v4 : 0 ≤ τ14.1 4 ∧ τ14.1 4 ≤ 100 := hT.1 4
              have v5 : 0 ≤ τ14.1 5 ∧ τ14.1 5 ≤ 1500 := hT.1 5
              have v6 : 0 ≤ τ14.1 6 ∧ τ14.1 6 ≤ 30000 := hT.1 6
              have v7 : 0 ≤ τ14.1 7 ∧ τ14.1 7 ≤ 90000 := hT.1 7
              have v8 : 0 ≤ τ14.1 8 ∧ τ14.1 8 ≤ 20000 := hT.1 8
              have v9 : 0 ≤ τ14.1 9 ∧ τ14.1 9 ≤ 20000 := hT.1 9
              have v10 : (-1) ≤ τ14.1 10 ∧ τ14.1 10 ≤ 999 := hT.1 10
              have v11 : (-1) ≤ τ14.1 11 ∧ τ14.1 11 ≤ 999 := hT.1 11
              have v12 : 0 ≤ τ14.1 12 ∧ τ14.1 12 ≤ 1000 := hT.1 12
              have v16 : 0 ≤ τ14.1 16 ∧ τ14.1 16 ≤ 60000 := hT.1 16
              have v17 : 0 ≤ τ14.1 17 ∧ τ14.1 17 ≤ 60000 := hT.1 17
              have v18 : 0 ≤ τ14.1 18 ∧ τ14.1 18 ≤ 60000 := hT.1 18
              have v19 : (-1) ≤ τ14.1 19 ∧ τ14.1 19 ≤ 125 := hT.1 19
              have v20 : 0 ≤ τ14.1 20 ∧ τ14.1 20 ≤ 19 := hT.1 20
              have av3 : σ.1 3 ≤ τ14.1 3 := ag.1 3 (by decide)
              refine ⟨(⟨by (first | omega | (simp only [st_s] <;> omega) | assumption | omega | fail), by (first | omega | (simp only [st_s] <;> omega) | assumption | omega | fail)⟩ : rg (u2_6 + 1)), ?_⟩
              exact ih_6 _ _ (show (3 * ((τ14.1 0) - (τ14.1 16)) + z_0 ((τ14.1 20)) + 1 - z_0 ((τ14.1 19)) : Int) < ((m_6 : Nat) : Int) from by (have zz0 := z_e ((τ14.1 20)); have zz1 := z_e ((τ14.1 19)); (first | omega | (simp only [st_s] <;> omega) | assumption | omega | fail))) hT ag (show τ14.1 0 = σ.1 0 from by first | exact W0 | omega) (show τ14.1 4 = σ.1 4 from by first | exact W4 | omega) (show τ14.1 5 = σ.1 5 from by first | exact W5 | omega) (show τ14.1 6 = σ.1 6 from by first | exact W6 | omega) (show τ14.1 7 = σ.1 7 from by first | exact W7 | omega) (show τ14.1 8 = σ.1 8 from by first | exact W8 | omega) (show τ14.1 9 = σ.1 9 from by first | exact W9 | omega) G7 (show (τ14.1 16) ≤ (τ14.1 0) from by (first | omega | (simp only [st_s] <;> omega) | assumption | omega | fail)) (show (τ14.1 17) + (τ14.1 18) ≤ (τ14.1 0) from by (first | omega | (simp only [st_s] <;> omega) | assumption | omega | fail)) (show j_l2 (τ14.2.1 6) (τ14.1 3) from Y1) (show oc (τ14.2.1 6) ≤ (τ14.1 3) from SYt) (show (τ14.1 12) ≤ ca (τ14.2.1 9) (τ14.1 3) from AVt) (show ca (τ14.2.1 12) ((τ14.1 3)) ≤ (τ14.1 4) from Y20) (show oc (τ14.2.1 7) < 4096 from by (first | omega | (simp only [st_s] <;> omega) | assumption | omega | fail)) (show 0 ≤ (u2_6 + 1) from by (first | omega | (simp only [st_s] <;> omega) | assumption | omega | fail)) (show (τ14.1 20) = 0 → (τ14.1 19) = 1 → (u2_6 + 1) ≤ (τ14.1 16) from by (first | omega | (simp only [st_s] <;> omega) | assumption | omega | fail)) (show (u2_6 + 1) ≤ (τ14.1 16) + 1 from by (first | omega | (simp only [st_s] <;> omega) | assumption | omega | fail)) (show ¬ (σ.1 20) = 0 → (τ14.1 20) = (σ.1 20) from by (first | omega | (simp only [st_s] <;> omega) | assumption | omega | fail)) (show (σ.1 16) ≤ (τ14.1 16) from by (first | omega | (simp only [st_s] <;> omega) | assumption | omega | fail)) (show n_rl σ τ14 from by (first | exact rl9 | exact n_rl_r rl9 hf_τ14 rfl rfl | exact n_rl_h hf_τ3 rfl rfl | fail)) (show n_rc σ τ14 from by (first | exact rc9 | exact n_rc_r rc9 hf_τ14 rfl rfl | exact n_rc_h hf_τ3 rfl rfl | fail)) (show n_fo σ τ14 from by (first | exact fo9 | exact n_fo_t fo9 (n_fo_h hf_τ14 rfl rfl) (by omega) | exact n_fo_h hf_τ3 rfl rfl | fail)) (show n_tb (τ14.1 3) (τ14.2.1 1) (τ14.2.1 2) (τ14.2.1 3) (τ14.2.1 6) from NTB) (show n_nm (τ14.1 3) (τ14.1 2) (τ14.2.1 2) (τ14.2.1 3) from NNM) (show n_tu (τ14.1 3) (τ14.1 10) (τ14.1 11) (τ14.2.1 1) (τ14.2.1 2) (τ14.2.1 3) from NTU)
          ·
            refine ⟨_, K_X13_failHere hT (show 0 ≤ (4 : Int) from by (first | omega | (simp only [st_s] <;> omega) | assumption | omega | fail)) (show (4 : Int) ≤ 19 from by (first | omega | (simp only [st_s] <;> omega) | assumption | omega | fail)), ?_⟩
            intro τ18 hn_τ18 hf_τ18 hq
            obtain ⟨hT, q16_1, q16_2⟩ := hq
            replace q16_1 : ¬ (τ_6.1 20) = 0 → (τ18.1 20) = (τ_6.1 20) := q16_1
            replace q16_2 : (τ_6.1 20) = 0 → (τ18.1 20) = (4 : Int) := q16_2
            replace ag : m_ag σ τ18 := ag_r ag hf_τ18 rfl rfl
            have w0_τ18 : τ18.1 0 = τ_6.1 0 := hf_τ18.1 0 (by decide)
            have w2_τ18 : τ18.1 2 = τ_6.1 2 := hf_τ18.1 2 (by decide)
            have w3_τ18 : τ18.1 3 = τ_6.1 3 := hf_τ18.1 3 (by decide)
            have w4_τ18 : τ18.1 4 = τ_6.1 4 := hf_τ18.1 4 (by decide)
            have w5_τ18 : τ18.1 5 = τ_6.1 5 := hf_τ18.1 5 (by decide)
            have w6_τ18 : τ18.1 6 = τ_6.1 6 := hf_τ18.1 6 (by decide)
            have w7_τ18 : τ18.1 7 = τ_6.1 7 := hf_τ18.1 7 (by decide)
            have w8_τ18 : τ18.1 8 = τ_6.1 8 := hf_τ18.1 8 (by decide)
            have w9_τ18 : τ18.1 9 = τ_6.1 9 := hf_τ18.1 9 (by decide)
            have w10_τ18 : τ18.1 10 = τ_6.1 10 := hf_τ18.1 10 (by decide)
            have w11_τ18 : τ18.1 11 = τ_6.1 11 := hf_τ18.1 11 (by decide)
            have w12_τ18 : τ18.1 12 = τ_6.1 12 := hf_τ18.1 12 (by decide)
            have w16_τ18 : τ18.1 16 = τ_6.1 16 := hf_τ18.1 16 (by decide)
            have w17_τ18 : τ18.1 17 = τ_6.1 17 := hf_τ18.1 17 (by decide)
            have w18_τ18 : τ18.1 18 = τ_6.1 18 := hf_τ18.1 18 (by decide)
            have w19_τ18 : τ18.1 19 = τ_6.1 19 := hf_τ18.1 19 (by decide)
            have g1_τ18 : τ18.2.1 1 = τ_6.2.1 1 := hf_τ18.2.1 1 (by decide)
            have g2_τ18 : τ18.2.1 2 = τ_6.2.1 2 := hf_τ18.2.1 2 (by decide)
            have g3_τ18 : τ18.2.1 3 = τ_6.2.1 3 := hf_τ18.2.1 3 (by decide)
            have g6_τ18 : τ18.2.1 6 = τ_6.2.1 6 := hf_τ18.2.1 6 (by decide)
            have g7_τ18 : τ18.2.1 7 = τ_6.2.1 7 := hf_τ18.2.1 7 (by decide)
            have g8_τ18 : τ18.2.1 8 = τ_6.2.1 8 := hf_τ18.2.1 8 (by decide)
            have g9_τ18 : τ18.2.1 9 = τ_6.2.1 9 := hf_τ18.2.1 9 (by decide)
            have g10_τ18 : τ18.2.1 10 = τ_6.2.1 10 := hf_τ18.2.1 10 (by decide)
            have g11_τ18 : τ18.2.1 11 = τ_6.2.1 11 := hf_τ18.2.1 11 (by decide)
            have g12_τ18 : τ18.2.1 12 = τ_6.2.1 12 := hf_τ18.2.1 12 (by decide)
            first | (have ca_τ18 := congr (congrArg ca g9_τ18) w3_τ18) | skip
            first | (have o6_τ18 := congrArg oc g6_τ18) | skip
            first | (have o7_τ18 := congrArg oc g7_τ18) | skip
            have W0 : τ18.1 0 = σ.1 0 := by first | exact w0_τ18.trans W0 | omega
            have W4 : τ18.1 4 = σ.1 4 := by first | exact w4_τ18.trans W4 | omega
            have W5 : τ18.1 5 = σ.1 5 := by first | exact w5_τ18.trans W5 | omega
            have W6 : τ18.1 6 = σ.1 6 := by first | exact w6_τ18.trans W6 | omega
            have W7 : τ18.1 7 = σ.1 7 := by first | exact w7_τ18.trans W7 | omega
            have W8 : τ18.1 8 = σ.1 8 := by first | exact w8_τ18.trans W8 | omega
            have W9 : τ18.1 9 = σ.1 9 := by first | exact w9_τ18.trans W9 | omega
            have G7 : τ18.2.1 7 = σ.2.1 7 := (g7_τ18).trans G7
            have Y20 : ca (τ18.2.1 12) ((τ18.1 3)) ≤ (τ18.1 4) := by rw [show (ca (τ18.2.1 12) ((τ18.1 3)) ≤ (τ18.1 4)) = (ca (τ_6.2.1 12) ((τ_6.1 3)) ≤ (τ_6.1 4)) from by rw [w3_τ18, w4_τ18, g12_τ18]]; exact Y20
            have Y1 : j_l2 (τ18.2.1 6) (τ18.1 3) := by rw [show (j_l2 (τ18.2.1 6) (τ18.1 3)) = (j_l2 (τ_6.2.1 6) (τ_6.1 3)) from by rw [w3_τ18, g6_τ18]]; exact Y1
            have SYt : oc (τ18.2.1 6) ≤ (τ18.1 3) := by rw [show (oc (τ18.2.1 6) ≤ (τ18.1 3)) = (oc (τ_6.2.1 6) ≤ (τ_6.1 3)) from by rw [w3_τ18, g6_τ18]]; exact SYt
            have AVt : (τ18.1 12) ≤ ca (τ18.2.1 9) (τ18.1 3) := by rw [show ((τ18.1 12) ≤ ca (τ18.2.1 9) (τ18.1 3)) = ((τ_6.1 12) ≤ ca (τ_6.2.1 9) (τ_6.1 3)) from by rw [w3_τ18, w12_τ18, g9_τ18]]; exact AVt
            have STt : j_l2 (τ18.2.1 6) (τ18.1 3) := by rw [show (j_l2 (τ18.2.1 6) (τ18.1 3)) = (j_l2 (τ_6.2.1 6) (τ_6.1 3)) from by rw [w3_τ18, g6_τ18]]; exact STt
            have NTB : n_tb (τ18.1 3) (τ18.2.1 1) (τ18.2.1 2) (τ18.2.1 3) (τ18.2.1 6) := by rw [show (n_tb (τ18.1 3) (τ18.2.1 1) (τ18.2.1 2) (τ18.2.1 3) (τ18.2.1 6)) = (n_tb (τ_6.1 3) (τ_6.2.1 1) (τ_6.2.1 2) (τ_6.2.1 3) (τ_6.2.1 6)) from by rw [w3_τ18, g1_τ18, g2_τ18, g3_τ18, g6_τ18]]; exact NTB
            have NNM : n_nm (τ18.1 3) (τ18.1 2) (τ18.2.1 2) (τ18.2.1 3) := by rw [show (n_nm (τ18.1 3) (τ18.1 2) (τ18.2.1 2) (τ18.2.1 3)) = (n_nm (τ_6.1 3) (τ_6.1 2) (τ_6.2.1 2) (τ_6.2.1 3)) from by rw [w2_τ18, w3_τ18, g2_τ18, g3_τ18]]; exact NNM
            have NTU : n_tu (τ18.1 3) (τ18.1 10) (τ18.1 11) (τ18.2.1 1) (τ18.2.1 2) (τ18.2.1 3) := by rw [show (n_tu (τ18.1 3) (τ18.1 10) (τ18.1 11) (τ18.2.1 1) (τ18.2.1 2) (τ18.2.1 3)) = (n_tu (τ_6.1 3) (τ_6.1 10) (τ_6.1 11) (τ_6.2.1 1) (τ_6.2.1 2) (τ_6.2.1 3)) from by rw [w3_τ18, w10_τ18, w11_τ18, g1_τ18, g2_τ18, g3_τ18]]; exact NTU
            have A1 : ∀ j, 0 ≤ τ18.2.1 1 j ∧ τ18.2.1 1 j ≤ 255 := fun j => hT.2 1 j
            have A2 : ∀ j, 0 ≤ τ18.2.1 2 j ∧ τ18.2.1 2 j ≤ 30000 := fun j => hT.2 2 j
            have A3 : ∀ j, 0 ≤ τ18.2.1 3 j ∧ τ18.2.1 3 j ≤ 60 := fun j => hT.2 3 j
            have A6 : ∀ j, (-1) ≤ τ18.2.1 6 j ∧ τ18.2.1 6 j ≤ 999 := fun j => hT.2 6 j
            have A7 : ∀ j, (-1) ≤ τ18.2.1 7 j ∧ τ18.2.1 7 j ≤ 1499 := fun j => hT.2 7 j
            have A8 : ∀ j, 0 ≤ τ18.2.1 8 j ∧ τ18.2.1 8 j ≤ 1 := fun j => hT.2 8 j
            have A9 : ∀ j, 0 ≤ τ18.2.1 9 j ∧ τ18.2.1 9 j ≤ 1 := fun j => hT.2 9 j
            have A10 : ∀ j, (-1) ≤ τ18.2.1 10 j ∧ τ18.2.1 10 j ≤ 999 := fun j => hT.2 10 j
            have A11 : ∀ j, (-1) ≤ τ18.2.1 11 j ∧ τ18.2.1 11 j ≤ 1499 := fun j => hT.2 11 j
            have A12 : ∀ j, 0 ≤ τ18.2.1 12 j ∧ τ18.2.1 12 j ≤ 1 := fun j => hT.2 12 j
            have v0 : 0 ≤ τ18.1 0 ∧ τ18.1 0 ≤ 60000 := hT.1 0
            have v2 : 0 ≤ τ18.1 2 ∧ τ18.1 2 ≤ 30000 := hT.1 2
            have v3 : 0 ≤ τ18.1 3 ∧ τ18.1 3 ≤ 1000 := hT.1 3
            have v4 : 0 ≤ τ18.1 4 ∧ τ18.1 4 ≤ 100 := hT.1 4
            have v5 : 0 ≤ τ18.1 5 ∧ τ18.1 5 ≤ 1500 := hT.1 5
            have v6 : 0 ≤ τ18.1 6 ∧ τ18.1 6 ≤ 30000 := hT.1 6
            have v7 : 0 ≤ τ18.1 7 ∧ τ18.1 7 ≤ 90000 := hT.1 7
            have v8 : 0 ≤ τ18.1 8 ∧ τ18.1 8 ≤ 20000 := hT.1 8
            have v9 : 0 ≤ τ18.1 9 ∧ τ18.1 9 ≤ 20000 := hT.1 9
            have v10 : (-1) ≤ τ18.1 10 ∧ τ18.1 10 ≤ 999 := hT.1 10
            have v11 : (-1) ≤ τ18.1 11 ∧ τ18.1 11 ≤ 999 := hT.1 11
            have v12 : 0 ≤ τ18.1 12 ∧ τ18.1 12 ≤ 1000 := hT.1 12
            have v16 : 0 ≤ τ18.1 16 ∧ τ18.1 16 ≤ 60000 := hT.1 16
            have v17 : 0 ≤ τ18.1 17 ∧ τ18.1 17 ≤ 60000 := hT.1 17
            have v18 : 0 ≤ τ18.1 18 ∧ τ18.1 18 ≤ 60000 := hT.1 18
            have v19 : (-1) ≤ τ18.1 19 ∧ τ18.1 19 ≤ 125 := hT.1 19
            have v20 : 0 ≤ τ18.1 20 ∧ τ18.1 20 ≤ 19 := hT.1 20
            have av3 : σ.1 3 ≤ τ18.1 3 := ag.1 3 (by decide)
            exact ⟨hT, (show oc (τ18.2.1 6) ≤ (τ18.1 3) from SYt), (show (τ18.1 12) ≤ ca (τ18.2.1 9) (τ18.1 3) from AVt), (show (τ18.1 16) ≤ (τ18.1 0) from by (first | omega | (simp only [st_s] <;> omega) | assumption | omega | fail)), (show ¬ (σ.1 20) = 0 → (τ18.1 20) = (σ.1 20) from by (first | omega | (simp only [st_s] <;> omega) | assumption | omega | fail)), (show j_l2 (τ18.2.1 6) (τ18.1 3) from Y1), (show ca (τ18.2.1 12) ((τ18.1 3)) ≤ (τ18.1 4) from Y20), (show (τ18.1 17) + (τ18.1 18) ≤ (τ18.1 0) from by (first | omega | (simp only [st_s] <;> omega) | assumption | omega | fail)), (show (σ.1 16) ≤ (τ18.1 16) from by (first | omega | (simp only [st_s] <;> omega) | assumption | omega | fail)), ag, (show n_rl σ τ18 from by (first | exact i6_13 | exact n_rl_r i6_13 hf_τ18 rfl rfl | exact n_rl_r i6_13 hf_τ23 rfl rfl | fail)), (show n_rc σ τ18 from by (first | exact i6_14 | exact n_rc_r i6_14 hf_τ18 rfl rfl | exact n_rc_r i6_14 hf_τ23 rfl rfl | fail)), (show n_fo σ τ18 from by (first | exact i6_15 | exact n_fo_t i6_15 (n_fo_h hf_τ18 rfl rfl) (by omega) | exact n_fo_t i6_15 (n_fo_h hf_τ23 rfl rfl) (by omega) | fail)), (show n_tb (τ18.1 3) (τ18.2.1 1) (τ18.2.1 2) (τ18.2.1 3) (τ18.2.1 6) from NTB), (show n_nm (τ18.1 3) (τ18.1 2) (τ18.2.1 2) (τ18.2.1 3) from NNM), (show n_tu (τ18.1 3) (τ18.1 10) (τ18.1 11) (τ18.2.1 1) (τ18.2.1 2) (τ18.2.1 3) from NTU)⟩
  refine ⟨_, K_X13_next hT (show (σ.1 16) ≤ (σ.1 0) from by (first | omega | (simp only [st_s] <;> omega) | assumption | omega | fail)), ?_⟩
  intro τ3 hn_τ3 hf_τ3 hq
  obtain ⟨hT, q1_1, q1_2, q1_3, q1_4, q1_5⟩ := hq
  replace q1_1 : (τ3.1 16) ≤ (τ3.1 0) := q1_1
  replace q1_2 : (τ3.1 17) + (τ3.1 18) ≤ (τ3.1 0) := q1_2
  replace q1_3 : (σ.1 16) ≤ (τ3.1 16) := q1_3
  replace q1_4 : ¬ (σ.1 20) = 0 → (τ3.1 20) = (σ.1 20) := q1_4
  replace q1_5 : (τ3.1 20) = 0 → ¬ (τ3.1 19) = 0 → (σ.1 16) < (τ3.1 16) ∧ 0 < (τ3.1 18) := q1_5
  replace ag : m_ag σ τ3 := ag_r ag hf_τ3 rfl rfl
  have w0_τ3 : τ3.1 0 = σ.1 0 := hf_τ3.1 0 (by decide)
  have w2_τ3 : τ3.1 2 = σ.1 2 := hf_τ3.1 2 (by decide)
  have w3_τ3 : τ3.1 3 = σ.1 3 := hf_τ3.1 3 (by decide)
  have w4_τ3 : τ3.1 4 = σ.1 4 := hf_τ3.1 4 (by decide)
  have w5_τ3 : τ3.1 5 = σ.1 5 := hf_τ3.1 5 (by decide)
  have w6_τ3 : τ3.1 6 = σ.1 6 := hf_τ3.1 6 (by decide)
  have w7_τ3 : τ3.1 7 = σ.1 7 := hf_τ3.1 7 (by decide)
  have w8_τ3 : τ3.1 8 = σ.1 8 := hf_τ3.1 8 (by decide)
  have w9_τ3 : τ3.1 9 = σ.1 9 := hf_τ3.1 9 (by decide)
  have w10_τ3 : τ3.1 10 = σ.1 10 := hf_τ3.1 10 (by decide)
  have w11_τ3 : τ3.1 11 = σ.1 11 := hf_τ3.1 11 (by decide)
  have w12_τ3 : τ3.1 12 = σ.1 12 := hf_τ3.1 12 (by decide)
  have g1_τ3 : τ3.2.1 1 = σ.2.1 1 := hf_τ3.2.1 1 (by decide)
  have g2_τ3 : τ3.2.1 2 = σ.2.1 2 := hf_τ3.2.1 2 (by decide)
  have g3_τ3 : τ3.2.1 3 = σ.2.1 3 := hf_τ3.2.1 3 (by decide)
  have g6_τ3 : τ3.2.1 6 = σ.2.1 6 := hf_τ3.2.1 6 (by decide)
  have g7_τ3 : τ3.2.1 7 = σ.2.1 7 := hf_τ3.2.1 7 (by decide)
  have g8_τ3 : τ3.2.1 8 = σ.2.1 8 := hf_τ3.2.1 8 (by decide)
  have g9_τ3 : τ3.2.1 9 = σ.2.1 9 := hf_τ3.2.1 9 (by decide)
  have g10_τ3 : τ3.2.1 10 = σ.2.1 10 := hf_τ3.2.1 10 (by decide)
  have g11_τ3 : τ3.2.1 11 = σ.2.1 11 := hf_τ3.2.1 11 (by decide)
  have g12_τ3 : τ3.2.1 12 = σ.2.1 12 := hf_τ3.2.1 12 (by decide)
  first | (have ca_τ3 := congr (congrArg ca g9_τ3) w3_τ3) | skip
  first | (have o6_τ3 := congrArg oc g6_τ3) | skip
  first | (have o7_τ3 := congrArg oc g7_τ3) | skip
  have W0 : τ3.1 0 = σ.1 0 := by first | exact w0_τ3.trans W0 | omega
  have W4 : τ3.1 4 = σ.1 4 := by first | exact w4_τ3.trans W4 | omega
  have W5 : τ3.1 5 = σ.1 5 := by first | exact w5_τ3.trans W5 | omega
  have W6 : τ3.1 6 = σ.1 6 := by first | exact w6_τ3.trans W6 | omega
  have W7 : τ3.1 7 = σ.1 7 := by first | exact w7_τ3.trans W7 | omega
  have W8 : τ3.1 8 = σ.1 8 := by first | exact w8_τ3.trans W8 | omega
  have W9 : τ3.1 9 = σ.1 9 := by first | exact w9_τ3.trans W9 | omega
  have G7 : τ3.2.1 7 = σ.2.1 7 := (g7_τ3).trans G7
  have Y20 : ca (τ3.2.1 12) ((τ3.1 3)) ≤ (τ3.1 4) := by rw [show (ca (τ3.2.1 12) ((τ3.1 3)) ≤ (τ3.1 4)) = (ca (σ.2.1 12) ((σ.1 3)) ≤ (σ.1 4)) from by rw [w3_τ3, w4_τ3, g12_τ3]]; exact Y20
  have Y1 : j_l2 (τ3.2.1 6) (τ3.1 3) := by rw [show (j_l2 (τ3.2.1 6) (τ3.1 3)) = (j_l2 (σ.2.1 6) (σ.1 3)) from by rw [w3_τ3, g6_τ3]]; exact Y1
  have SYt : oc (τ3.2.1 6) ≤ (τ3.1 3) := by rw [show (oc (τ3.2.1 6) ≤ (τ3.1 3)) = (oc (σ.2.1 6) ≤ (σ.1 3)) from by rw [w3_τ3, g6_τ3]]; exact SYt
  have AVt : (τ3.1 12) ≤ ca (τ3.2.1 9) (τ3.1 3) := by rw [show ((τ3.1 12) ≤ ca (τ3.2.1 9) (τ3.1 3)) = ((σ.1 12) ≤ ca (σ.2.1 9) (σ.1 3)) from by rw [w3_τ3, w12_τ3, g9_τ3]]; exact AVt
  have STt : j_l2 (τ3.2.1 6) (τ3.1 3) := by rw [show (j_l2 (τ3.2.1 6) (τ3.1 3)) = (j_l2 (σ.2.1 6) (σ.1 3)) from by rw [w3_τ3, g6_τ3]]; exact STt
  have NTB : n_tb (τ3.1 3) (τ3.2.1 1) (τ3.2.1 2) (τ3.2.1 3) (τ3.2.1 6) := by rw [show (n_tb (τ3.1 3) (τ3.2.1 1) (τ3.2.1 2) (τ3.2.1 3) (τ3.2.1 6)) = (n_tb (σ.1 3) (σ.2.1 1) (σ.2.1 2) (σ.2.1 3) (σ.2.1 6)) from by rw [w3_τ3, g1_τ3, g2_τ3, g3_τ3, g6_τ3]]; exact NTB
  have NNM : n_nm (τ3.1 3) (τ3.1 2) (τ3.2.1 2) (τ3.2.1 3) := by rw [show (n_nm (τ3.1 3) (τ3.1 2) (τ3.2.1 2) (τ3.2.1 3)) = (n_nm (σ.1 3) (σ.1 2) (σ.2.1 2) (σ.2.1 3)) from by rw [w2_τ3, w3_τ3, g2_τ3, g3_τ3]]; exact NNM
  have NTU : n_tu (τ3.1 3) (τ3.1 10) (τ3.1 11) (τ3.2.1 1) (τ3.2.1 2) (τ3.2.1 3) := by rw [show (n_tu (τ3.1 3) (τ3.1 10) (τ3.1 11) (τ3.2.1 1) (τ3.2.1 2) (τ3.2.1 3)) = (n_tu (σ.1 3) (σ.1 10) (σ.1 11) (σ.2.1 1) (σ.2.1 2) (σ.2.1 3)) from by rw [w3_τ3, w10_τ3, w11_τ3, g1_τ3, g2_τ3, g3_τ3]]; exact NTU
  have A1 : ∀ j, 0 ≤ τ3.2.1 1 j ∧ τ3.2.1 1 j ≤ 255 := fun j => hT.2 1 j
  have A2 : ∀ j, 0 ≤ τ3.2.1 2 j ∧ τ3.2.1 2 j ≤ 30000 := fun j => hT.2 2 j
  have A3 : ∀ j, 0 ≤ τ3.2.1 3 j ∧ τ3.2.1 3 j ≤ 60 := fun j => hT.2 3 j
  have A6 : ∀ j, (-1) ≤ τ3.2.1 6 j ∧ τ3.2.1 6 j ≤ 999 := fun j => hT.2 6 j
  have A7 : ∀ j, (-1) ≤ τ3.2.1 7 j ∧ τ3.2.1 7 j ≤ 1499 := fun j => hT.2 7 j
  have A8 : ∀ j, 0 ≤ τ3.2.1 8 j ∧ τ3.2.1 8 j ≤ 1 := fun j => hT.2 8 j
  have A9 : ∀ j, 0 ≤ τ3.2.1 9 j ∧ τ3.2.1 9 j ≤ 1 := fun j => hT.2 9 j
  have A10 : ∀ j, (-1) ≤ τ3.2.1 10 j ∧ τ3.2.1 10 j ≤ 999 := fun j => hT.2 10 j
  have A11 : ∀ j, (-1) ≤ τ3.2.1 11 j ∧ τ3.2.1 11 j ≤ 1499 := fun j => hT.2 11 j
  have A12 : ∀ j, 0 ≤ τ3.2.1 12 j ∧ τ3.2.1 12 j ≤ 1 := fun j => hT.2 12 j
  have v0 : 0 ≤ τ3.1 0 ∧ τ3.1 0 ≤ 60000 := hT.1 0
  have v2 : 0 ≤ τ3.1 2 ∧ τ3.1 2 ≤ 30000 := hT.1 2
  have v3 : 0 ≤ τ3.1 3 ∧ τ3.1 3 ≤ 1000 := hT.1 3
  have v4 : 0 ≤ τ3.1 4 ∧ τ3.1 4 ≤ 100 := hT.1 4
  have v5 : 0 ≤ τ3.1 5 ∧ τ3.1 5 ≤ 1500 := hT.1 5
  have v6 : 0 ≤ τ3.1 6 ∧ τ3.1 6 ≤ 30000 := hT.1 6
  have v7 : 0 ≤ τ3.1 7 ∧ τ3.1 7 ≤ 90000 := hT.1 7
  have v8 : 0 ≤ τ3.1 8 ∧ τ3.1 8 ≤ 20000 := hT.1 8
  have v9 : 0 ≤ τ3.1 9 ∧ τ3.1 9 ≤ 20000 := hT.1 9
  have v10 : (-1) ≤ τ3.1 10 ∧ τ3.1 10 ≤ 999 := hT.1 10
  have v11 : (-1) ≤ τ3.1 11 ∧ τ3.1 11 ≤ 999 := hT.1 11
  have v12 : 0 ≤ τ3.1 12 ∧ τ3.1 12 ≤ 1000 := hT.1 12
  have v16 : 0 ≤ τ3.1 16 ∧ τ3.1 16 ≤ 60000 := hT.1 16
  have v17 : 0 ≤ τ3.1 17 ∧ τ3.1 17 ≤ 60000 := hT.1 17
  have v18 : 0 ≤ τ3.1 18 ∧ τ3.1 18 ≤ 60000 := hT.1 18
  have v19 : (-1) ≤ τ3.1 19 ∧ τ3.1 19 ≤ 125 := hT.1 19
  have v20 : 0 ≤ τ3.1 20 ∧ τ3.1 20 ≤ 19 := hT.1 20
  have av3 : σ.1 3 ≤ τ3.1 3 := ag.1 3 (by decide)
  exact l_6 ((3 * ((τ3.1 0) - (τ3.1 16)) + z_0 ((τ3.1 20)) + 1 - z_0 ((τ3.1 19)) : Int).toNat + 1) _ _ (show (3 * ((τ3.1 0) - (τ3.1 16)) + z_0 ((τ3.1 20)) + 1 - z_0 ((τ3.1 19)) : Int) < (((3 * ((τ3.1 0) - (τ3.1 16)) + z_0 ((τ3.1 20)) + 1 - z_0 ((τ3.1 19)) : Int).toNat + 1 : Nat) : Int) from by (have zz0 := z_e ((τ3.1 20)); have zz1 := z_e ((τ3.1 19)); (first | omega | (simp only [st_s] <;> omega) | assumption | omega | fail))) hT ag (show τ3.1 0 = σ.1 0 from by first | exact W0 | omega) (show τ3.1 4 = σ.1 4 from by first | exact W4 | omega) (show τ3.1 5 = σ.1 5 from by first | exact W5 | omega) (show τ3.1 6 = σ.1 6 from by first | exact W6 | omega) (show τ3.1 7 = σ.1 7 from by first | exact W7 | omega) (show τ3.1 8 = σ.1 8 from by first | exact W8 | omega) (show τ3.1 9 = σ.1 9 from by first | exact W9 | omega) G7 (show (τ3.1 16) ≤ (τ3.1 0) from by (first | omega | (simp only [st_s] <;> omega) | assumption | omega | fail)) (show (τ3.1 17) + (τ3.1 18) ≤ (τ3.1 0) from by (first | omega | (simp only [st_s] <;> omega) | assumption | omega | fail)) (show j_l2 (τ3.2.1 6) (τ3.1 3) from Y1) (show oc (τ3.2.1 6) ≤ (τ3.1 3) from SYt) (show (τ3.1 12) ≤ ca (τ3.2.1 9) (τ3.1 3) from AVt) (show ca (τ3.2.1 12) ((τ3.1 3)) ≤ (τ3.1 4) from Y20) (show oc (τ3.2.1 7) < 4096 from by (first | omega | (simp only [st_s] <;> omega) | assumption | omega | fail)) (show 0 ≤ 0 from by (first | omega | (simp only [st_s] <;> omega) | assumption | omega | fail)) (show (τ3.1 20) = 0 → (τ3.1 19) = 1 → 0 ≤ (τ3.1 16) from by (first | omega | (simp only [st_s] <;> omega) | assumption | omega | fail)) (show 0 ≤ (τ3.1 16) + 1 from by (first | omega | (simp only [st_s] <;> omega) | assumption | omega | fail)) (show ¬ (σ.1 20) = 0 → (τ3.1 20) = (σ.1 20) from by (first | omega | (simp only [st_s] <;> omega) | assumption | omega | fail)) (show (σ.1 16) ≤ (τ3.1 16) from by (first | omega | (simp only [st_s] <;> omega) | assumption | omega | fail)) (show n_rl σ τ3 from by (first | exact rl9 | exact n_rl_r rl9 hf_τ14 rfl rfl | exact n_rl_h hf_τ3 rfl rfl | fail)) (show n_rc σ τ3 from by (first | exact rc9 | exact n_rc_r rc9 hf_τ14 rfl rfl | exact n_rc_h hf_τ3 rfl rfl | fail)) (show n_fo σ τ3 from by (first | exact fo9 | exact n_fo_t fo9 (n_fo_h hf_τ14 rfl rfl) (by omega) | exact n_fo_h hf_τ3 rfl rfl | fail)) (show n_tb (τ3.1 3) (τ3.2.1 1) (τ3.2.1 2) (τ3.2.1 3) (τ3.2.1 6) from NTB) (show n_nm (τ3.1 3) (τ3.1 2) (τ3.2.1 2) (τ3.2.1 3) from NNM) (show n_tu (τ3.1 3) (τ3.1 10) (τ3.1 11) (τ3.2.1 1) (τ3.2.1 2) (τ3.2.1 3) from NTU)
set_option maxHeartbeats 1000000 in
theorem K3_X13_readLabel {σ : S0} (hT : m_T σ) (p1 : (σ.1 17) + (σ.1 18) ≤ (σ.1 0)) (p2 : oc (σ.2.1 6) ≤ (σ.1 3)) (p3 : oc (σ.2.1 7) ≤ (σ.1 5)) (p4 : J_pa (σ.2.1 21) (σ.2.1 22)) : W_X13_readLabel σ (fun (τ : S0) => (m_T τ) ∧ ((τ.1 20) = 0 → (τ.1 22) = (σ.1 5) ∧ τ.2.1 15 (τ.1 22) = 0 ∧ τ.2.1 19 (τ.1 22) = 0 ∧ τ.2.1 22 (τ.1 22) = 0 ∧ τ.2.1 26 (τ.1 22) = 0 ∧ (σ.1 5) < 1500) ∧ ((τ.1 20) = 0 → τ.2.1 14 (τ.1 22) = (σ.1 6) ∧ τ.2.1 18 (τ.1 22) = (σ.1 7) ∧ τ.2.1 21 (τ.1 22) = (σ.1 8) ∧ τ.2.1 25 (τ.1 22) = (σ.1 9)) ∧ (oc (τ.2.1 7) ≤ (σ.1 5) + 1) ∧ (¬ (σ.1 20) = 0 → (τ.1 20) = (σ.1 20)) ∧ (J_pa (τ.2.1 21) (τ.2.1 22)) ∧ (m_ag σ τ) ∧ (n_rc σ τ)) := by
  have A1 : ∀ j, 0 ≤ σ.2.1 1 j ∧ σ.2.1 1 j ≤ 255 := fun j => hT.2 1 j
  have A6 : ∀ j, (-1) ≤ σ.2.1 6 j ∧ σ.2.1 6 j ≤ 999 := fun j => hT.2 6 j
  have A7 : ∀ j, (-1) ≤ σ.2.1 7 j ∧ σ.2.1 7 j ≤ 1499 := fun j => hT.2 7 j
  have A14 : ∀ j, 0 ≤ σ.2.1 14 j ∧ σ.2.1 14 j ≤ 30000 := fun j => hT.2 14 j
  have A15 : ∀ j, 0 ≤ σ.2.1 15 j ∧ σ.2.1 15 j ≤ 300 := fun j => hT.2 15 j
  have A18 : ∀ j, 0 ≤ σ.2.1 18 j ∧ σ.2.1 18 j ≤ 90000 := fun j => hT.2 18 j
  have A19 : ∀ j, 0 ≤ σ.2.1 19 j ∧ σ.2.1 19 j ≤ 60 := fun j => hT.2 19 j
  have A21 : ∀ j, 0 ≤ σ.2.1 21 j ∧ σ.2.1 21 j ≤ 20000 := fun j => hT.2 21 j
  have A22 : ∀ j, 0 ≤ σ.2.1 22 j ∧ σ.2.1 22 j ≤ 20000 := fun j => hT.2 22 j
  have A25 : ∀ j, 0 ≤ σ.2.1 25 j ∧ σ.2.1 25 j ≤ 20000 := fun j => hT.2 25 j
  have A26 : ∀ j, 0 ≤ σ.2.1 26 j ∧ σ.2.1 26 j ≤ 20000 := fun j => hT.2 26 j
  have v0 : 0 ≤ σ.1 0 ∧ σ.1 0 ≤ 60000 := hT.1 0
  have v2 : 0 ≤ σ.1 2 ∧ σ.1 2 ≤ 30000 := hT.1 2
  have v3 : 0 ≤ σ.1 3 ∧ σ.1 3 ≤ 1000 := hT.1 3
  have v5 : 0 ≤ σ.1 5 ∧ σ.1 5 ≤ 1500 := hT.1 5
  have v6 : 0 ≤ σ.1 6 ∧ σ.1 6 ≤ 30000 := hT.1 6
  have v7 : 0 ≤ σ.1 7 ∧ σ.1 7 ≤ 90000 := hT.1 7
  have v8 : 0 ≤ σ.1 8 ∧ σ.1 8 ≤ 20000 := hT.1 8
  have v9 : 0 ≤ σ.1 9 ∧ σ.1 9 ≤ 20000 := hT.1 9
  have v17 : 0 ≤ σ.1 17 ∧ σ.1 17 ≤ 60000 := hT.1 17
  have v18 : 0 ≤ σ.1 18 ∧ σ.1 18 ≤ 60000 := hT.1 18
  have v20 : 0 ≤ σ.1 20 ∧ σ.1 20 ≤ 19 := hT.1 20
  have v22 : 0 ≤ σ.1 22 ∧ σ.1 22 ≤ 1499 := hT.1 22
  have a14_22 : 0 ≤ σ.2.1 14 (σ.1 22) ∧ σ.2.1 14 (σ.1 22) ≤ 30000 := hT.2 14 _
  have a15_22 : 0 ≤ σ.2.1 15 (σ.1 22) ∧ σ.2.1 15 (σ.1 22) ≤ 300 := hT.2 15 _
  have a18_22 : 0 ≤ σ.2.1 18 (σ.1 22) ∧ σ.2.1 18 (σ.1 22) ≤ 90000 := hT.2 18 _
  have a19_22 : 0 ≤ σ.2.1 19 (σ.1 22) ∧ σ.2.1 19 (σ.1 22) ≤ 60 := hT.2 19 _
  have a21_22 : 0 ≤ σ.2.1 21 (σ.1 22) ∧ σ.2.1 21 (σ.1 22) ≤ 20000 := hT.2 21 _
  have a22_22 : 0 ≤ σ.2.1 22 (σ.1 22) ∧ σ.2.1 22 (σ.1 22) ≤ 20000 := hT.2 22 _
  have a25_22 : 0 ≤ σ.2.1 25 (σ.1 22) ∧ σ.2.1 25 (σ.1 22) ≤ 20000 := hT.2 25 _
  have a26_22 : 0 ≤ σ.2.1 26 (σ.1 22) ∧ σ.2.1 26 (σ.1 22) ≤ 20000 := hT.2 26 _
  have W0 : σ.1 0 = σ.1 0 := rfl
  have W3 : σ.1 3 = σ.1 3 := rfl
  have W5 : σ.1 5 = σ.1 5 := rfl
  have W6 : σ.1 6 = σ.1 6 := rfl
  have W7 : σ.1 7 = σ.1 7 := rfl
  have W8 : σ.1 8 = σ.1 8 := rfl
  have W9 : σ.1 9 = σ.1 9 := rfl
  have W17 : σ.1 17 = σ.1 17 := rfl
  have W18 : σ.1 18 = σ.1 18 := rfl
  have G6 : σ.2.1 6 = σ.2.1 6 := rfl
  have ag : m_ag σ σ := ag_0 σ
  intro P34 P42 P108 P263 h34 h42 h108 h263
  have PA : J_pa (σ.2.1 21) (σ.2.1 22) := p4
  have SYt : oc (σ.2.1 6) ≤ (σ.1 3) := p2
  have LAt : oc (σ.2.1 7) ≤ (σ.1 5) := p3
  have LAt_0 := LAt
  have PA_0 := PA
  have SYt_0 := SYt
  have l_263 : ∀ (m_263 : Nat) (u1_263 : Int) (τ_263 : S0), 25 - u1_263 < (m_263 : Int) → (m_T τ_263) → (m_ag σ τ_263) → (τ_263.1 0 = σ.1 0) → (τ_263.1 3 = σ.1 3) → (τ_263.1 5 = σ.1 5) → (τ_263.1 6 = σ.1 6) → (τ_263.1 7 = σ.1 7) → (τ_263.1 8 = σ.1 8) → (τ_263.1 9 = σ.1 9) → (τ_263.1 17 = σ.1 17) → (τ_263.1 18 = σ.1 18) → (τ_263.2.1 6 = σ.2.1 6) → (0 ≤ u1_263) → ((τ_263.1 20) = (σ.1 20)) → ((τ_263.1 22) = (σ.1 5)) → ((σ.1 5) < 1500) → (oc (τ_263.2.1 7) ≤ (σ.1 5) + 1) → (u1_263 ≤ 24) → (τ_263.2.1 14 (τ_263.1 22) = (σ.1 6)) → (τ_263.2.1 15 (τ_263.1 22) = 0) → (τ_263.2.1 18 (τ_263.1 22) = (σ.1 7)) → (τ_263.2.1 19 (τ_263.1 22) = 0) → (τ_263.2.1 21 (τ_263.1 22) = (σ.1 8)) → (τ_263.2.1 22 (τ_263.1 22) = 0) → (τ_263.2.1 25 (τ_263.1 22) = (σ.1 9)) → (τ_263.2.1 26 (τ_263.1 22) = 0) → (J_pa (τ_263.2.1 21) (τ_263.2.1 22)) → (n_rc σ τ_263) → P263 u1_263 τ_263 := by
    intro m_263
    induction m_263 with
    | zero =>
      intro u1_263 τ_263 hm hT ag W0 W3 W5 W6 W7 W8 W9 W17 W18 G6 i263_1 i263_2 i263_3 i263_4 i263_5 i263_6 i263_7 i263_8 i263_9 i263_10 i263_11 i263_12 i263_13 i263_14 i263_15 i263_16
      have A1 : ∀ j, 0 ≤ τ_263.2.1 1 j ∧ τ_263.2.1 1 j ≤ 255 := fun j => hT.2 1 j
      have A6 : ∀ j, (-1) ≤ τ_263.2.1 6 j ∧ τ_263.2.1 6 j ≤ 999 := fun j => hT.2 6 j
      have A7 : ∀ j, (-1) ≤ τ_263.2.1 7 j ∧ τ_263.2.1 7 j ≤ 1499 := fun j => hT.2 7 j
      have A14 : ∀ j, 0 ≤ τ_263.2.1 14 j ∧ τ_263.2.1 14 j ≤ 30000 := fun j => hT.2 14 j
      have A15 : ∀ j, 0 ≤ τ_263.2.1 15 j ∧ τ_263.2.1 15 j ≤ 300 := fun j => hT.2 15 j
      have A18 : ∀ j, 0 ≤ τ_263.2.1 18 j ∧ τ_263.2.1 18 j ≤ 90000 := fun j => hT.2 18 j
      have A19 : ∀ j, 0 ≤ τ_263.2.1 19 j ∧ τ_263.2.1 19 j ≤ 60 := fun j => hT.2 19 j
      have A21 : ∀ j, 0 ≤ τ_263.2.1 21 j ∧ τ_263.2.1 21 j ≤ 20000 := fun j => hT.2 21 j
      have A22 : ∀ j, 0 ≤ τ_263.2.1 22 j ∧ τ_263.2.1 22 j ≤ 20000 := fun j => hT.2 22 j
      have A25 : ∀ j, 0 ≤ τ_263.2.1 25 j ∧ τ_263.2.1 25 j ≤ 20000 := fun j => hT.2 25 j
      have A26 : ∀ j, 0 ≤ τ_263.2.1 26 j ∧ τ_263.2.1 26 j ≤ 20000 := fun j => hT.2 26 j
      have v0 : 0 ≤ τ_263.1 0 ∧ τ_263.1 0 ≤ 60000 := hT.1 0
      have v2 : 0 ≤ τ_263.1 2 ∧ τ_263.1 2 ≤ 30000 := hT.1 2
      have v3 : 0 ≤ τ_263.1 3 ∧ τ_263.1 3 ≤ 1000 := hT.1 3
      have v5 : 0 ≤ τ_263.1 5 ∧ τ_263.1 5 ≤ 1500 := hT.1 5
      have v6 : 0 ≤ τ_263.1 6 ∧ τ_263.1 6 ≤ 30000 := hT.1 6
      have v7 : 0 ≤ τ_263.1 7 ∧ τ_263.1 7 ≤ 90000 := hT.1 7
      have v8 : 0 ≤ τ_263.1 8 ∧ τ_263.1 8 ≤ 20000 := hT.1 8
      have v9 : 0 ≤ τ_263.1 9 ∧ τ_263.1 9 ≤ 20000 := hT.1 9
      have v17 : 0 ≤ τ_263.1 17 ∧ τ_263.1 17 ≤ 60000 := hT.1 17
      have v18 : 0 ≤ τ_263.1 18 ∧ τ_263.1 18 ≤ 60000 := hT.1 18
      have v20 : 0 ≤ τ_263.1 20 ∧ τ_263.1 20 ≤ 19 := hT.1 20
      have v22 : 0 ≤ τ_263.1 22 ∧ τ_263.1 22 ≤ 1499 := hT.1 22
      have a14_22 : 0 ≤ τ_263.2.1 14 (τ_263.1 22) ∧ τ_263.2.1 14 (τ_263.1 22) ≤ 30000 := hT.2 14 _
      have a15_22 : 0 ≤ τ_263.2.1 15 (τ_263.1 22) ∧ τ_263.2.1 15 (τ_263.1 22) ≤ 300 := hT.2 15 _
      have a18_22 : 0 ≤ τ_263.2.1 18 (τ_263.1 22) ∧ τ_263.2.1 18 (τ_263.1 22) ≤ 90000 := hT.2 18 _
      have a19_22 : 0 ≤ τ_263.2.1 19 (τ_263.1 22) ∧ τ_263.2.1 19 (τ_263.1 22) ≤ 60 := hT.2 19 _
      have a21_22 : 0 ≤ τ_263.2.1 21 (τ_263.1 22) ∧ τ_263.2.1 21 (τ_263.1 22) ≤ 20000 := hT.2 21 _
      have a22_22 : 0 ≤ τ_263.2.1 22 (τ_263.1 22) ∧ τ_263.2.1 22 (τ_263.1 22) ≤ 20000 := hT.2 22 _
      have a25_22 : 0 ≤ τ_263.2.1 25 (τ_263.1 22) ∧ τ_263.2.1 25 (τ_263.1 22) ≤ 20000 := hT.2 25 _
      have a26_22 : 0 ≤ τ_263.2.1 26 (τ_263.1 22) ∧ τ_263.2.1 26 (τ_263.1 22) ≤ 20000 := hT.2 26 _
      exfalso; (first | omega | (simp only [st_s] <;> omega) | assumption | omega | fail)
    | succ m_263 ih_263 =>
      intro u1_263 τ_263 hm_263 hT ag W0 W3 W5 W6 W7 W8 W9 W17 W18 G6 i263_1 i263_2 i263_3 i263_4 i263_5 i263_6 i263_7 i263_8 i263_9 i263_10 i263_11 i263_12 i263_13 i263_14 i263_15 i263_16
      have A1 : ∀ j, 0 ≤ τ_263.2.1 1 j ∧ τ_263.2.1 1 j ≤ 255 := fun j => hT.2 1 j
      have A6 : ∀ j, (-1) ≤ τ_263.2.1 6 j ∧ τ_263.2.1 6 j ≤ 999 := fun j => hT.2 6 j
      have A7 : ∀ j, (-1) ≤ τ_263.2.1 7 j ∧ τ_263.2.1 7 j ≤ 1499 := fun j => hT.2 7 j
      have A14 : ∀ j, 0 ≤ τ_263.2.1 14 j ∧ τ_263.2.1 14 j ≤ 30000 := fun j => hT.2 14 j
      have A15 : ∀ j, 0 ≤ τ_263.2.1 15 j ∧ τ_263.2.1 15 j ≤ 300 := fun j => hT.2 15 j
      have A18 : ∀ j, 0 ≤ τ_263.2.1 18 j ∧ τ_263.2.1 18 j ≤ 90000 := fun j => hT.2 18 j
      have A19 : ∀ j, 0 ≤ τ_263.2.1 19 j ∧ τ_263.2.1 19 j ≤ 60 := fun j => hT.2 19 j
      have A21 : ∀ j, 0 ≤ τ_263.2.1 21 j ∧ τ_263.2.1 21 j ≤ 20000 := fun j => hT.2 21 j
      have A22 : ∀ j, 0 ≤ τ_263.2.1 22 j ∧ τ_263.2.1 22 j ≤ 20000 := fun j => hT.2 22 j
      have A25 : ∀ j, 0 ≤ τ_263.2.1 25 j ∧ τ_263.2.1 25 j ≤ 20000 := fun j => hT.2 25 j
      have A26 : ∀ j, 0 ≤ τ_263.2.1 26 j ∧ τ_263.2.1 26 j ≤ 20000 := fun j => hT.2 26 j
      have v0 : 0 ≤ τ_263.1 0 ∧ τ_263.1 0 ≤ 60000 := hT.1 0
      have v2 : 0 ≤ τ_263.1 2 ∧ τ_263.1 2 ≤ 30000 := hT.1 2
      have v3 : 0 ≤ τ_263.1 3 ∧ τ_263.1 3 ≤ 1000 := hT.1 3
      have v5 : 0 ≤ τ_263.1 5 ∧ τ_263.1 5 ≤ 1500 := hT.1 5
      have v6 : 0 ≤ τ_263.1 6 ∧ τ_263.1 6 ≤ 30000 := hT.1 6
      have v7 : 0 ≤ τ_263.1 7 ∧ τ_263.1 7 ≤ 90000 := hT.1 7
      have v8 : 0 ≤ τ_263.1 8 ∧ τ_263.1 8 ≤ 20000 := hT.1 8
      have v9 : 0 ≤ τ_263.1 9 ∧ τ_263.1 9 ≤ 20000 := hT.1 9
      have v17 : 0 ≤ τ_263.1 17 ∧ τ_263.1 17 ≤ 60000 := hT.1 17
      have v18 : 0 ≤ τ_263.1 18 ∧ τ_263.1 18 ≤ 60000 := hT.1 18
      have v20 : 0 ≤ τ_263.1 20 ∧ τ_263.1 20 ≤ 19 := hT.1 20
      have v22 : 0 ≤ τ_263.1 22 ∧ τ_263.1 22 ≤ 1499 := hT.1 22
      have a14_22 : 0 ≤ τ_263.2.1 14 (τ_263.1 22) ∧ τ_263.2.1 14 (τ_263.1 22) ≤ 30000 := hT.2 14 _
      have a15_22 : 0 ≤ τ_263.2.1 15 (τ_263.1 22) ∧ τ_263.2.1 15 (τ_263.1 22) ≤ 300 := hT.2 15 _
      have a18_22 : 0 ≤ τ_263.2.1 18 (τ_263.1 22) ∧ τ_263.2.1 18 (τ_263.1 22) ≤ 90000 := hT.2 18 _
      have a19_22 : 0 ≤ τ_263.2.1 19 (τ_263.1 22) ∧ τ_263.2.1 19 (τ_263.1 22) ≤ 60 := hT.2 19 _
      have a21_22 : 0 ≤ τ_263.2.1 21 (τ_263.1 22) ∧ τ_263.2.1 21 (τ_263.1 22) ≤ 20000 := hT.2 21 _
      have a22_22 : 0 ≤ τ_263.2.1 22 (τ_263.1 22) ∧ τ_263.2.1 22 (τ_263.1 22) ≤ 20000 := hT.2 22 _
      have a25_22 : 0 ≤ τ_263.2.1 25 (τ_263.1 22) ∧ τ_263.2.1 25 (τ_263.1 22) ≤ 20000 := hT.2 25 _
      have a26_22 : 0 ≤ τ_263.2.1 26 (τ_263.1 22) ∧ τ_263.2.1 26 (τ_263.1 22) ≤ 20000 := hT.2 26 _
      have o6_τ_263 := congrArg oc G6
      have PA : J_pa (τ_263.2.1 21) (τ_263.2.1 22) := i263_15
      have SYt : oc (τ_263.2.1 6) ≤ (τ_263.1 3) := by rw [show (oc (τ_263.2.1 6) ≤ (τ_263.1 3)) = (oc (σ.2.1 6) ≤ (σ.1 3)) from by rw [W3, G6]]; exact SYt_0
      refine h263 u1_263 τ_263 ?_
      refine ⟨fun c38 => ?_, fun c38 => ?_⟩
      ·
        exact ⟨hT, (show (τ_263.1 20) = 0 → (τ_263.1 22) = (σ.1 5) ∧ τ_263.2.1 15 (τ_263.1 22) = 0 ∧ τ_263.2.1 19 (τ_263.1 22) = 0 ∧ τ_263.2.1 22 (τ_263.1 22) = 0 ∧ τ_263.2.1 26 (τ_263.1 22) = 0 ∧ (σ.1 5) < 1500 from by (first | omega | (simp only [st_s] <;> omega) | assumption | omega | fail)), (show (τ_263.1 20) = 0 → τ_263.2.1 14 (τ_263.1 22) = (σ.1 6) ∧ τ_263.2.1 18 (τ_263.1 22) = (σ.1 7) ∧ τ_263.2.1 21 (τ_263.1 22) = (σ.1 8) ∧ τ_263.2.1 25 (τ_263.1 22) = (σ.1 9) from by (first | omega | (simp only [st_s] <;> omega) | assumption | omega | fail)), (show oc (τ_263.2.1 7) ≤ (σ.1 5) + 1 from by (first | omega | (simp only [st_s] <;> omega) | assumption | omega | fail)), (show ¬ (σ.1 20) = 0 → (τ_263.1 20) = (σ.1 20) from by (first | omega | (simp only [st_s] <;> omega) | assumption | omega | fail)), (show J_pa (τ_263.2.1 21) (τ_263.2.1 22) from PA), ag, (show n_rc σ τ_263 from by (first | exact i263_16 | exact n_rc_h hf_τ7 rfl rfl | exact ⟨by omega, fun j _ => by (rw [g1_τ34, i42_10])⟩ | exact ⟨by omega, fun j _ => by (rw [g1_τ37, i42_10])⟩ | fail))⟩
      ·
        refine ⟨(show 0 ≤ ((24 * τ_263.1 22) + u1_263) ∧ ((24 * τ_263.1 22) + u1_263) < 36024 from by (first | omega | (simp only [st_s] <;> omega) | assumption | omega | fail)), ?_⟩
        replace ag := ag_b (k := 0) (e := ((24 * τ_263.1 22) + u1_263)) (x := 0) ag
        replace hT := mT_b (k := 0) (j := ((24 * τ_263.1 22) + u1_263)) (x := 0) hT
        refine ⟨(⟨by (first | omega | (simp only [st_s] <;> omega) | assumption | omega | fail), by (first | omega | (simp only [st_s] <;> omega) | assumption | omega | fail)⟩ : rg (u1_263 + 1)), ?_⟩
        exact ih_263 _ _ (show (25 - (u1_263 + 1) : Int) < ((m_263 : Nat) : Int) from by ((first | omega | (simp only [st_s] <;> omega) | assumption | omega | fail))) hT ag (show τ_263.1 0 = σ.1 0 from by first | exact W0 | omega) (show τ_263.1 3 = σ.1 3 from by first | exact W3 | omega) (show τ_263.1 5 = σ.1 5 from by first | exact W5 | omega) (show τ_263.1 6 = σ.1 6 from by first | exact W6 | omega) (show τ_263.1 7 = σ.1 7 from by first | exact W7 | omega) (show τ_263.1 8 = σ.1 8 from by first | exact W8 | omega) (show τ_263.1 9 = σ.1 9 from by first | exact W9 | omega) (show τ_263.1 17 = σ.1 17 from by first | exact W17 | omega) (show τ_263.1 18 = σ.1 18 from by first | exact W18 | omega) G6 (show 0 ≤ (u1_263 + 1) from by (first | omega | (simp only [st_s] <;> omega) | assumption | omega | fail)) (show (τ_263.1 20) = (σ.1 20) from by (first | omega | (simp only [st_s] <;> omega) | assumption | omega | fail)) (show (τ_263.1 22) = (σ.1 5) from by (first | omega | (simp only [st_s] <;> omega) | assumption | omega | fail)) (show (σ.1 5) < 1500 from by (first | omega | (simp only [st_s] <;> omega) | assumption | omega | fail)) (show oc (τ_263.2.1 7) ≤ (σ.1 5) + 1 from by (first | omega | (simp only [st_s] <;> omega) | assumption | omega | fail)) (show (u1_263 + 1) ≤ 24 from by (first | omega | (simp only [st_s] <;> omega) | assumption | omega | fail)) (show τ_263.2.1 14 (τ_263.1 22) = (σ.1 6) from by (first | omega | (rw [st_s]; omega) | (exact st_s _ _ _) | fail)) (show τ_263.2.1 15 (τ_263.1 22) = 0 from by (first | omega | (rw [st_s]; omega) | (exact st_s _ _ _) | fail)) (show τ_263.2.1 18 (τ_263.1 22) = (σ.1 7) from by (first | omega | (rw [st_s]; omega) | (exact st_s _ _ _) | fail)) (show τ_263.2.1 19 (τ_263.1 22) = 0 from by (first | omega | (rw [st_s]; omega) | (exact st_s _ _ _) | fail)) (show τ_263.2.1 21 (τ_263.1 22) = (σ.1 8) from by (first | omega | (rw [st_s]; omega) | (exact st_s _ _ _) | fail)) (show τ_263.2.1 22 (τ_263.1 22) = 0 from by (first | omega | (rw [st_s]; omega) | (exact st_s _ _ _) | fail)) (show τ_263.2.1 25 (τ_263.1 22) = (σ.1 9) from by (first | omega | (rw [st_s]; omega) | (exact st_s _ _ _) | fail)) (show τ_263.2.1 26 (τ_263.1 22) = 0 from by (first | omega | (rw [st_s]; omega) | (exact st_s _ _ _) | fail)) (show J_pa (τ_263.2.1 21) (τ_263.2.1 22) from PA) (show n_rc σ (s_b τ_263 0 ((24 * τ_263.1 22) + u1_263) 0) from by (first | exact i263_16 | exact rc23 | fail))
  have l_42 : ∀ (m_42 : Nat) (u1_42 : Int) (τ_42 : S0), 61 - u1_42 < (m_42 : Int) → (m_T τ_42) → (m_ag σ τ_42) → (τ_42.1 0 = σ.1 0) → (τ_42.1 3 = σ.1 3) → (τ_42.1 5 = σ.1 5) → (τ_42.1 6 = σ.1 6) → (τ_42.1 7 = σ.1 7) → (τ_42.1 8 = σ.1 8) → (τ_42.1 9 = σ.1 9) → (τ_42.1 17 = σ.1 17) → (τ_42.1 18 = σ.1 18) → (τ_42.2.1 6 = σ.2.1 6) → (0 ≤ u1_42) → (u1_42 ≤ 60) → ((τ_42.1 20) = (σ.1 20)) → (oc (τ_42.2.1 7) ≤ (σ.1 5)) → ((σ.1 5) < 1500) → ((σ.1 2) + (σ.1 18) ≤ 30000) → ((σ.1 18) ≤ 60) → ((τ_42.1 2) = (σ.1 2)) → (J_pa (τ_42.2.1 21) (τ_42.2.1 22)) → (τ_42.2.1 1 = σ.2.1 1) → P42 u1_42 τ_42 := by
    intro m_42
    induction m_42 with
    | zero =>
      intro u1_42 τ_42 hm hT ag W0 W3 W5 W6 W7 W8 W9 W17 W18 G6 i42_1 i42_2 i42_3 i42_4 i42_5 i42_6 i42_7 i42_8 i42_9 i42_10
      have A1 : ∀ j, 0 ≤ τ_42.2.1 1 j ∧ τ_42.2.1 1 j ≤ 255 := fun j => hT.2 1 j
      have A6 : ∀ j, (-1) ≤ τ_42.2.1 6 j ∧ τ_42.2.1 6 j ≤ 999 := fun j => hT.2 6 j
      have A7 : ∀ j, (-1) ≤ τ_42.2.1 7 j ∧ τ_42.2.1 7 j ≤ 1499 := fun j => hT.2 7 j
      have A14 : ∀ j, 0 ≤ τ_42.2.1 14 j ∧ τ_42.2.1 14 j ≤ 30000 := fun j => hT.2 14 j
      have A15 : ∀ j, 0 ≤ τ_42.2.1 15 j ∧ τ_42.2.1 15 j ≤ 300 := fun j => hT.2 15 j
      have A18 : ∀ j, 0 ≤ τ_42.2.1 18 j ∧ τ_42.2.1 18 j ≤ 90000 := fun j => hT.2 18 j
      have A19 : ∀ j, 0 ≤ τ_42.2.1 19 j ∧ τ_42.2.1 19 j ≤ 60 := fun j => hT.2 19 j
      have A21 : ∀ j, 0 ≤ τ_42.2.1 21 j ∧ τ_42.2.1 21 j ≤ 20000 := fun j => hT.2 21 j
      have A22 : ∀ j, 0 ≤ τ_42.2.1 22 j ∧ τ_42.2.1 22 j ≤ 20000 := fun j => hT.2 22 j
      have A25 : ∀ j, 0 ≤ τ_42.2.1 25 j ∧ τ_42.2.1 25 j ≤ 20000 := fun j => hT.2 25 j
      have A26 : ∀ j, 0 ≤ τ_42.2.1 26 j ∧ τ_42.2.1 26 j ≤ 20000 := fun j => hT.2 26 j
      have v0 : 0 ≤ τ_42.1 0 ∧ τ_42.1 0 ≤ 60000 := hT.1 0
      have v2 : 0 ≤ τ_42.1 2 ∧ τ_42.1 2 ≤ 30000 := hT.1 2
      have v3 : 0 ≤ τ_42.1 3 ∧ τ_42.1 3 ≤ 1000 := hT.1 3
      have v5 : 0 ≤ τ_42.1 5 ∧ τ_42.1 5 ≤ 1500 := hT.1 5
      have v6 : 0 ≤ τ_42.1 6 ∧ τ_42.1 6 ≤ 30000 := hT.1 6
      have v7 : 0 ≤ τ_42.1 7 ∧ τ_42.1 7 ≤ 90000 := hT.1 7
      have v8 : 0 ≤ τ_42.1 8 ∧ τ_42.1 8 ≤ 20000 := hT.1 8
      have v9 : 0 ≤ τ_42.1 9 ∧ τ_42.1 9 ≤ 20000 := hT.1 9
      have v17 : 0 ≤ τ_42.1 17 ∧ τ_42.1 17 ≤ 60000 := hT.1 17
      have v18 : 0 ≤ τ_42.1 18 ∧ τ_42.1 18 ≤ 60000 := hT.1 18
      have v20 : 0 ≤ τ_42.1 20 ∧ τ_42.1 20 ≤ 19 := hT.1 20
      have v22 : 0 ≤ τ_42.1 22 ∧ τ_42.1 22 ≤ 1499 := hT.1 22
      have a14_22 : 0 ≤ τ_42.2.1 14 (τ_42.1 22) ∧ τ_42.2.1 14 (τ_42.1 22) ≤ 30000 := hT.2 14 _
      have a15_22 : 0 ≤ τ_42.2.1 15 (τ_42.1 22) ∧ τ_42.2.1 15 (τ_42.1 22) ≤ 300 := hT.2 15 _
      have a18_22 : 0 ≤ τ_42.2.1 18 (τ_42.1 22) ∧ τ_42.2.1 18 (τ_42.1 22) ≤ 90000 := hT.2 18 _
      have a19_22 : 0 ≤ τ_42.2.1 19 (τ_42.1 22) ∧ τ_42.2.1 19 (τ_42.1 22) ≤ 60 := hT.2 19 _
      have a21_22 : 0 ≤ τ_42.2.1 21 (τ_42.1 22) ∧ τ_42.2.1 21 (τ_42.1 22) ≤ 20000 := hT.2 21 _
      have a22_22 : 0 ≤ τ_42.2.1 22 (τ_42.1 22) ∧ τ_42.2.1 22 (τ_42.1 22) ≤ 20000 := hT.2 22 _
      have a25_22 : 0 ≤ τ_42.2.1 25 (τ_42.1 22) ∧ τ_42.2.1 25 (τ_42.1 22) ≤ 20000 := hT.2 25 _
      have a26_22 : 0 ≤ τ_42.2.1 26 (τ_42.1 22) ∧ τ_42.2.1 26 (τ_42.1 22) ≤ 20000 := hT.2 26 _
      exfalso; (first | omega | (simp only [st_s] <;> omega) | assumption | omega | fail)
    | succ m_42 ih_42 =>
      intro u1_42 τ_42 hm_42 hT ag W0 W3 W5 W6 W7 W8 W9 W17 W18 G6 i42_1 i42_2 i42_3 i42_4 i42_5 i42_6 i42_7 i42_8 i42_9 i42_10
      have A1 : ∀ j, 0 ≤ τ_42.2.1 1 j ∧ τ_42.2.1 1 j ≤ 255 := fun j => hT.2 1 j
      have A6 : ∀ j, (-1) ≤ τ_42.2.1 6 j ∧ τ_42.2.1 6 j ≤ 999 := fun j => hT.2 6 j
      have A7 : ∀ j, (-1) ≤ τ_42.2.1 7 j ∧ τ_42.2.1 7 j ≤ 1499 := fun j => hT.2 7 j
      have A14 : ∀ j, 0 ≤ τ_42.2.1 14 j ∧ τ_42.2.1 14 j ≤ 30000 := fun j => hT.2 14 j
      have A15 : ∀ j, 0 ≤ τ_42.2.1 15 j ∧ τ_42.2.1 15 j ≤ 300 := fun j => hT.2 15 j
      have A18 : ∀ j, 0 ≤ τ_42.2.1 18 j ∧ τ_42.2.1 18 j ≤ 90000 := fun j => hT.2 18 j
      have A19 : ∀ j, 0 ≤ τ_42.2.1 19 j ∧ τ_42.2.1 19 j ≤ 60 := fun j => hT.2 19 j
      have A21 : ∀ j, 0 ≤ τ_42.2.1 21 j ∧ τ_42.2.1 21 j ≤ 20000 := fun j => hT.2 21 j
      have A22 : ∀ j, 0 ≤ τ_42.2.1 22 j ∧ τ_42.2.1 22 j ≤ 20000 := fun j => hT.2 22 j
      have A25 : ∀ j, 0 ≤ τ_42.2.1 25 j ∧ τ_42.2.1 25 j ≤ 20000 := fun j => hT.2 25 j
      have A26 : ∀ j, 0 ≤ τ_42.2.1 26 j ∧ τ_42.2.1 26 j ≤ 20000 := fun j => hT.2 26 j
      have v0 : 0 ≤ τ_42.1 0 ∧ τ_42.1 0 ≤ 60000 := hT.1 0
      have v2 : 0 ≤ τ_42.1 2 ∧ τ_42.1 2 ≤ 30000 := hT.1 2
      have v3 : 0 ≤ τ_42.1 3 ∧ τ_42.1 3 ≤ 1000 := hT.1 3
      have v5 : 0 ≤ τ_42.1 5 ∧ τ_42.1 5 ≤ 1500 := hT.1 5
      have v6 : 0 ≤ τ_42.1 6 ∧ τ_42.1 6 ≤ 30000 := hT.1 6
      have v7 : 0 ≤ τ_42.1 7 ∧ τ_42.1 7 ≤ 90000 := hT.1 7
      have v8 : 0 ≤ τ_42.1 8 ∧ τ_42.1 8 ≤ 20000 := hT.1 8
      have v9 : 0 ≤ τ_42.1 9 ∧ τ_42.1 9 ≤ 20000 := hT.1 9
      have v17 : 0 ≤ τ_42.1 17 ∧ τ_42.1 17 ≤ 60000 := hT.1 17
      have v18 : 0 ≤ τ_42.1 18 ∧ τ_42.1 18 ≤ 60000 := hT.1 18
      have v20 : 0 ≤ τ_42.1 20 ∧ τ_42.1 20 ≤ 19 := hT.1 20
      have v22 : 0 ≤ τ_42.1 22 ∧ τ_42.1 22 ≤ 1499 := hT.1 22
      have a14_22 : 0 ≤ τ_42.2.1 14 (τ_42.1 22) ∧ τ_42.2.1 14 (τ_42.1 22) ≤ 30000 := hT.2 14 _
      have a15_22 : 0 ≤ τ_42.2.1 15 (τ_42.1 22) ∧ τ_42.2.1 15 (τ_42.1 22) ≤ 300 := hT.2 15 _
      have a18_22 : 0 ≤ τ_42.2.1 18 (τ_42.1 22) ∧ τ_42.2.1 18 (τ_42.1 22) ≤ 90000 := hT.2 18 _
      have a19_22 : 0 ≤ τ_42.2.1 19 (τ_42.1 22) ∧ τ_42.2.1 19 (τ_42.1 22) ≤ 60 := hT.2 19 _
      have a21_22 : 0 ≤ τ_42.2.1 21 (τ_42.1 22) ∧ τ_42.2.1 21 (τ_42.1 22) ≤ 20000 := hT.2 21 _
      have a22_22 : 0 ≤ τ_42.2.1 22 (τ_42.1 22) ∧ τ_42.2.1 22 (τ_42.1 22) ≤ 20000 := hT.2 22 _
      have a25_22 : 0 ≤ τ_42.2.1 25 (τ_42.1 22) ∧ τ_42.2.1 25 (τ_42.1 22) ≤ 20000 := hT.2 25 _
      have a26_22 : 0 ≤ τ_42.2.1 26 (τ_42.1 22) ∧ τ_42.2.1 26 (τ_42.1 22) ≤ 20000 := hT.2 26 _
      have o6_τ_42 := congrArg oc G6
      have PA : J_pa (τ_42.2.1 21) (τ_42.2.1 22) := i42_9
      have SYt : oc (τ_42.2.1 6) ≤ (τ_42.1 3) := by rw [show (oc (τ_42.2.1 6) ≤ (τ_42.1 3)) = (oc (σ.2.1 6) ≤ (σ.1 3)) from by rw [W3, G6]]; exact SYt_0
      refine h42 u1_42 τ_42 ?_
      refine ⟨fun c8 => ?_, fun c8 => ?_⟩
      ·
        refine ⟨_, K_X13_findLabel_q1 hT (show 0 ≤ (τ_42.1 17) from by (first | omega | (simp only [st_s] <;> omega) | assumption | omega | fail)) (show (τ_42.1 17) + (τ_42.1 18) ≤ 60000 from by (first | omega | (simp only [st_s] <;> omega) | assumption | omega | fail)) (show oc (τ_42.2.1 7) < 4096 from by (first | omega | (simp only [st_s] <;> omega) | assumption | omega | fail)), ?_⟩
        intro x10 r_x10 hq
        have q9_1 := hq
        replace q9_1 : -1 ≤ x10 ∧ x10 ≤ 1499 := q9_1
        refine ⟨fun c12 => ?_, fun c12 => ?_⟩
        ·
          refine h108 _ ?_
          refine ⟨_, K_X13_failHere hT (show 0 ≤ (7 : Int) from by (first | omega | (simp only [st_s] <;> omega) | assumption | omega | fail)) (show (7 : Int) ≤ 19 from by (first | omega | (simp only [st_s] <;> omega) | assumption | omega | fail)), ?_⟩
          intro τ37 hn_τ37 hf_τ37 hq
          obtain ⟨hT, q35_1, q35_2⟩ := hq
          replace q35_1 : ¬ (τ_42.1 20) = 0 → (τ37.1 20) = (τ_42.1 20) := q35_1
          replace q35_2 : (τ_42.1 20) = 0 → (τ37.1 20) = (7 : Int) := q35_2
          replace ag : m_ag σ τ37 := ag_r ag hf_τ37 rfl rfl
          have w0_τ37 : τ37.1 0 = τ_42.1 0 := hf_τ37.1 0 (by decide)
          have w2_τ37 : τ37.1 2 = τ_42.1 2 := hf_τ37.1 2 (by decide)
          have w3_τ37 : τ37.1 3 = τ_42.1 3 := hf_τ37.1 3 (by decide)
          have w5_τ37 : τ37.1 5 = τ_42.1 5 := hf_τ37.1 5 (by decide)
          have w6_τ37 : τ37.1 6 = τ_42.1 6 := hf_τ37.1 6 (by decide)
          have w7_τ37 : τ37.1 7 = τ_42.1 7 := hf_τ37.1 7 (by decide)
          have w8_τ37 : τ37.1 8 = τ_42.1 8 := hf_τ37.1 8 (by decide)
          have w9_τ37 : τ37.1 9 = τ_42.1 9 := hf_τ37.1 9 (by decide)
          have w17_τ37 : τ37.1 17 = τ_42.1 17 := hf_τ37.1 17 (by decide)
          have w18_τ37 : τ37.1 18 = τ_42.1 18 := hf_τ37.1 18 (by decide)
          have w22_τ37 : τ37.1 22 = τ_42.1 22 := hf_τ37.1 22 (by decide)
          have g1_τ37 : τ37.2.1 1 = τ_42.2.1 1 := hf_τ37.2.1 1 (by decide)
          have g6_τ37 : τ37.2.1 6 = τ_42.2.1 6 := hf_τ37.2.1 6 (by decide)
          have g7_τ37 : τ37.2.1 7 = τ_42.2.1 7 := hf_τ37.2.1 7 (by decide)
          have g14_τ37 : τ37.2.1 14 = τ_42.2.1 14 := hf_τ37.2.1 14 (by decide)
          have g15_τ37 : τ37.2.1 15 = τ_42.2.1 15 := hf_τ37.2.1 15 (by decide)
          have g18_τ37 : τ37.2.1 18 = τ_42.2.1 18 := hf_τ37.2.1 18 (by decide)
          have g19_τ37 : τ37.2.1 19 = τ_42.2.1 19 := hf_τ37.2.1 19 (by decide)
          have g21_τ37 : τ37.2.1 21 = τ_42.2.1 21 := hf_τ37.2.1 21 (by decide)
          have g22_τ37 : τ37.2.1 22 = τ_42.2.1 22 := hf_τ37.2.1 22 (by decide)
          have g25_τ37 : τ37.2.1 25 = τ_42.2.1 25 := hf_τ37.2.1 25 (by decide)
          have g26_τ37 : τ37.2.1 26 = τ_42.2.1 26 := hf_τ37.2.1 26 (by decide)
          first | (have o6_τ37 := congrArg oc g6_τ37) | skip
          first | (have o7_τ37 := congrArg oc g7_τ37) | skip
          have W0 : τ37.1 0 = σ.1 0 := by first | exact w0_τ37.trans W0 | omega
          have W3 : τ37.1 3 = σ.1 3 := by first | exact w3_τ37.trans W3 | omega
          have W5 : τ37.1 5 = σ.1 5 := by first | exact w5_τ37.trans W5 | omega
          have W6 : τ37.1 6 = σ.1 6 := by first | exact w6_τ37.trans W6 | omega
          have W7 : τ37.1 7 = σ.1 7 := by first | exact w7_τ37.trans W7 | omega
          have W8 : τ37.1 8 = σ.1 8 := by first | exact w8_τ37.trans W8 | omega
          have W9 : τ37.1 9 = σ.1 9 := by first | exact w9_τ37.trans W9 | omega
          have W17 : τ37.1 17 = σ.1 17 := by first | exact w17_τ37.trans W17 | omega
          have W18 : τ37.1 18 = σ.1 18 := by first | exact w18_τ37.trans W18 | omega
          have G6 : τ37.2.1 6 = σ.2.1 6 := (g6_τ37).trans G6
          have y14_22_τ37 : τ37.2.1 14 (τ37.1 22) = (τ_42.2.1 14) (τ_42.1 22) := by rw [g14_τ37, w22_τ37]
          have y15_22_τ37 : τ37.2.1 15 (τ37.1 22) = (τ_42.2.1 15) (τ_42.1 22) := by rw [g15_τ37, w22_τ37]
          have y18_22_τ37 : τ37.2.1 18 (τ37.1 22) = (τ_42.2.1 18) (τ_42.1 22) := by rw [g18_τ37, w22_τ37]
          have y19_22_τ37 : τ37.2.1 19 (τ37.1 22) = (τ_42.2.1 19) (τ_42.1 22) := by rw [g19_τ37, w22_τ37]
          have y21_22_τ37 : τ37.2.1 21 (τ37.1 22) = (τ_42.2.1 21) (τ_42.1 22) := by rw [g21_τ37, w22_τ37]
          have y22_22_τ37 : τ37.2.1 22 (τ37.1 22) = (τ_42.2.1 22) (τ_42.1 22) := by rw [g22_τ37, w22_τ37]
          have y25_22_τ37 : τ37.2.1 25 (τ37.1 22) = (τ_42.2.1 25) (τ_42.1 22) := by rw [g25_τ37, w22_τ37]
          have y26_22_τ37 : τ37.2.1 26 (τ37.1 22) = (τ_42.2.1 26) (τ_42.1 22) := by rw [g26_τ37, w22_τ37]
          have PA : J_pa (τ37.2.1 21) (τ37.2.1 22) := by rw [show (J_pa (τ37.2.1 21) (τ37.2.1 22)) = (J_pa (τ_42.2.1 21) (τ_42.2.1 22)) from by rw [g21_τ37, g22_τ37]]; exact PA
          have SYt : oc (τ37.2.1 6) ≤ (τ37.1 3) := by rw [show (oc (τ37.2.1 6) ≤ (τ37.1 3)) = (oc (τ_42.2.1 6) ≤ (τ_42.1 3)) from by rw [w3_τ37, g6_τ37]]; exact SYt
          have A1 : ∀ j, 0 ≤ τ37.2.1 1 j ∧ τ37.2.1 1 j ≤ 255 := fun j => hT.2 1 j
          have A6 : ∀ j, (-1) ≤ τ37.2.1 6 j ∧ τ37.2.1 6 j ≤ 999 := fun j => hT.2 6 j
          have A7 : ∀ j, (-1) ≤ τ37.2.1 7 j ∧ τ37.2.1 7 j ≤ 1499 := fun j => hT.2 7 j
          have A14 : ∀ j, 0 ≤ τ37.2.1 14 j ∧ τ37.2.1 14 j ≤ 30000 := fun j => hT.2 14 j
          have A15 : ∀ j, 0 ≤ τ37.2.1 15 j ∧ τ37.2.1 15 j ≤ 300 := fun j => hT.2 15 j
          have A18 : ∀ j, 0 ≤ τ37.2.1 18 j ∧ τ37.2.1 18 j ≤ 90000 := fun j => hT.2 18 j
          have A19 : ∀ j, 0 ≤ τ37.2.1 19 j ∧ τ37.2.1 19 j ≤ 60 := fun j => hT.2 19 j
          have A21 : ∀ j, 0 ≤ τ37.2.1 21 j ∧ τ37.2.1 21 j ≤ 20000 := fun j => hT.2 21 j
          have A22 : ∀ j, 0 ≤ τ37.2.1 22 j ∧ τ37.2.1 22 j ≤ 20000 := fun j => hT.2 22 j
          have A25 : ∀ j, 0 ≤ τ37.2.1 25 j ∧ τ37.2.1 25 j ≤ 20000 := fun j => hT.2 25 j
          have A26 : ∀ j, 0 ≤ τ37.2.1 26 j ∧ τ37.2.1 26 j ≤ 20000 := fun j => hT.2 26 j
          have v0 : 0 ≤ τ37.1 0 ∧ τ37.1 0 ≤ 60000 := hT.1 0
          have v2 : 0 ≤ τ37.1 2 ∧ τ37.1 2 ≤ 30000 := hT.1 2
          have v3 : 0 ≤ τ37.1 3 ∧ τ37.1 3 ≤ 1000 := hT.1 3
          have v5 : 0 ≤ τ37.1 5 ∧ τ37.1 5 ≤ 1500 := hT.1 5
          have v6 : 0 ≤ τ37.1 6 ∧ τ37.1 6 ≤ 30000 := hT.1 6
          have v7 : 0 ≤ τ37.1 7 ∧ τ37.1 7 ≤ 90000 := hT.1 7
          have v8 : 0 ≤ τ37.1 8 ∧ τ37.1 8 ≤ 20000 := hT.1 8
          have v9 : 0 ≤ τ37.1 9 ∧ τ37.1 9 ≤ 20000 := hT.1 9
          have v17 : 0 ≤ τ37.1 17 ∧ τ37.1 17 ≤ 60000 := hT.1 17
          have v18 : 0 ≤ τ37.1 18 ∧ τ37.1 18 ≤ 60000 := hT.1 18
          have v20 : 0 ≤ τ37.1 20 ∧ τ37.1 20 ≤ 19 := hT.1 20
          have v22 : 0 ≤ τ37.1 22 ∧ τ37.1 22 ≤ 1499 := hT.1 22
          have a14_22 : 0 ≤ τ37.2.1 14 (τ37.1 22) ∧ τ37.2.1 14 (τ37.1 22) ≤ 30000 := hT.2 14 _
          have a15_22 : 0 ≤ τ37.2.1 15 (τ37.1 22) ∧ τ37.2.1 15 (τ37.1 22) ≤ 300 := hT.2 15 _
          have a18_22 : 0 ≤ τ37.2.1 18 (τ37.1 22) ∧ τ37.2.1 18 (τ37.1 22) ≤ 90000 := hT.2 18 _
          have a19_22 : 0 ≤ τ37.2.1 19 (τ37.1 22) ∧ τ37.2.1 19 (τ37.1 22) ≤ 60 := hT.2 19 _
          have a21_22 : 0 ≤ τ37.2.1 21 (τ37.1 22) ∧ τ37.2.1 21 (τ37.1 22) ≤ 20000 := hT.2 21 _
          have a22_22 : 0 ≤ τ37.2.1 22 (τ37.1 22) ∧ τ37.2.1 22 (τ37.1 22) ≤ 20000 := hT.2 22 _
          have a25_22 : 0 ≤ τ37.2.1 25 (τ37.1 22) ∧ τ37.2.1 25 (τ37.1 22) ≤ 20000 := hT.2 25 _
          have a26_22 : 0 ≤ τ37.2.1 26 (τ37.1 22) ∧ τ37.2.1 26 (τ37.1 22) ≤ 20000 := hT.2 26 _
          exact ⟨hT, (show (τ37.1 20) = 0 → (τ37.1 22) = (σ.1 5) ∧ τ37.2.1 15 (τ37.1 22) = 0 ∧ τ37.2.1 19 (τ37.1 22) = 0 ∧ τ37.2.1 22 (τ37.1 22) = 0 ∧ τ37.2.1 26 (τ37.1 22) = 0 ∧ (σ.1 5) < 1500 from by (first | omega | (simp only [st_s] <;> omega) | assumption | omega | fail)), (show (τ37.1 20) = 0 → τ37.2.1 14 (τ37.1 22) = (σ.1 6) ∧ τ37.2.1 18 (τ37.1 22) = (σ.1 7) ∧ τ37.2.1 21 (τ37.1 22) = (σ.1 8) ∧ τ37.2.1 25 (τ37.1 22) = (σ.1 9) from by (first | omega | (simp only [st_s] <;> omega) | assumption | omega | fail)), (show oc (τ37.2.1 7) ≤ (σ.1 5) + 1 from by (first | omega | (simp only [st_s] <;> omega) | assumption | omega | fail)), (show ¬ (σ.1 20) = 0 → (τ37.1 20) = (σ.1 20) from by (first | omega | (simp only [st_s] <;> omega) | assumption | omega | fail)), (show J_pa (τ37.2.1 21) (τ37.2.1 22) from PA), ag, (show n_rc σ τ37 from by (first | exact i263_16 | exact n_rc_h hf_τ7 rfl rfl | exact ⟨by omega, fun j _ => by (rw [g1_τ34, i42_10])⟩ | exact ⟨by omega, fun j _ => by (rw [g1_τ37, i42_10])⟩ | fail))⟩
        ·
          refine ⟨_, K_X13_symbolHere hT (show (τ_42.1 17) + (τ_42.1 18) ≤ 60000 from by (first | omega | (simp only [st_s] <;> omega) | assumption | omega | fail)) (show oc (τ_42.2.1 6) < 4096 from by (first | omega | (simp only [st_s] <;> omega) | assumption | omega | fail)), ?_⟩
          intro x14 r_x14 hq
          obtain ⟨q13_1, q13_2⟩ := hq
          replace q13_1 : -1 ≤ x14 ∧ x14 ≤ 999 := q13_1
          replace q13_2 : x14 = -1 ∨ ∃ e : Int, (0 ≤ e ∧ e < 4096) ∧ x14 = τ_42.2.1 6 e := q13_2
          refine ⟨fun c16 => ?_, fun c16 => ?_⟩
          ·
            replace ag := ag_v (i := 22) (x := (τ_42.1 5)) ag (Or.inl rfl)
            replace hT := mT_v (i := 22) hT (show 0 ≤ (τ_42.1 5) ∧ (τ_42.1 5) ≤ 1499 from by (first | omega | (simp only [st_s] <;> omega) | assumption | omega | fail))
            refine ⟨(show 0 ≤ τ_42.1 5 ∧ τ_42.1 5 < 1501 from by (first | omega | (simp only [st_s] <;> omega) | assumption | omega | fail)), ?_⟩
            replace ag := ag_w (k := 4) (x := (τ_42.1 2)) 5 0 ag rfl (show σ.1 5 + 0 ≤ (τ_42.1 5) from by (first | omega | (simp only [st_s] <;> omega) | assumption | omega | fail))
            replace hT := mT_a (k := 4) (j := (τ_42.1 5)) hT (show (0 : Int) ≤ (τ_42.1 2) ∧ (τ_42.1 2) ≤ 30000 from by (first | omega | (simp only [st_s] <;> omega) | assumption | omega | fail))
            replace ag := ag_w (k := 5) (x := (τ_42.1 18)) 5 0 ag rfl (show σ.1 5 + 0 ≤ (τ_42.1 5) from by (first | omega | (simp only [st_s] <;> omega) | assumption | omega | fail))
            replace hT := mT_a (k := 5) (j := (τ_42.1 5)) hT (show (0 : Int) ≤ (τ_42.1 18) ∧ (τ_42.1 18) ≤ 60 from by (first | omega | (simp only [st_s] <;> omega) | assumption | omega | fail))
            refine ⟨_, K3_X13_keepChars hT (show 0 ≤ (τ_42.1 17) from by (first | omega | (simp only [st_s] <;> omega) | assumption | omega | fail)) (show 0 ≤ (τ_42.1 18) from by (first | omega | (simp only [st_s] <;> omega) | assumption | omega | fail)) (show (τ_42.1 17) + (τ_42.1 18) ≤ 60000 from by (first | omega | (simp only [st_s] <;> omega) | assumption | omega | fail)) (show (τ_42.1 2) + (τ_42.1 18) ≤ 30000 from by (first | omega | (simp only [st_s] <;> omega) | assumption | omega | fail)), ?_⟩
            intro τ20 hn_τ20 hf_τ20 hq
            obtain ⟨hT, q18_1, q18_2, q18_3⟩ := hq
            replace q18_1 : (τ20.1 2) = (τ_42.1 2) + (τ_42.1 18) := q18_1
            replace q18_2 : ∀ j : Int, j < (τ_42.1 2) → τ20.2.1 1 j = τ_42.2.1 1 j := q18_2
            replace q18_3 : ∀ k : Int, 0 ≤ k → k < (τ_42.1 18) → τ20.2.1 1 ((τ_42.1 2) + k) = τ_42.2.1 0 ((τ_42.1 17) + k) := q18_3
            replace ag : m_ag σ τ20 := ag_r ag hf_τ20 rfl rfl
            have w0_τ20 : τ20.1 0 = τ_42.1 0 := hf_τ20.1 0 (by decide)
            have w3_τ20 : τ20.1 3 = τ_42.1 3 := hf_τ20.1 3 (by decide)
            have w5_τ20 : τ20.1 5 = τ_42.1 5 := hf_τ20.1 5 (by decide)
            have w6_τ20 : τ20.1 6 = τ_42.1 6 := hf_τ20.1 6 (by decide)
            have w7_τ20 : τ20.1 7 = τ_42.1 7 := hf_τ20.1 7 (by decide)
            have w8_τ20 : τ20.1 8 = τ_42.1 8 := hf_τ20.1 8 (by decide)
            have w9_τ20 : τ20.1 9 = τ_42.1 9 := hf_τ20.1 9 (by decide)
            have w17_τ20 : τ20.1 17 = τ_42.1 17 := hf_τ20.1 17 (by decide)
            have w18_τ20 : τ20.1 18 = τ_42.1 18 := hf_τ20.1 18 (by decide)
            have w20_τ20 : τ20.1 20 = τ_42.1 20 := hf_τ20.1 20 (by decide)
            have w22_τ20 : τ20.1 22 = τ_42.1 5 := hf_τ20.1 22 (by decide)
            have g6_τ20 : τ20.2.1 6 = τ_42.2.1 6 := hf_τ20.2.1 6 (by decide)
            have g7_τ20 : τ20.2.1 7 = τ_42.2.1 7 := hf_τ20.2.1 7 (by decide)
            have g14_τ20 : τ20.2.1 14 = τ_42.2.1 14 := hf_τ20.2.1 14 (by decide)
            have g15_τ20 : τ20.2.1 15 = τ_42.2.1 15 := hf_τ20.2.1 15 (by decide)
            have g18_τ20 : τ20.2.1 18 = τ_42.2.1 18 := hf_τ20.2.1 18 (by decide)
            have g19_τ20 : τ20.2.1 19 = τ_42.2.1 19 := hf_τ20.2.1 19 (by decide)
            have g21_τ20 : τ20.2.1 21 = τ_42.2.1 21 := hf_τ20.2.1 21 (by decide)
            have g22_τ20 : τ20.2.1 22 = τ_42.2.1 22 := hf_τ20.2.1 22 (by decide)
            have g25_τ20 : τ20.2.1 25 = τ_42.2.1 25 := hf_τ20.2.1 25 (by decide)
            have g26_τ20 : τ20.2.1 26 = τ_42.2.1 26 := hf_τ20.2.1 26 (by decide)
            first | (have o6_τ20 := congrArg oc g6_τ20) | skip
            first | (have o7_τ20 := congrArg oc g7_τ20) | skip
            have W0 : τ20.1 0 = σ.1 0 := by first | exact w0_τ20.trans W0 | omega
            have W3 : τ20.1 3 = σ.1 3 := by first | exact w3_τ20.trans W3 | omega
            have W5 : τ20.1 5 = σ.1 5 := by first | exact w5_τ20.trans W5 | omega
            have W6 : τ20.1 6 = σ.1 6 := by first | exact w6_τ20.trans W6 | omega
            have W7 : τ20.1 7 = σ.1 7 := by first | exact w7_τ20.trans W7 | omega
            have W8 : τ20.1 8 = σ.1 8 := by first | exact w8_τ20.trans W8 | omega
            have W9 : τ20.1 9 = σ.1 9 := by first | exact w9_τ20.trans W9 | omega
            have W17 : τ20.1 17 = σ.1 17 := by first | exact w17_τ20.trans W17 | omega
            have W18 : τ20.1 18 = σ.1 18 := by first | exact w18_τ20.trans W18 | omega
            have G6 : τ20.2.1 6 = σ.2.1 6 := (g6_τ20).trans G6
            have y14_22_τ20 : τ20.2.1 14 (τ20.1 22) = (τ_42.2.1 14) (τ_42.1 5) := by rw [g14_τ20, w22_τ20]
            have y15_22_τ20 : τ20.2.1 15 (τ20.1 22) = (τ_42.2.1 15) (τ_42.1 5) := by rw [g15_τ20, w22_τ20]
            have y18_22_τ20 : τ20.2.1 18 (τ20.1 22) = (τ_42.2.1 18) (τ_42.1 5) := by rw [g18_τ20, w22_τ20]
            have y19_22_τ20 : τ20.2.1 19 (τ20.1 22) = (τ_42.2.1 19) (τ_42.1 5) := by rw [g19_τ20, w22_τ20]
            have y21_22_τ20 : τ20.2.1 21 (τ20.1 22) = (τ_42.2.1 21) (τ_42.1 5) := by rw [g21_τ20, w22_τ20]
            have y22_22_τ20 : τ20.2.1 22 (τ20.1 22) = (τ_42.2.1 22) (τ_42.1 5) := by rw [g22_τ20, w22_τ20]
            have y25_22_τ20 : τ20.2.1 25 (τ20.1 22) = (τ_42.2.1 25) (τ_42.1 5) := by rw [g25_τ20, w22_τ20]
            have y26_22_τ20 : τ20.2.1 26 (τ20.1 22) = (τ_42.2.1 26) (τ_42.1 5) := by rw [g26_τ20, w22_τ20]
            have PA : J_pa (τ20.2.1 21) (τ20.2.1 22) := by rw [show (J_pa (τ20.2.1 21) (τ20.2.1 22)) = (J_pa (τ_42.2.1 21) (τ_42.2.1 22)) from by rw [g21_τ20, g22_τ20]]; exact PA
            have SYt : oc (τ20.2.1 6) ≤ (τ20.1 3) := by rw [show (oc (τ20.2.1 6) ≤ (τ20.1 3)) = (oc (τ_42.2.1 6) ≤ (τ_42.1 3)) from by rw [w3_τ20, g6_τ20]]; exact SYt
            have A1 : ∀ j, 0 ≤ τ20.2.1 1 j ∧ τ20.2.1 1 j ≤ 255 := fun j => hT.2 1 j
            have A6 : ∀ j, (-1) ≤ τ20.2.1 6 j ∧ τ20.2.1 6 j ≤ 999 := fun j => hT.2 6 j
            have A7 : ∀ j, (-1) ≤ τ20.2.1 7 j ∧ τ20.2.1 7 j ≤ 1499 := fun j => hT.2 7 j
            have A14 : ∀ j, 0 ≤ τ20.2.1 14 j ∧ τ20.2.1 14 j ≤ 30000 := fun j => hT.2 14 j
            have A15 : ∀ j, 0 ≤ τ20.2.1 15 j ∧ τ20.2.1 15 j ≤ 300 := fun j => hT.2 15 j
            have A18 : ∀ j, 0 ≤ τ20.2.1 18 j ∧ τ20.2.1 18 j ≤ 90000 := fun j => hT.2 18 j
            have A19 : ∀ j, 0 ≤ τ20.2.1 19 j ∧ τ20.2.1 19 j ≤ 60 := fun j => hT.2 19 j
            have A21 : ∀ j, 0 ≤ τ20.2.1 21 j ∧ τ20.2.1 21 j ≤ 20000 := fun j => hT.2 21 j
            have A22 : ∀ j, 0 ≤ τ20.2.1 22 j ∧ τ20.2.1 22 j ≤ 20000 := fun j => hT.2 22 j
            have A25 : ∀ j, 0 ≤ τ20.2.1 25 j ∧ τ20.2.1 25 j ≤ 20000 := fun j => hT.2 25 j
            have A26 : ∀ j, 0 ≤ τ20.2.1 26 j ∧ τ20.2.1 26 j ≤ 20000 := fun j => hT.2 26 j
            have v0 : 0 ≤ τ20.1 0 ∧ τ20.1 0 ≤ 60000 := hT.1 0
            have v2 : 0 ≤ τ20.1 2 ∧ τ20.1 2 ≤ 30000 := hT.1 2
            have v3 : 0 ≤ τ20.1 3 ∧ τ20.1 3 ≤ 1000 := hT.1 3
            have v5 : 0 ≤ τ20.1 5 ∧ τ20.1 5 ≤ 1500 := hT.1 5
            have v6 : 0 ≤ τ20.1 6 ∧ τ20.1 6 ≤ 30000 := hT.1 6
            have v7 : 0 ≤ τ20.1 7 ∧ τ20.1 7 ≤ 90000 := hT.1 7
            have v8 : 0 ≤ τ20.1 8 ∧ τ20.1 8 ≤ 20000 := hT.1 8
            have v9 : 0 ≤ τ20.1 9 ∧ τ20.1 9 ≤ 20000 := hT.1 9
            have v17 : 0 ≤ τ20.1 17 ∧ τ20.1 17 ≤ 60000 := hT.1 17
            have v18 : 0 ≤ τ20.1 18 ∧ τ20.1 18 ≤ 60000 := hT.1 18
            have v20 : 0 ≤ τ20.1 20 ∧ τ20.1 20 ≤ 19 := hT.1 20
            have v22 : 0 ≤ τ20.1 22 ∧ τ20.1 22 ≤ 1499 := hT.1 22
            have a14_22 : 0 ≤ τ20.2.1 14 (τ20.1 22) ∧ τ20.2.1 14 (τ20.1 22) ≤ 30000 := hT.2 14 _
            have a15_22 : 0 ≤ τ20.2.1 15 (τ20.1 22) ∧ τ20.2.1 15 (τ20.1 22) ≤ 300 := hT.2 15 _
            have a18_22 : 0 ≤ τ20.2.1 18 (τ20.1 22) ∧ τ20.2.1 18 (τ20.1 22) ≤ 90000 := hT.2 18 _
            have a19_22 : 0 ≤ τ20.2.1 19 (τ20.1 22) ∧ τ20.2.1 19 (τ20.1 22) ≤ 60 := hT.2 19 _
            have a21_22 : 0 ≤ τ20.2.1 21 (τ20.1 22) ∧ τ20.2.1 21 (τ20.1 22) ≤ 20000 := hT.2 21 _
            have a22_22 : 0 ≤ τ20.2.1 22 (τ20.1 22) ∧ τ20.2.1 22 (τ20.1 22) ≤ 20000 := hT.2 22 _
            have a25_22 : 0 ≤ τ20.2.1 25 (τ20.1 22) ∧ τ20.2.1 25 (τ20.1 22) ≤ 20000 := hT.2 25 _
            have a26_22 : 0 ≤ τ20.2.1 26 (τ20.1 22) ∧ τ20.2.1 26 (τ20.1 22) ≤ 20000 := hT.2 26 _
            refine ⟨_, K_X13_keepLabel hT (show 0 ≤ (τ20.1 22) from by (first | omega | (simp only [st_s] <;> omega) | assumption | omega | fail)) (show (τ20.1 22) < 1500 from by (first | omega | (simp only [st_s] <;> omega) | assumption | omega | fail)) (show oc (τ20.2.1 7) < 4096 from by (first | omega | (simp only [st_s] <;> omega) | assumption | omega | fail)), ?_⟩
            intro τ23 hn_τ23 hf_τ23 hq
            obtain ⟨hT, q21_1, q21_2⟩ := hq
            replace q21_1 : oc (τ23.2.1 7) ≤ oc (τ20.2.1 7) + 1 := q21_1
            replace q21_2 : ∃ e : Int, τ23.2.1 7 = st (τ20.2.1 7) e (τ20.1 22) := q21_2
            replace ag : m_ag σ τ23 := ag_r ag hf_τ23 rfl rfl
            have w0_τ23 : τ23.1 0 = τ20.1 0 := hf_τ23.1 0 (by decide)
            have w2_τ23 : τ23.1 2 = τ20.1 2 := hf_τ23.1 2 (by decide)
            have w3_τ23 : τ23.1 3 = τ20.1 3 := hf_τ23.1 3 (by decide)
            have w5_τ23 : τ23.1 5 = τ20.1 5 := hf_τ23.1 5 (by decide)
            have w6_τ23 : τ23.1 6 = τ20.1 6 := hf_τ23.1 6 (by decide)
            have w7_τ23 : τ23.1 7 = τ20.1 7 := hf_τ23.1 7 (by decide)
            have w8_τ23 : τ23.1 8 = τ20.1 8 := hf_τ23.1 8 (by decide)
            have w9_τ23 : τ23.1 9 = τ20.1 9 := hf_τ23.1 9 (by decide)
            have w17_τ23 : τ23.1 17 = τ20.1 17 := hf_τ23.1 17 (by decide)
            have w18_τ23 : τ23.1 18 = τ20.1 18 := hf_τ23.1 18 (by decide)
            have w20_τ23 : τ23.1 20 = τ20.1 20 := hf_τ23.1 20 (by decide)
            have w22_τ23 : τ23.1 22 = τ20.1 22 := hf_τ23.1 22 (by decide)
            have g1_τ23 : τ23.2.1 1 = τ20.2.1 1 := hf_τ23.2.1 1 (by decide)
            have g6_τ23 : τ23.2.1 6 = τ20.2.1 6 := hf_τ23.2.1 6 (by decide)
            have g14_τ23 : τ23.2.1 14 = τ20.2.1 14 := hf_τ23.2.1 14 (by decide)
            have g15_τ23 : τ23.2.1 15 = τ20.2.1 15 := hf_τ23.2.1 15 (by decide)
            have g18_τ23 : τ23.2.1 18 = τ20.2.1 18 := hf_τ23.2.1 18 (by decide)
            have g19_τ23 : τ23.2.1 19 = τ20.2.1 19 := hf_τ23.2.1 19 (by decide)
            have g21_τ23 : τ23.2.1 21 = τ20.2.1 21 := hf_τ23.2.1 21 (by decide)
            have g22_τ23 : τ23.2.1 22 = τ20.2.1 22 := hf_τ23.2.1 22 (by decide)
            have g25_τ23 : τ23.2.1 25 = τ20.2.1 25 := hf_τ23.2.1 25 (by decide)
            have g26_τ23 : τ23.2.1 26 = τ20.2.1 26 := hf_τ23.2.1 26 (by decide)
            first | (have o6_τ23 := congrArg oc g6_τ23) | skip
            first | (have o7_τ23 := congrArg oc g7_τ23) | skip
            have W0 : τ23.1 0 = σ.1 0 := by first | exact w0_τ23.trans W0 | omega
            have W3 : τ23.1 3 = σ.1 3 := by first | exact w3_τ23.trans W3 | omega
            have W5 : τ23.1 5 = σ.1 5 := by first | exact w5_τ23.trans W5 | omega
            have W6 : τ23.1 6 = σ.1 6 := by first | exact w6_τ23.trans W6 | omega
            have W7 : τ23.1 7 = σ.1 7 := by first | exact w7_τ23.trans W7 | omega
            have W8 : τ23.1 8 = σ.1 8 := by first | exact w8_τ23.trans W8 | omega
            have W9 : τ23.1 9 = σ.1 9 := by first | exact w9_τ23.trans W9 | omega
            have W17 : τ23.1 17 = σ.1 17 := by first | exact w17_τ23.trans W17 | omega
            have W18 : τ23.1 18 = σ.1 18 := by first | exact w18_τ23.trans W18 | omega
            have G6 : τ23.2.1 6 = σ.2.1 6 := (g6_τ23).trans G6
            have y14_22_τ23 : τ23.2.1 14 (τ23.1 22) = (τ20.2.1 14) (τ20.1 22) := by rw [g14_τ23, w22_τ23]
            have y15_22_τ23 : τ23.2.1 15 (τ23.1 22) = (τ20.2.1 15) (τ20.1 22) := by rw [g15_τ23, w22_τ23]
            have y18_22_τ23 : τ23.2.1 18 (τ23.1 22) = (τ20.2.1 18) (τ20.1 22) := by rw [g18_τ23, w22_τ23]
            have y19_22_τ23 : τ23.2.1 19 (τ23.1 22) = (τ20.2.1 19) (τ20.1 22) := by rw [g19_τ23, w22_τ23]
            have y21_22_τ23 : τ23.2.1 21 (τ23.1 22) = (τ20.2.1 21) (τ20.1 22) := by rw [g21_τ23, w22_τ23]
            have y22_22_τ23 : τ23.2.1 22 (τ23.1 22) = (τ20.2.1 22) (τ20.1 22) := by rw [g22_τ23, w22_τ23]
            have y25_22_τ23 : τ23.2.1 25 (τ23.1 22) = (τ20.2.1 25) (τ20.1 22) := by rw [g25_τ23, w22_τ23]
            have y26_22_τ23 : τ23.2.1 26 (τ23.1 22) = (τ20.2.1 26) (τ20.1 22) := by rw [g26_τ23, w22_τ23]
            have PA : J_pa (τ23.2.1 21) (τ23.2.1 22) := by rw [show (J_pa (τ23.2.1 21) (τ23.2.1 22)) = (J_pa (τ20.2.1 21) (τ20.2.1 22)) from by rw [g21_τ23, g22_τ23]]; exact PA
            have SYt : oc (τ23.2.1 6) ≤ (τ23.1 3) := by rw [show (oc (τ23.2.1 6) ≤ (τ23.1 3)) = (oc (τ20.2.1 6) ≤ (τ20.1 3)) from by rw [w3_τ23, g6_τ23]]; exact SYt
            have A1 : ∀ j, 0 ≤ τ23.2.1 1 j ∧ τ23.2.1 1 j ≤ 255 := fun j => hT.2 1 j
            have A6 : ∀ j, (-1) ≤ τ23.2.1 6 j ∧ τ23.2.1 6 j ≤ 999 := fun j => hT.2 6 j
            have A7 : ∀ j, (-1) ≤ τ23.2.1 7 j ∧ τ23.2.1 7 j ≤ 1499 := fun j => hT.2 7 j
            have A14 : ∀ j, 0 ≤ τ23.2.1 14 j ∧ τ23.2.1 14 j ≤ 30000 := fun j => hT.2 14 j
            have A15 : ∀ j, 0 ≤ τ23.2.1 15 j ∧ τ23.2.1 15 j ≤ 300 := fun j => hT.2 15 j
            have A18 : ∀ j, 0 ≤ τ23.2.1 18 j ∧ τ23.2.1 18 j ≤ 90000 := fun j => hT.2 18 j
            have A19 : ∀ j, 0 ≤ τ23.2.1 19 j ∧ τ23.2.1 19 j ≤ 60 := fun j => hT.2 19 j
            have A21 : ∀ j, 0 ≤ τ23.2.1 21 j ∧ τ23.2.1 21 j ≤ 20000 := fun j => hT.2 21 j
            have A22 : ∀ j, 0 ≤ τ23.2.1 22 j ∧ τ23.2.1 22 j ≤ 20000 := fun j => hT.2 22 j
            have A25 : ∀ j, 0 ≤ τ23.2.1 25 j ∧ τ23.2.1 25 j ≤ 20000 := fun j => hT.2 25 j
            have A26 : ∀ j, 0 ≤ τ23.2.1 26 j ∧ τ23.2.1 26 j ≤ 20000 := fun j => hT.2 26 j
            have v0 : 0 ≤ τ23.1 0 ∧ τ23.1 0 ≤ 60000 := hT.1 0
            have v2 : 0 ≤ τ23.1 2 ∧ τ23.1 2 ≤ 30000 := hT.1 2
            have v3 : 0 ≤ τ23.1 3 ∧ τ23.1 3 ≤ 1000 := hT.1 3
            have v5 : 0 ≤ τ23.1 5 ∧ τ23.1 5 ≤ 1500 := hT.1 5
            have v6 : 0 ≤ τ23.1 6 ∧ τ23.1 6 ≤ 30000 := hT.1 6
            have v7 : 0 ≤ τ23.1 7 ∧ τ23.1 7 ≤ 90000 := hT.1 7
            have v8 : 0 ≤ τ23.1 8 ∧ τ23.1 8 ≤ 20000 := hT.1 8
            have v9 : 0 ≤ τ23.1 9 ∧ τ23.1 9 ≤ 20000 := hT.1 9
            have v17 : 0 ≤ τ23.1 17 ∧ τ23.1 17 ≤ 60000 := hT.1 17
            have v18 : 0 ≤ τ23.1 18 ∧ τ23.1 18 ≤ 60000 := hT.1 18
            have v20 : 0 ≤ τ23.1 20 ∧ τ23.1 20 ≤ 19 := hT.1 20
            have v22 : 0 ≤ τ23.1 22 ∧ τ23.1 22 ≤ 1499 := hT.1 22
            have a14_22 : 0 ≤ τ23.2.1 14 (τ23.1 22) ∧ τ23.2.1 14 (τ23.1 22) ≤ 30000 := hT.2 14 _
            have a15_22 : 0 ≤ τ23.2.1 15 (τ23.1 22) ∧ τ23.2.1 15 (τ23.1 22) ≤ 300 := hT.2 15 _
            have a18_22 : 0 ≤ τ23.2.1 18 (τ23.1 22) ∧ τ23.2.1 18 (τ23.1 22) ≤ 90000 := hT.2 18 _
            have a19_22 : 0 ≤ τ23.2.1 19 (τ23.1 22) ∧ τ23.2.1 19 (τ23.1 22) ≤ 60 := hT.2 19 _
            have a21_22 : 0 ≤ τ23.2.1 21 (τ23.1 22) ∧ τ23.2.1 21 (τ23.1 22) ≤ 20000 := hT.2 21 _
            have a22_22 : 0 ≤ τ23.2.1 22 (τ23.1 22) ∧ τ23.2.1 22 (τ23.1 22) ≤ 20000 := hT.2 22 _
            have a25_22 : 0 ≤ τ23.2.1 25 (τ23.1 22) ∧ τ23.2.1 25 (τ23.1 22) ≤ 20000 := hT.2 25 _
            have a26_22 : 0 ≤ τ23.2.1 26 (τ23.1 22) ∧ τ23.2.1 26 (τ23.1 22) ≤ 20000 := hT.2 26 _
            have rc23 : n_rc σ τ23 := ⟨by omega, fun j hj => by (rw [g1_τ23, q18_2 j (by omega), i42_10])⟩
            refine ⟨(show 0 ≤ τ23.1 22 ∧ τ23.1 22 < 1501 from by (first | omega | (simp only [st_s] <;> omega) | assumption | omega | fail)), ?_⟩
            replace ag := ag_w (k := 14) (x := (τ23.1 6)) 5 0 ag rfl (show σ.1 5 + 0 ≤ (τ23.1 22) from by (first | omega | (simp only [st_s] <;> omega) | assumption | omega | fail))
            replace hT := mT_a (k := 14) (j := (τ23.1 22)) hT (show (0 : Int) ≤ (τ23.1 6) ∧ (τ23.1 6) ≤ 30000 from by (first | omega | (simp only [st_s] <;> omega) | assumption | omega | fail))
            replace ag := ag_w (k := 15) (x := 0) 5 0 ag rfl (show σ.1 5 + 0 ≤ (τ23.1 22) from by (first | omega | (simp only [st_s] <;> omega) | assumption | omega | fail))
            replace hT := mT_a (k := 15) (j := (τ23.1 22)) hT (show (0 : Int) ≤ 0 ∧ 0 ≤ 300 from by (first | omega | (simp only [st_s] <;> omega) | assumption | omega | fail))
            replace ag := ag_w (k := 18) (x := (τ23.1 7)) 5 0 ag rfl (show σ.1 5 + 0 ≤ (τ23.1 22) from by (first | omega | (simp only [st_s] <;> omega) | assumption | omega | fail))
            replace hT := mT_a (k := 18) (j := (τ23.1 22)) hT (show (0 : Int) ≤ (τ23.1 7) ∧ (τ23.1 7) ≤ 90000 from by (first | omega | (simp only [st_s] <;> omega) | assumption | omega | fail))
            replace ag := ag_w (k := 19) (x := 0) 5 0 ag rfl (show σ.1 5 + 0 ≤ (τ23.1 22) from by (first | omega | (simp only [st_s] <;> omega) | assumption | omega | fail))
            replace hT := mT_a (k := 19) (j := (τ23.1 22)) hT (show (0 : Int) ≤ 0 ∧ 0 ≤ 60 from by (first | omega | (simp only [st_s] <;> omega) | assumption | omega | fail))
            replace ag := ag_w (k := 21) (x := (τ23.1 8)) 5 0 ag rfl (show σ.1 5 + 0 ≤ (τ23.1 22) from by (first | omega | (simp only [st_s] <;> omega) | assumption | omega | fail))
            replace hT := mT_a (k := 21) (j := (τ23.1 22)) hT (show (0 : Int) ≤ (τ23.1 8) ∧ (τ23.1 8) ≤ 20000 from by (first | omega | (simp only [st_s] <;> omega) | assumption | omega | fail))
            replace ag := ag_w (k := 22) (x := 0) 5 0 ag rfl (show σ.1 5 + 0 ≤ (τ23.1 22) from by (first | omega | (simp only [st_s] <;> omega) | assumption | omega | fail))
            replace hT := mT_a (k := 22) (j := (τ23.1 22)) hT (show (0 : Int) ≤ 0 ∧ 0 ≤ 20000 from by (first | omega | (simp only [st_s] <;> omega) | assumption | omega | fail))
            replace ag := ag_w (k := 25) (x := (τ23.1 9)) 5 0 ag rfl (show σ.1 5 + 0 ≤ (τ23.1 22) from by (first | omega | (simp only [st_s] <;> omega) | assumption | omega | fail))
            replace hT := mT_a (k := 25) (j := (τ23.1 22)) hT (show (0 : Int) ≤ (τ23.1 9) ∧ (τ23.1 9) ≤ 20000 from by (first | omega | (simp only [st_s] <;> omega) | assumption | omega | fail))
            replace ag := ag_w (k := 26) (x := 0) 5 0 ag rfl (show σ.1 5 + 0 ≤ (τ23.1 22) from by (first | omega | (simp only [st_s] <;> omega) | assumption | omega | fail))
            replace hT := mT_a (k := 26) (j := (τ23.1 22)) hT (show (0 : Int) ≤ 0 ∧ 0 ≤ 20000 from by (first | omega | (simp only [st_s] <;> omega) | assumption | omega | fail))
            exact l_263 ((25 - 0 : Int).toNat + 1) _ _ (show (25 - 0 : Int) < (((25 - 0 : Int).toNat + 1 : Nat) : Int) from by ((first | omega | (simp only [st_s] <;> omega) | assumption | omega | fail))) hT ag (show τ23.1 0 = σ.1 0 from by first | exact W0 | omega) (show τ23.1 3 = σ.1 3 from by first | exact W3 | omega) (show τ23.1 5 = σ.1 5 from by first | exact W5 | omega) (show τ23.1 6 = σ.1 6 from by first | exact W6 | omega) (show τ23.1 7 = σ.1 7 from by first | exact W7 | omega) (show τ23.1 8 = σ.1 8 from by first | exact W8 | omega) (show τ23.1 9 = σ.1 9 from by first | exact W9 | omega) (show τ23.1 17 = σ.1 17 from by first | exact W17 | omega) (show τ23.1 18 = σ.1 18 from by first | exact W18 | omega) G6 (show 0 ≤ 0 from by (first | omega | (simp only [st_s] <;> omega) | assumption | omega | fail)) (show (τ23.1 20) = (σ.1 20) from by (first | omega | (simp only [st_s] <;> omega) | assumption | omega | fail)) (show (τ23.1 22) = (σ.1 5) from by (first | omega | (simp only [st_s] <;> omega) | assumption | omega | fail)) (show (σ.1 5) < 1500 from by (first | omega | (simp only [st_s] <;> omega) | assumption | omega | fail)) (show oc (τ23.2.1 7) ≤ (σ.1 5) + 1 from by (first | omega | (simp only [st_s] <;> omega) | assumption | omega | fail)) (show 0 ≤ 24 from by (first | omega | (simp only [st_s] <;> omega) | assumption | omega | fail)) (show (st (τ23.2.1 14) (τ23.1 22) (τ23.1 6)) (τ23.1 22) = (σ.1 6) from by (first | omega | (rw [st_s]; omega) | (exact st_s _ _ _) | fail)) (show (st (τ23.2.1 15) (τ23.1 22) 0) (τ23.1 22) = 0 from by (first | omega | (rw [st_s]; omega) | (exact st_s _ _ _) | fail)) (show (st (τ23.2.1 18) (τ23.1 22) (τ23.1 7)) (τ23.1 22) = (σ.1 7) from by (first | omega | (rw [st_s]; omega) | (exact st_s _ _ _) | fail)) (show (st (τ23.2.1 19) (τ23.1 22) 0) (τ23.1 22) = 0 from by (first | omega | (rw [st_s]; omega) | (exact st_s _ _ _) | fail)) (show (st (τ23.2.1 21) (τ23.1 22) (τ23.1 8)) (τ23.1 22) = (σ.1 8) from by (first | omega | (rw [st_s]; omega) | (exact st_s _ _ _) | fail)) (show (st (τ23.2.1 22) (τ23.1 22) 0) (τ23.1 22) = 0 from by (first | omega | (rw [st_s]; omega) | (exact st_s _ _ _) | fail)) (show (st (τ23.2.1 25) (τ23.1 22) (τ23.1 9)) (τ23.1 22) = (σ.1 9) from by (first | omega | (rw [st_s]; omega) | (exact st_s _ _ _) | fail)) (show (st (τ23.2.1 26) (τ23.1 22) 0) (τ23.1 22) = 0 from by (first | omega | (rw [st_s]; omega) | (exact st_s _ _ _) | fail)) (show J_pa ((st (τ23.2.1 21) (τ23.1 22) (τ23.1 8))) ((st (τ23.2.1 22) (τ23.1 22) 0)) from by (first | exact J_pa0 PA (by omega) | assumption | fail)) (show n_rc σ (s_a (s_a (s_a (s_a (s_a (s_a (s_a (s_a τ23 14 (τ23.1 22) (τ23.1 6)) 15 (τ23.1 22) 0) 18 (τ23.1 22) (τ23.1 7)) 19 (τ23.1 22) 0) 21 (τ23.1 22) (τ23.1 8)) 22 (τ23.1 22) 0) 25 (τ23.1 22) (τ23.1 9)) 26 (τ23.1 22) 0) from by (first | exact i263_16 | exact rc23 | fail))
          ·
            refine h108 _ ?_
            refine ⟨_, K_X13_failHere hT (show 0 ≤ (7 : Int) from by (first | omega | (simp only [st_s] <;> omega) | assumption | omega | fail)) (show (7 : Int) ≤ 19 from by (first | omega | (simp only [st_s] <;> omega) | assumption | omega | fail)), ?_⟩
            intro τ37 hn_τ37 hf_τ37 hq
            obtain ⟨hT, q35_1, q35_2⟩ := hq
            replace q35_1 : ¬ (τ_42.1 20) = 0 → (τ37.1 20) = (τ_42.1 20) := q35_1
            replace q35_2 : (τ_42.1 20) = 0 → (τ37.1 20) = (7 : Int) := q35_2
            replace ag : m_ag σ τ37 := ag_r ag hf_τ37 rfl rfl
            have w0_τ37 : τ37.1 0 = τ_42.1 0 := hf_τ37.1 0 (by decide)
            have w2_τ37 : τ37.1 2 = τ_42.1 2 := hf_τ37.1 2 (by decide)
            have w3_τ37 : τ37.1 3 = τ_42.1 3 := hf_τ37.1 3 (by decide)
            have w5_τ37 : τ37.1 5 = τ_42.1 5 := hf_τ37.1 5 (by decide)
            have w6_τ37 : τ37.1 6 = τ_42.1 6 := hf_τ37.1 6 (by decide)
            have w7_τ37 : τ37.1 7 = τ_42.1 7 := hf_τ37.1 7 (by decide)
            have w8_τ37 : τ37.1 8 = τ_42.1 8 := hf_τ37.1 8 (by decide)
            have w9_τ37 : τ37.1 9 = τ_42.1 9 := hf_τ37.1 9 (by decide)
            have w17_τ37 : τ37.1 17 = τ_42.1 17 := hf_τ37.1 17 (by decide)
            have w18_τ37 : τ37.1 18 = τ_42.1 18 := hf_τ37.1 18 (by decide)
            have w22_τ37 : τ37.1 22 = τ_42.1 22 := hf_τ37.1 22 (by decide)
            have g1_τ37 : τ37.2.1 1 = τ_42.2.1 1 := hf_τ37.2.1 1 (by decide)
            have g6_τ37 : τ37.2.1 6 = τ_42.2.1 6 := hf_τ37.2.1 6 (by decide)
            have g7_τ37 : τ37.2.1 7 = τ_42.2.1 7 := hf_τ37.2.1 7 (by decide)
            have g14_τ37 : τ37.2.1 14 = τ_42.2.1 14 := hf_τ37.2.1 14 (by decide)
            have g15_τ37 : τ37.2.1 15 = τ_42.2.1 15 := hf_τ37.2.1 15 (by decide)
            have g18_τ37 : τ37.2.1 18 = τ_42.2.1 18 := hf_τ37.2.1 18 (by decide)
            have g19_τ37 : τ37.2.1 19 = τ_42.2.1 19 := hf_τ37.2.1 19 (by decide)
            have g21_τ37 : τ37.2.1 21 = τ_42.2.1 21 := hf_τ37.2.1 21 (by decide)
            have g22_τ37 : τ37.2.1 22 = τ_42.2.1 22 := hf_τ37.2.1 22 (by decide)
            have g25_τ37 : τ37.2.1 25 = τ_42.2.1 25 := hf_τ37.2.1 25 (by decide)
            have g26_τ37 : τ37.2.1 26 = τ_42.2.1 26 := hf_τ37.2.1 26 (by decide)
            first | (have o6_τ37 := congrArg oc g6_τ37) | skip
            first | (have o7_τ37 := congrArg oc g7_τ37) | skip
            have W0 : τ37.1 0 = σ.1 0 := by first | exact w0_τ37.trans W0 | omega
            have W3 : τ37.1 3 = σ.1 3 := by first | exact w3_τ37.trans W3 | omega
            have W5 : τ37.1 5 = σ.1 5 := by first | exact w5_τ37.trans W5 | omega
            have W6 : τ37.1 6 = σ.1 6 := by first | exact w6_τ37.trans W6 | omega
            have W7 : τ37.1 7 = σ.1 7 := by first | exact w7_τ37.trans W7 | omega
            have W8 : τ37.1 8 = σ.1 8 := by first | exact w8_τ37.trans W8 | omega
            have W9 : τ37.1 9 = σ.1 9 := by first | exact w9_τ37.trans W9 | omega
            have W17 : τ37.1 17 = σ.1 17 := by first | exact w17_τ37.trans W17 | omega
            have W18 : τ37.1 18 = σ.1 18 := by first | exact w18_τ37.trans W18 | omega
            have G6 : τ37.2.1 6 = σ.2.1 6 := (g6_τ37).trans G6
            have y14_22_τ37 : τ37.2.1 14 (τ37.1 22) = (τ_42.2.1 14) (τ_42.1 22) := by rw [g14_τ37, w22_τ37]
            have y15_22_τ37 : τ37.2.1 15 (τ37.1 22) = (τ_42.2.1 15) (τ_42.1 22) := by rw [g15_τ37, w22_τ37]
            have y18_22_τ37 : τ37.2.1 18 (τ37.1 22) = (τ_42.2.1 18) (τ_42.1 22) := by rw [g18_τ37, w22_τ37]
            have y19_22_τ37 : τ37.2.1 19 (τ37.1 22) = (τ_42.2.1 19) (τ_42.1 22) := by rw [g19_τ37, w22_τ37]
            have y21_22_τ37 : τ37.2.1 21 (τ37.1 22) = (τ_42.2.1 21) (τ_42.1 22) := by rw [g21_τ37, w22_τ37]
            have y22_22_τ37 : τ37.2.1 22 (τ37.1 22) = (τ_42.2.1 22) (τ_42.1 22) := by rw [g22_τ37, w22_τ37]
            have y25_22_τ37 : τ37.2.1 25 (τ37.1 22) = (τ_42.2.1 25) (τ_42.1 22) := by rw [g25_τ37, w22_τ37]
            have y26_22_τ37 : τ37.2.1 26 (τ37.1 22) = (τ_42.2.1 26) (τ_42.1 22) := by rw [g26_τ37, w22_τ37]
            have PA : J_pa (τ37.2.1 21) (τ37.2.1 22) := by rw [show (J_pa (τ37.2.1 21) (τ37.2.1 22)) = (J_pa (τ_42.2.1 21) (τ_42.2.1 22)) from by rw [g21_τ37, g22_τ37]]; exact PA
            have SYt : oc (τ37.2.1 6) ≤ (τ37.1 3) := by rw [show (oc (τ37.2.1 6) ≤ (τ37.1 3)) = (oc (τ_42.2.1 6) ≤ (τ_42.1 3)) from by rw [w3_τ37, g6_τ37]]; exact SYt
            have A1 : ∀ j, 0 ≤ τ37.2.1 1 j ∧ τ37.2.1 1 j ≤ 255 := fun j => hT.2 1 j
            have A6 : ∀ j, (-1) ≤ τ37.2.1 6 j ∧ τ37.2.1 6 j ≤ 999 := fun j => hT.2 6 j
            have A7 : ∀ j, (-1) ≤ τ37.2.1 7 j ∧ τ37.2.1 7 j ≤ 1499 := fun j => hT.2 7 j
            have A14 : ∀ j, 0 ≤ τ37.2.1 14 j ∧ τ37.2.1 14 j ≤ 30000 := fun j => hT.2 14 j
            have A15 : ∀ j, 0 ≤ τ37.2.1 15 j ∧ τ37.2.1 15 j ≤ 300 := fun j => hT.2 15 j
            have A18 : ∀ j, 0 ≤ τ37.2.1 18 j ∧ τ37.2.1 18 j ≤ 90000 := fun j => hT.2 18 j
            have A19 : ∀ j, 0 ≤ τ37.2.1 19 j ∧ τ37.2.1 19 j ≤ 60 := fun j => hT.2 19 j
            have A21 : ∀ j, 0 ≤ τ37.2.1 21 j ∧ τ37.2.1 21 j ≤ 20000 := fun j => hT.2 21 j
            have A22 : ∀ j, 0 ≤ τ37.2.1 22 j ∧ τ37.2.1 22 j ≤ 20000 := fun j => hT.2 22 j
            have A25 : ∀ j, 0 ≤ τ37.2.1 25 j ∧ τ37.2.1 25 j ≤ 20000 := fun j => hT.2 25 j
            have A26 : ∀ j, 0 ≤ τ37.2.1 26 j ∧ τ37.2.1 26 j ≤ 20000 := fun j => hT.2 26 j
            have v0 : 0 ≤ τ37.1 0 ∧ τ37.1 0 ≤ 60000 := hT.1 0
            have v2 : 0 ≤ τ37.1 2 ∧ τ37.1 2 ≤ 30000 := hT.1 2
            have v3 : 0 ≤ τ37.1 3 ∧ τ37.1 3 ≤ 1000 := hT.1 3
            have v5 : 0 ≤ τ37.1 5 ∧ τ37.1 5 ≤ 1500 := hT.1 5
            have v6 : 0 ≤ τ37.1 6 ∧ τ37.1 6 ≤ 30000 := hT.1 6
            have v7 : 0 ≤ τ37.1 7 ∧ τ37.1 7 ≤ 90000 := hT.1 7
            have v8 : 0 ≤ τ37.1 8 ∧ τ37.1 8 ≤ 20000 := hT.1 8
            have v9 : 0 ≤ τ37.1 9 ∧ τ37.1 9 ≤ 20000 := hT.1 9
            have v17 : 0 ≤ τ37.1 17 ∧ τ37.1 17 ≤ 60000 := hT.1 17
            have v18 : 0 ≤ τ37.1 18 ∧ τ37.1 18 ≤ 60000 := hT.1 18
            have v20 : 0 ≤ τ37.1 20 ∧ τ37.1 20 ≤ 19 := hT.1 20
            have v22 : 0 ≤ τ37.1 22 ∧ τ37.1 22 ≤ 1499 := hT.1 22
            have a14_22 : 0 ≤ τ37.2.1 14 (τ37.1 22) ∧ τ37.2.1 14 (τ37.1 22) ≤ 30000 := hT.2 14 _
            have a15_22 : 0 ≤ τ37.2.1 15 (τ37.1 22) ∧ τ37.2.1 15 (τ37.1 22) ≤ 300 := hT.2 15 _
            have a18_22 : 0 ≤ τ37.2.1 18 (τ37.1 22) ∧ τ37.2.1 18 (τ37.1 22) ≤ 90000 := hT.2 18 _
            have a19_22 : 0 ≤ τ37.2.1 19 (τ37.1 22) ∧ τ37.2.1 19 (τ37.1 22) ≤ 60 := hT.2 19 _
            have a21_22 : 0 ≤ τ37.2.1 21 (τ37.1 22) ∧ τ37.2.1 21 (τ37.1 22) ≤ 20000 := hT.2 21 _
            have a22_22 : 0 ≤ τ37.2.1 22 (τ37.1 22) ∧ τ37.2.1 22 (τ37.1 22) ≤ 20000 := hT.2 22 _
            have a25_22 : 0 ≤ τ37.2.1 25 (τ37.1 22) ∧ τ37.2.1 25 (τ37.1 22) ≤ 20000 := hT.2 25 _
            have a26_22 : 0 ≤ τ37.2.1 26 (τ37.1 22) ∧ τ37.2.1 26 (τ37.1 22) ≤ 20000 := hT.2 26 _
            exact ⟨hT, (show (τ37.1 20) = 0 → (τ37.1 22) = (σ.1 5) ∧ τ37.2.1 15 (τ37.1 22) = 0 ∧ τ37.2.1 19 (τ37.1 22) = 0 ∧ τ37.2.1 22 (τ37.1 22) = 0 ∧ τ37.2.1 26 (τ37.1 22) = 0 ∧ (σ.1 5) < 1500 from by (first | omega | (simp only [st_s] <;> omega) | assumption | omega | fail)), (show (τ37.1 20) = 0 → τ37.2.1 14 (τ37.1 22) = (σ.1 6) ∧ τ37.2.1 18 (τ37.1 22) = (σ.1 7) ∧ τ37.2.1 21 (τ37.1 22) = (σ.1 8) ∧ τ37.2.1 25 (τ37.1 22) = (σ.1 9) from by (first | omega | (simp only [st_s] <;> omega) | assumption | omega | fail)), (show oc (τ37.2.1 7) ≤ (σ.1 5) + 1 from by (first | omega | (simp only [st_s] <;> omega) | assumption | omega | fail)), (show ¬ (σ.1 20) = 0 → (τ37.1 20) = (σ.1 20) from by (first | omega | (simp only [st_s] <;> omega) | assumption | omega | fail)), (show J_pa (τ37.2.1 21) (τ37.2.1 22) from PA), ag, (show n_rc σ τ37 from by (first | exact i263_16 | exact n_rc_h hf_τ7 rfl rfl | exact ⟨by omega, fun j _ => by (rw [g1_τ34, i42_10])⟩ | exact ⟨by omega, fun j _ => by (rw [g1_τ37, i42_10])⟩ | fail))⟩
      ·
        refine ⟨(show 0 ≤ (τ_42.1 17 + u1_42) ∧ (τ_42.1 17 + u1_42) < 60000 from by (first | omega | (simp only [st_s] <;> omega) | assumption | omega | fail)), ?_⟩
        intro x26 r_x26 e_x26
        have b_x26 : 0 ≤ x26 ∧ x26 ≤ 255 := by rw [e_x26]; exact hT.2 0 _
        refine ⟨_, K_X13_isLabelSign hT, ?_⟩
        intro x28 r_x28 hq
        have q27_1 := hq
        replace q27_1 : 0 ≤ x28 ∧ x28 ≤ 1 := q27_1
        refine ⟨fun c30 => ?_, fun c30 => ?_⟩
        ·
          refine ⟨(⟨by (first | omega | (simp only [st_s] <;> omega) | assumption | omega | fail), by (first | omega | (simp only [st_s] <;> omega) | assumption | omega | fail)⟩ : rg (u1_42 + 1)), ?_⟩
          exact ih_42 _ _ (show (61 - (u1_42 + 1) : Int) < ((m_42 : Nat) : Int) from by ((first | omega | (simp only [st_s] <;> omega) | assumption | omega | fail))) hT ag (show τ_42.1 0 = σ.1 0 from by first | exact W0 | omega) (show τ_42.1 3 = σ.1 3 from by first | exact W3 | omega) (show τ_42.1 5 = σ.1 5 from by first | exact W5 | omega) (show τ_42.1 6 = σ.1 6 from by first | exact W6 | omega) (show τ_42.1 7 = σ.1 7 from by first | exact W7 | omega) (show τ_42.1 8 = σ.1 8 from by first | exact W8 | omega) (show τ_42.1 9 = σ.1 9 from by first | exact W9 | omega) (show τ_42.1 17 = σ.1 17 from by first | exact W17 | omega) (show τ_42.1 18 = σ.1 18 from by first | exact W18 | omega) G6 (show 0 ≤ (u1_42 + 1) from by (first | omega | (simp only [st_s] <;> omega) | assumption | omega | fail)) (show (u1_42 + 1) ≤ 60 from by (first | omega | (simp only [st_s] <;> omega) | assumption | omega | fail)) (show (τ_42.1 20) = (σ.1 20) from by (first | omega | (simp only [st_s] <;> omega) | assumption | omega | fail)) (show oc (τ_42.2.1 7) ≤ (σ.1 5) from by (first | omega | (simp only [st_s] <;> omega) | assumption | omega | fail)) (show (σ.1 5) < 1500 from by (first | omega | (simp only [st_s] <;> omega) | assumption | omega | fail)) (show (σ.1 2) + (σ.1 18) ≤ 30000 from by (first | omega | (simp only [st_s] <;> omega) | assumption | omega | fail)) (show (σ.1 18) ≤ 60 from by (first | omega | (simp only [st_s] <;> omega) | assumption | omega | fail)) (show (τ_42.1 2) = (σ.1 2) from by (first | omega | (simp only [st_s] <;> omega) | assumption | omega | fail)) (show J_pa (τ_42.2.1 21) (τ_42.2.1 22) from PA) (show τ_42.2.1 1 = σ.2.1 1 from by (first | omega | (simp only [st_s] <;> omega) | assumption | omega | fail))
        ·
          refine ⟨_, K_X13_failHere hT (show 0 ≤ (6 : Int) from by (first | omega | (simp only [st_s] <;> omega) | assumption | omega | fail)) (show (6 : Int) ≤ 19 from by (first | omega | (simp only [st_s] <;> omega) | assumption | omega | fail)), ?_⟩
          intro τ34 hn_τ34 hf_τ34 hq
          obtain ⟨hT, q32_1, q32_2⟩ := hq
          replace q32_1 : ¬ (τ_42.1 20) = 0 → (τ34.1 20) = (τ_42.1 20) := q32_1
          replace q32_2 : (τ_42.1 20) = 0 → (τ34.1 20) = (6 : Int) := q32_2
          replace ag : m_ag σ τ34 := ag_r ag hf_τ34 rfl rfl
          have w0_τ34 : τ34.1 0 = τ_42.1 0 := hf_τ34.1 0 (by decide)
          have w2_τ34 : τ34.1 2 = τ_42.1 2 := hf_τ34.1 2 (by decide)
          have w3_τ34 : τ34.1 3 = τ_42.1 3 := hf_τ34.1 3 (by decide)
          have w5_τ34 : τ34.1 5 = τ_42.1 5 := hf_τ34.1 5 (by decide)
          have w6_τ34 : τ34.1 6 = τ_42.1 6 := hf_τ34.1 6 (by decide)
          have w7_τ34 : τ34.1 7 = τ_42.1 7 := hf_τ34.1 7 (by decide)
          have w8_τ34 : τ34.1 8 = τ_42.1 8 := hf_τ34.1 8 (by decide)
          have w9_τ34 : τ34.1 9 = τ_42.1 9 := hf_τ34.1 9 (by decide)
          have w17_τ34 : τ34.1 17 = τ_42.1 17 := hf_τ34.1 17 (by decide)
          have w18_τ34 : τ34.1 18 = τ_42.1 18 := hf_τ34.1 18 (by decide)
          have w22_τ34 : τ34.1 22 = τ_42.1 22 := hf_τ34.1 22 (by decide)
          have g1_τ34 : τ34.2.1 1 = τ_42.2.1 1 := hf_τ34.2.1 1 (by decide)
          have g6_τ34 : τ34.2.1 6 = τ_42.2.1 6 := hf_τ34.2.1 6 (by decide)
          have g7_τ34 : τ34.2.1 7 = τ_42.2.1 7 := hf_τ34.2.1 7 (by decide)
          have g14_τ34 : τ34.2.1 14 = τ_42.2.1 14 := hf_τ34.2.1 14 (by decide)
          have g15_τ34 : τ34.2.1 15 = τ_42.2.1 15 := hf_τ34.2.1 15 (by decide)
          have g18_τ34 : τ34.2.1 18 = τ_42.2.1 18 := hf_τ34.2.1 18 (by decide)
          have g19_τ34 : τ34.2.1 19 = τ_42.2.1 19 := hf_τ34.2.1 19 (by decide)
          have g21_τ34 : τ34.2.1 21 = τ_42.2.1 21 := hf_τ34.2.1 21 (by decide)
          have g22_τ34 : τ34.2.1 22 = τ_42.2.1 22 := hf_τ34.2.1 22 (by decide)
          have g25_τ34 : τ34.2.1 25 = τ_42.2.1 25 := hf_τ34.2.1 25 (by decide)
          have g26_τ34 : τ34.2.1 26 = τ_42.2.1 26 := hf_τ34.2.1 26 (by decide)
          first | (have o6_τ34 := congrArg oc g6_τ34) | skip
          first | (have o7_τ34 := congrArg oc g7_τ34) | skip
          have W0 : τ34.1 0 = σ.1 0 := by first | exact w0_τ34.trans W0 | omega
          have W3 : τ34.1 3 = σ.1 3 := by first | exact w3_τ34.trans W3 | omega
          have W5 : τ34.1 5 = σ.1 5 := by first | exact w5_τ34.trans W5 | omega
          have W6 : τ34.1 6 = σ.1 6 := by first | exact w6_τ34.trans W6 | omega
          have W7 : τ34.1 7 = σ.1 7 := by first | exact w7_τ34.trans W7 | omega
          have W8 : τ34.1 8 = σ.1 8 := by first | exact w8_τ34.trans W8 | omega
          have W9 : τ34.1 9 = σ.1 9 := by first | exact w9_τ34.trans W9 | omega
          have W17 : τ34.1 17 = σ.1 17 := by first | exact w17_τ34.trans W17 | omega
          have W18 : τ34.1 18 = σ.1 18 := by first | exact w18_τ34.trans W18 | omega
          have G6 : τ34.2.1 6 = σ.2.1 6 := (g6_τ34).trans G6
          have y14_22_τ34 : τ34.2.1 14 (τ34.1 22) = (τ_42.2.1 14) (τ_42.1 22) := by rw [g14_τ34, w22_τ34]
          have y15_22_τ34 : τ34.2.1 15 (τ34.1 22) = (τ_42.2.1 15) (τ_42.1 22) := by rw [g15_τ34, w22_τ34]
          have y18_22_τ34 : τ34.2.1 18 (τ34.1 22) = (τ_42.2.1 18) (τ_42.1 22) := by rw [g18_τ34, w22_τ34]
          have y19_22_τ34 : τ34.2.1 19 (τ34.1 22) = (τ_42.2.1 19) (τ_42.1 22) := by rw [g19_τ34, w22_τ34]
          have y21_22_τ34 : τ34.2.1 21 (τ34.1 22) = (τ_42.2.1 21) (τ_42.1 22) := by rw [g21_τ34, w22_τ34]
          have y22_22_τ34 : τ34.2.1 22 (τ34.1 22) = (τ_42.2.1 22) (τ_42.1 22) := by rw [g22_τ34, w22_τ34]
          have y25_22_τ34 : τ34.2.1 25 (τ34.1 22) = (τ_42.2.1 25) (τ_42.1 22) := by rw [g25_τ34, w22_τ34]
          have y26_22_τ34 : τ34.2.1 26 (τ34.1 22) = (τ_42.2.1 26) (τ_42.1 22) := by rw [g26_τ34, w22_τ34]
          have PA : J_pa (τ34.2.1 21) (τ34.2.1 22) := by rw [show (J_pa (τ34.2.1 21) (τ34.2.1 22)) = (J_pa (τ_42.2.1 21) (τ_42.2.1 22)) from by rw [g21_τ34, g22_τ34]]; exact PA
          have SYt : oc (τ34.2.1 6) ≤ (τ34.1 3) := by rw [show (oc (τ34.2.1 6) ≤ (τ34.1 3)) = (oc (τ_42.2.1 6) ≤ (τ_42.1 3)) from by rw [w3_τ34, g6_τ34]]; exact SYt
          have A1 : ∀ j, 0 ≤ τ34.2.1 1 j ∧ τ34.2.1 1 j ≤ 255 := fun j => hT.2 1 j
          have A6 : ∀ j, (-1) ≤ τ34.2.1 6 j ∧ τ34.2.1 6 j ≤ 999 := fun j => hT.2 6 j
          have A7 : ∀ j, (-1) ≤ τ34.2.1 7 j ∧ τ34.2.1 7 j ≤ 1499 := fun j => hT.2 7 j
          have A14 : ∀ j, 0 ≤ τ34.2.1 14 j ∧ τ34.2.1 14 j ≤ 30000 := fun j => hT.2 14 j
          have A15 : ∀ j, 0 ≤ τ34.2.1 15 j ∧ τ34.2.1 15 j ≤ 300 := fun j => hT.2 15 j
          have A18 : ∀ j, 0 ≤ τ34.2.1 18 j ∧ τ34.2.1 18 j ≤ 90000 := fun j => hT.2 18 j
          have A19 : ∀ j, 0 ≤ τ34.2.1 19 j ∧ τ34.2.1 19 j ≤ 60 := fun j => hT.2 19 j
          have A21 : ∀ j, 0 ≤ τ34.2.1 21 j ∧ τ34.2.1 21 j ≤ 20000 := fun j => hT.2 21 j
          have A22 : ∀ j, 0 ≤ τ34.2.1 22 j ∧ τ34.2.1 22 j ≤ 20000 := fun j => hT.2 22 j
          have A25 : ∀ j, 0 ≤ τ34.2.1 25 j ∧ τ34.2.1 25 j ≤ 20000 := fun j => hT.2 25 j
          have A26 : ∀ j, 0 ≤ τ34.2.1 26 j ∧ τ34.2.1 26 j ≤ 20000 := fun j => hT.2 26 j
          have v0 : 0 ≤ τ34.1 0 ∧ τ34.1 0 ≤ 60000 := hT.1 0
          have v2 : 0 ≤ τ34.1 2 ∧ τ34.1 2 ≤ 30000 := hT.1 2
          have v3 : 0 ≤ τ34.1 3 ∧ τ34.1 3 ≤ 1000 := hT.1 3
          have v5 : 0 ≤ τ34.1 5 ∧ τ34.1 5 ≤ 1500 := hT.1 5
          have v6 : 0 ≤ τ34.1 6 ∧ τ34.1 6 ≤ 30000 := hT.1 6
          have v7 : 0 ≤ τ34.1 7 ∧ τ34.1 7 ≤ 90000 := hT.1 7
          have v8 : 0 ≤ τ34.1 8 ∧ τ34.1 8 ≤ 20000 := hT.1 8
          have v9 : 0 ≤ τ34.1 9 ∧ τ34.1 9 ≤ 20000 := hT.1 9
          have v17 : 0 ≤ τ34.1 17 ∧ τ34.1 17 ≤ 60000 := hT.1 17
          have v18 : 0 ≤ τ34.1 18 ∧ τ34.1 18 ≤ 60000 := hT.1 18
          have v20 : 0 ≤ τ34.1 20 ∧ τ34.1 20 ≤ 19 := hT.1 20
          have v22 : 0 ≤ τ34.1 22 ∧ τ34.1 22 ≤ 1499 := hT.1 22
          have a14_22 : 0 ≤ τ34.2.1 14 (τ34.1 22) ∧ τ34.2.1 14 (τ34.1 22) ≤ 30000 := hT.2 14 _
          have a15_22 : 0 ≤ τ34.2.1 15 (τ34.1 22) ∧ τ34.2.1 15 (τ34.1 22) ≤ 300 := hT.2 15 _
          have a18_22 : 0 ≤ τ34.2.1 18 (τ34.1 22) ∧ τ34.2.1 18 (τ34.1 22) ≤ 90000 := hT.2 18 _
          have a19_22 : 0 ≤ τ34.2.1 19 (τ34.1 22) ∧ τ34.2.1 19 (τ34.1 22) ≤ 60 := hT.2 19 _
          have a21_22 : 0 ≤ τ34.2.1 21 (τ34.1 22) ∧ τ34.2.1 21 (τ34.1 22) ≤ 20000 := hT.2 21 _
          have a22_22 : 0 ≤ τ34.2.1 22 (τ34.1 22) ∧ τ34.2.1 22 (τ34.1 22) ≤ 20000 := hT.2 22 _
          have a25_22 : 0 ≤ τ34.2.1 25 (τ34.1 22) ∧ τ34.2.1 25 (τ34.1 22) ≤ 20000 := hT.2 25 _
          have a26_22 : 0 ≤ τ34.2.1 26 (τ34.1 22) ∧ τ34.2.1 26 (τ34.1 22) ≤ 20000 := hT.2 26 _
          exact ⟨hT, (show (τ34.1 20) = 0 → (τ34.1 22) = (σ.1 5) ∧ τ34.2.1 15 (τ34.1 22) = 0 ∧ τ34.2.1 19 (τ34.1 22) = 0 ∧ τ34.2.1 22 (τ34.1 22) = 0 ∧ τ34.2.1 26 (τ34.1 22) = 0 ∧ (σ.1 5) < 1500 from by (first | omega | (simp only [st_s] <;> omega) | assumption | omega | fail)), (show (τ34.1 20) = 0 → τ34.2.1 14 (τ34.1 22) = (σ.1 6) ∧ τ34.2.1 18 (τ34.1 22) = (σ.1 7) ∧ τ34.2.1 21 (τ34.1 22) = (σ.1 8) ∧ τ34.2.1 25 (τ34.1 22) = (σ.1 9) from by (first | omega | (simp only [st_s] <;> omega) | assumption | omega | fail)), (show oc (τ34.2.1 7) ≤ (σ.1 5) + 1 from by (first | omega | (simp only [st_s] <;> omega) | assumption | omega | fail)), (show ¬ (σ.1 20) = 0 → (τ34.1 20) = (σ.1 20) from by (first | omega | (simp only [st_s] <;> omega) | assumption | omega | fail)), (show J_pa (τ34.2.1 21) (τ34.2.1 22) from PA), ag, (show n_rc σ τ34 from by (first | exact i263_16 | exact n_rc_h hf_τ7 rfl rfl | exact ⟨by omega, fun j _ => by (rw [g1_τ34, i42_10])⟩ | exact ⟨by omega, fun j _ => by (rw [g1_τ37, i42_10])⟩ | fail))⟩
  refine ⟨fun c1 => ?_, fun c1 => ?_⟩
  ·
    refine h34 _ ?_
    refine ⟨_, K_X13_failHere hT (show 0 ≤ (5 : Int) from by (first | omega | (simp only [st_s] <;> omega) | assumption | omega | fail)) (show (5 : Int) ≤ 19 from by (first | omega | (simp only [st_s] <;> omega) | assumption | omega | fail)), ?_⟩
    intro τ7 hn_τ7 hf_τ7 hq
    obtain ⟨hT, q5_1, q5_2⟩ := hq
    replace q5_1 : ¬ (σ.1 20) = 0 → (τ7.1 20) = (σ.1 20) := q5_1
    replace q5_2 : (σ.1 20) = 0 → (τ7.1 20) = (5 : Int) := q5_2
    replace ag : m_ag σ τ7 := ag_r ag hf_τ7 rfl rfl
    have w0_τ7 : τ7.1 0 = σ.1 0 := hf_τ7.1 0 (by decide)
    have w2_τ7 : τ7.1 2 = σ.1 2 := hf_τ7.1 2 (by decide)
    have w3_τ7 : τ7.1 3 = σ.1 3 := hf_τ7.1 3 (by decide)
    have w5_τ7 : τ7.1 5 = σ.1 5 := hf_τ7.1 5 (by decide)
    have w6_τ7 : τ7.1 6 = σ.1 6 := hf_τ7.1 6 (by decide)
    have w7_τ7 : τ7.1 7 = σ.1 7 := hf_τ7.1 7 (by decide)
    have w8_τ7 : τ7.1 8 = σ.1 8 := hf_τ7.1 8 (by decide)
    have w9_τ7 : τ7.1 9 = σ.1 9 := hf_τ7.1 9 (by decide)
    have w17_τ7 : τ7.1 17 = σ.1 17 := hf_τ7.1 17 (by decide)
    have w18_τ7 : τ7.1 18 = σ.1 18 := hf_τ7.1 18 (by decide)
    have w22_τ7 : τ7.1 22 = σ.1 22 := hf_τ7.1 22 (by decide)
    have g1_τ7 : τ7.2.1 1 = σ.2.1 1 := hf_τ7.2.1 1 (by decide)
    have g6_τ7 : τ7.2.1 6 = σ.2.1 6 := hf_τ7.2.1 6 (by decide)
    have g7_τ7 : τ7.2.1 7 = σ.2.1 7 := hf_τ7.2.1 7 (by decide)
    have g14_τ7 : τ7.2.1 14 = σ.2.1 14 := hf_τ7.2.1 14 (by decide)
    have g15_τ7 : τ7.2.1 15 = σ.2.1 15 := hf_τ7.2.1 15 (by decide)
    have g18_τ7 : τ7.2.1 18 = σ.2.1 18 := hf_τ7.2.1 18 (by decide)
    have g19_τ7 : τ7.2.1 19 = σ.2.1 19 := hf_τ7.2.1 19 (by decide)
    have g21_τ7 : τ7.2.1 21 = σ.2.1 21 := hf_τ7.2.1 21 (by decide)
    have g22_τ7 : τ7.2.1 22 = σ.2.1 22 := hf_τ7.2.1 22 (by decide)
    have g25_τ7 : τ7.2.1 25 = σ.2.1 25 := hf_τ7.2.1 25 (by decide)
    have g26_τ7 : τ7.2.1 26 = σ.2.1 26 := hf_τ7.2.1 26 (by decide)
    first | (have o6_τ7 := congrArg oc g6_τ7) | skip
    first | (have o7_τ7 := congrArg oc g7_τ7) | skip
    have W0 : τ7.1 0 = σ.1 0 := by first | exact w0_τ7.trans W0 | omega
    have W3 : τ7.1 3 = σ.1 3 := by first | exact w3_τ7.trans W3 | omega
    have W5 : τ7.1 5 = σ.1 5 := by first | exact w5_τ7.trans W5 | omega
    have W6 : τ7.1 6 = σ.1 6 := by first | exact w6_τ7.trans W6 | omega
    have W7 : τ7.1 7 = σ.1 7 := by first | exact w7_τ7.trans W7 | omega
    have W8 : τ7.1 8 = σ.1 8 := by first | exact w8_τ7.trans W8 | omega
    have W9 : τ7.1 9 = σ.1 9 := by first | exact w9_τ7.trans W9 | omega
    have W17 : τ7.1 17 = σ.1 17 := by first | exact w17_τ7.trans W17 | omega
    have W18 : τ7.1 18 = σ.1 18 := by first | exact w18_τ7.trans W18 | omega
    have G6 : τ7.2.1 6 = σ.2.1 6 := (g6_τ7).trans G6
    have y14_22_τ7 : τ7.2.1 14 (τ7.1 22) = (σ.2.1 14) (σ.1 22) := by rw [g14_τ7, w22_τ7]
    have y15_22_τ7 : τ7.2.1 15 (τ7.1 22) = (σ.2.1 15) (σ.1 22) := by rw [g15_τ7, w22_τ7]
    have y18_22_τ7 : τ7.2.1 18 (τ7.1 22) = (σ.2.1 18) (σ.1 22) := by rw [g18_τ7, w22_τ7]
    have y19_22_τ7 : τ7.2.1 19 (τ7.1 22) = (σ.2.1 19) (σ.1 22) := by rw [g19_τ7, w22_τ7]
    have y21_22_τ7 : τ7.2.1 21 (τ7.1 22) = (σ.2.1 21) (σ.1 22) := by rw [g21_τ7, w22_τ7]
    have y22_22_τ7 : τ7.2.1 22 (τ7.1 22) = (σ.2.1 22) (σ.1 22) := by rw [g22_τ7, w22_τ7]
    have y25_22_τ7 : τ7.2.1 25 (τ7.1 22) = (σ.2.1 25) (σ.1 22) := by rw [g25_τ7, w22_τ7]
    have y26_22_τ7 : τ7.2.1 26 (τ7.1 22) = (σ.2.1 26) (σ.1 22) := by rw [g26_τ7, w22_τ7]
    have PA : J_pa (τ7.2.1 21) (τ7.2.1 22) := by rw [show (J_pa (τ7.2.1 21) (τ7.2.1 22)) = (J_pa (σ.2.1 21) (σ.2.1 22)) from by rw [g21_τ7, g22_τ7]]; exact PA
    have SYt : oc (τ7.2.1 6) ≤ (τ7.1 3) := by rw [show (oc (τ7.2.1 6) ≤ (τ7.1 3)) = (oc (σ.2.1 6) ≤ (σ.1 3)) from by rw [w3_τ7, g6_τ7]]; exact SYt
    have LAt : oc (τ7.2.1 7) ≤ (τ7.1 5) := by rw [show (oc (τ7.2.1 7) ≤ (τ7.1 5)) = (oc (σ.2.1 7) ≤ (σ.1 5)) from by rw [w5_τ7, g7_τ7]]; exact LAt
    have A1 : ∀ j, 0 ≤ τ7.2.1 1 j ∧ τ7.2.1 1 j ≤ 255 := fun j => hT.2 1 j
    have A6 : ∀ j, (-1) ≤ τ7.2.1 6 j ∧ τ7.2.1 6 j ≤ 999 := fun j => hT.2 6 j
    have A7 : ∀ j, (-1) ≤ τ7.2.1 7 j ∧ τ7.2.1 7 j ≤ 1499 := fun j => hT.2 7 j
    have A14 : ∀ j, 0 ≤ τ7.2.1 14 j ∧ τ7.2.1 14 j ≤ 30000 := fun j => hT.2 14 j
    have A15 : ∀ j, 0 ≤ τ7.2.1 15 j ∧ τ7.2.1 15 j ≤ 300 := fun j => hT.2 15 j
    have A18 : ∀ j, 0 ≤ τ7.2.1 18 j ∧ τ7.2.1 18 j ≤ 90000 := fun j => hT.2 18 j
    have A19 : ∀ j, 0 ≤ τ7.2.1 19 j ∧ τ7.2.1 19 j ≤ 60 := fun j => hT.2 19 j
    have A21 : ∀ j, 0 ≤ τ7.2.1 21 j ∧ τ7.2.1 21 j ≤ 20000 := fun j => hT.2 21 j
    have A22 : ∀ j, 0 ≤ τ7.2.1 22 j ∧ τ7.2.1 22 j ≤ 20000 := fun j => hT.2 22 j
    have A25 : ∀ j, 0 ≤ τ7.2.1 25 j ∧ τ7.2.1 25 j ≤ 20000 := fun j => hT.2 25 j
    have A26 : ∀ j, 0 ≤ τ7.2.1 26 j ∧ τ7.2.1 26 j ≤ 20000 := fun j => hT.2 26 j
    have v0 : 0 ≤ τ7.1 0 ∧ τ7.1 0 ≤ 60000 := hT.1 0
    have v2 : 0 ≤ τ7.1 2 ∧ τ7.1 2 ≤ 30000 := hT.1 2
    have v3 : 0 ≤ τ7.1 3 ∧ τ7.1 3 ≤ 1000 := hT.1 3
    have v5 : 0 ≤ τ7.1 5 ∧ τ7.1 5 ≤ 1500 := hT.1 5
    have v6 : 0 ≤ τ7.1 6 ∧ τ7.1 6 ≤ 30000 := hT.1 6
    have v7 : 0 ≤ τ7.1 7 ∧ τ7.1 7 ≤ 90000 := hT.1 7
    have v8 : 0 ≤ τ7.1 8 ∧ τ7.1 8 ≤ 20000 := hT.1 8
    have v9 : 0 ≤ τ7.1 9 ∧ τ7.1 9 ≤ 20000 := hT.1 9
    have v17 : 0 ≤ τ7.1 17 ∧ τ7.1 17 ≤ 60000 := hT.1 17
    have v18 : 0 ≤ τ7.1 18 ∧ τ7.1 18 ≤ 60000 := hT.1 18
    have v20 : 0 ≤ τ7.1 20 ∧ τ7.1 20 ≤ 19 := hT.1 20
    have v22 : 0 ≤ τ7.1 22 ∧ τ7.1 22 ≤ 1499 := hT.1 22
    have a14_22 : 0 ≤ τ7.2.1 14 (τ7.1 22) ∧ τ7.2.1 14 (τ7.1 22) ≤ 30000 := hT.2 14 _
    have a15_22 : 0 ≤ τ7.2.1 15 (τ7.1 22) ∧ τ7.2.1 15 (τ7.1 22) ≤ 300 := hT.2 15 _
    have a18_22 : 0 ≤ τ7.2.1 18 (τ7.1 22) ∧ τ7.2.1 18 (τ7.1 22) ≤ 90000 := hT.2 18 _
    have a19_22 : 0 ≤ τ7.2.1 19 (τ7.1 22) ∧ τ7.2.1 19 (τ7.1 22) ≤ 60 := hT.2 19 _
    have a21_22 : 0 ≤ τ7.2.1 21 (τ7.1 22) ∧ τ7.2.1 21 (τ7.1 22) ≤ 20000 := hT.2 21 _
    have a22_22 : 0 ≤ τ7.2.1 22 (τ7.1 22) ∧ τ7.2.1 22 (τ7.1 22) ≤ 20000 := hT.2 22 _
    have a25_22 : 0 ≤ τ7.2.1 25 (τ7.1 22) ∧ τ7.2.1 25 (τ7.1 22) ≤ 20000 := hT.2 25 _
    have a26_22 : 0 ≤ τ7.2.1 26 (τ7.1 22) ∧ τ7.2.1 26 (τ7.1 22) ≤ 20000 := hT.2 26 _
    exact ⟨hT, (show (τ7.1 20) = 0 → (τ7.1 22) = (σ.1 5) ∧ τ7.2.1 15 (τ7.1 22) = 0 ∧ τ7.2.1 19 (τ7.1 22) = 0 ∧ τ7.2.1 22 (τ7.1 22) = 0 ∧ τ7.2.1 26 (τ7.1 22) = 0 ∧ (σ.1 5) < 1500 from by (first | omega | (simp only [st_s] <;> omega) | assumption | omega | fail)), (show (τ7.1 20) = 0 → τ7.2.1 14 (τ7.1 22) = (σ.1 6) ∧ τ7.2.1 18 (τ7.1 22) = (σ.1 7) ∧ τ7.2.1 21 (τ7.1 22) = (σ.1 8) ∧ τ7.2.1 25 (τ7.1 22) = (σ.1 9) from by (first | omega | (simp only [st_s] <;> omega) | assumption | omega | fail)), (show oc (τ7.2.1 7) ≤ (σ.1 5) + 1 from by (first | omega | (simp only [st_s] <;> omega) | assumption | omega | fail)), (show ¬ (σ.1 20) = 0 → (τ7.1 20) = (σ.1 20) from by (first | omega | (simp only [st_s] <;> omega) | assumption | omega | fail)), (show J_pa (τ7.2.1 21) (τ7.2.1 22) from PA), ag, (show n_rc σ τ7 from by (first | exact i263_16 | exact n_rc_h hf_τ7 rfl rfl | exact ⟨by omega, fun j _ => by (rw [g1_τ34, i42_10])⟩ | exact ⟨by omega, fun j _ => by (rw [g1_τ37, i42_10])⟩ | fail))⟩
  ·
    refine ⟨(⟨by (first | omega | (simp only [st_s] <;> omega) | assumption | omega | fail), by (first | omega | (simp only [st_s] <;> omega) | assumption | omega | fail)⟩ : rg (σ.1 2 + σ.1 18)), ?_⟩
    refine ⟨fun c3 => ?_, fun c3 => ?_⟩
    ·
      refine h34 _ ?_
      refine ⟨_, K_X13_failHere hT (show 0 ≤ (5 : Int) from by (first | omega | (simp only [st_s] <;> omega) | assumption | omega | fail)) (show (5 : Int) ≤ 19 from by (first | omega | (simp only [st_s] <;> omega) | assumption | omega | fail)), ?_⟩
      intro τ7 hn_τ7 hf_τ7 hq
      obtain ⟨hT, q5_1, q5_2⟩ := hq
      replace q5_1 : ¬ (σ.1 20) = 0 → (τ7.1 20) = (σ.1 20) := q5_1
      replace q5_2 : (σ.1 20) = 0 → (τ7.1 20) = (5 : Int) := q5_2
      replace ag : m_ag σ τ7 := ag_r ag hf_τ7 rfl rfl
      have w0_τ7 : τ7.1 0 = σ.1 0 := hf_τ7.1 0 (by decide)
      have w2_τ7 : τ7.1 2 = σ.1 2 := hf_τ7.1 2 (by decide)
      have w3_τ7 : τ7.1 3 = σ.1 3 := hf_τ7.1 3 (by decide)
      have w5_τ7 : τ7.1 5 = σ.1 5 := hf_τ7.1 5 (by decide)
      have w6_τ7 : τ7.1 6 = σ.1 6 := hf_τ7.1 6 (by decide)
      have w7_τ7 : τ7.1 7 = σ.1 7 := hf_τ7.1 7 (by decide)
      have w8_τ7 : τ7.1 8 = σ.1 8 := hf_τ7.1 8 (by decide)
      have w9_τ7 : τ7.1 9 = σ.1 9 := hf_τ7.1 9 (by decide)
      have w17_τ7 : τ7.1 17 = σ.1 17 := hf_τ7.1 17 (by decide)
      have w18_τ7 : τ7.1 18 = σ.1 18 := hf_τ7.1 18 (by decide)
      have w22_τ7 : τ7.1 22 = σ.1 22 := hf_τ7.1 22 (by decide)
      have g1_τ7 : τ7.2.1 1 = σ.2.1 1 := hf_τ7.2.1 1 (by decide)
      have g6_τ7 : τ7.2.1 6 = σ.2.1 6 := hf_τ7.2.1 6 (by decide)
      have g7_τ7 : τ7.2.1 7 = σ.2.1 7 := hf_τ7.2.1 7 (by decide)
      have g14_τ7 : τ7.2.1 14 = σ.2.1 14 := hf_τ7.2.1 14 (by decide)
      have g15_τ7 : τ7.2.1 15 = σ.2.1 15 := hf_τ7.2.1 15 (by decide)
      have g18_τ7 : τ7.2.1 18 = σ.2.1 18 := hf_τ7.2.1 18 (by decide)
      have g19_τ7 : τ7.2.1 19 = σ.2.1 19 := hf_τ7.2.1 19 (by decide)
      have g21_τ7 : τ7.2.1 21 = σ.2.1 21 := hf_τ7.2.1 21 (by decide)
      have g22_τ7 : τ7.2.1 22 = σ.2.1 22 := hf_τ7.2.1 22 (by decide)
      have g25_τ7 : τ7.2.1 25 = σ.2.1 25 := hf_τ7.2.1 25 (by decide)
      have g26_τ7 : τ7.2.1 26 = σ.2.1 26 := hf_τ7.2.1 26 (by decide)
      first | (have o6_τ7 := congrArg oc g6_τ7) | skip
      first | (have o7_τ7 := congrArg oc g7_τ7) | skip
      have W0 : τ7.1 0 = σ.1 0 := by first | exact w0_τ7.trans W0 | omega
      have W3 : τ7.1 3 = σ.1 3 := by first | exact w3_τ7.trans W3 | omega
      have W5 : τ7.1 5 = σ.1 5 := by first | exact w5_τ7.trans W5 | omega
      have W6 : τ7.1 6 = σ.1 6 := by first | exact w6_τ7.trans W6 | omega
      have W7 : τ7.1 7 = σ.1 7 := by first | exact w7_τ7.trans W7 | omega
      have W8 : τ7.1 8 = σ.1 8 := by first | exact w8_τ7.trans W8 | omega
      have W9 : τ7.1 9 = σ.1 9 := by first | exact w9_τ7.trans W9 | omega
      have W17 : τ7.1 17 = σ.1 17 := by first | exact w17_τ7.trans W17 | omega
      have W18 : τ7.1 18 = σ.1 18 := by first | exact w18_τ7.trans W18 | omega
      have G6 : τ7.2.1 6 = σ.2.1 6 := (g6_τ7).trans G6
      have y14_22_τ7 : τ7.2.1 14 (τ7.1 22) = (σ.2.1 14) (σ.1 22) := by rw [g14_τ7, w22_τ7]
      have y15_22_τ7 : τ7.2.1 15 (τ7.1 22) = (σ.2.1 15) (σ.1 22) := by rw [g15_τ7, w22_τ7]
      have y18_22_τ7 : τ7.2.1 18 (τ7.1 22) = (σ.2.1 18) (σ.1 22) := by rw [g18_τ7, w22_τ7]
      have y19_22_τ7 : τ7.2.1 19 (τ7.1 22) = (σ.2.1 19) (σ.1 22) := by rw [g19_τ7, w22_τ7]
      have y21_22_τ7 : τ7.2.1 21 (τ7.1 22) = (σ.2.1 21) (σ.1 22) := by rw [g21_τ7, w22_τ7]
      have y22_22_τ7 : τ7.2.1 22 (τ7.1 22) = (σ.2.1 22) (σ.1 22) := by rw [g22_τ7, w22_τ7]
      have y25_22_τ7 : τ7.2.1 25 (τ7.1 22) = (σ.2.1 25) (σ.1 22) := by rw [g25_τ7, w22_τ7]
      have y26_22_τ7 : τ7.2.1 26 (τ7.1 22) = (σ.2.1 26) (σ.1 22) := by rw [g26_τ7, w22_τ7]
      have PA : J_pa (τ7.2.1 21) (τ7.2.1 22) := by rw [show (J_pa (τ7.2.1 21) (τ7.2.1 22)) = (J_pa (σ.2.1 21) (σ.2.1 22)) from by rw [g21_τ7, g22_τ7]]; exact PA
      have SYt : oc (τ7.2.1 6) ≤ (τ7.1 3) := by rw [show (oc (τ7.2.1 6) ≤ (τ7.1 3)) = (oc (σ.2.1 6) ≤ (σ.1 3)) from by rw [w3_τ7, g6_τ7]]; exact SYt
      have LAt : oc (τ7.2.1 7) ≤ (τ7.1 5) := by rw [show (oc (τ7.2.1 7) ≤ (τ7.1 5)) = (oc (σ.2.1 7) ≤ (σ.1 5)) from by rw [w5_τ7, g7_τ7]]; exact LAt
      have A1 : ∀ j, 0 ≤ τ7.2.1 1 j ∧ τ7.2.1 1 j ≤ 255 := fun j => hT.2 1 j
      have A6 : ∀ j, (-1) ≤ τ7.2.1 6 j ∧ τ7.2.1 6 j ≤ 999 := fun j => hT.2 6 j
      have A7 : ∀ j, (-1) ≤ τ7.2.1 7 j ∧ τ7.2.1 7 j ≤ 1499 := fun j => hT.2 7 j
      have A14 : ∀ j, 0 ≤ τ7.2.1 14 j ∧ τ7.2.1 14 j ≤ 30000 := fun j => hT.2 14 j
      have A15 : ∀ j, 0 ≤ τ7.2.1 15 j ∧ τ7.2.1 15 j ≤ 300 := fun j => hT.2 15 j
      have A18 : ∀ j, 0 ≤ τ7.2.1 18 j ∧ τ7.2.1 18 j ≤ 90000 := fun j => hT.2 18 j
      have A19 : ∀ j, 0 ≤ τ7.2.1 19 j ∧ τ7.2.1 19 j ≤ 60 := fun j => hT.2 19 j
      have A21 : ∀ j, 0 ≤ τ7.2.1 21 j ∧ τ7.2.1 21 j ≤ 20000 := fun j => hT.2 21 j
      have A22 : ∀ j, 0 ≤ τ7.2.1 22 j ∧ τ7.2.1 22 j ≤ 20000 := fun j => hT.2 22 j
      have A25 : ∀ j, 0 ≤ τ7.2.1 25 j ∧ τ7.2.1 25 j ≤ 20000 := fun j => hT.2 25 j
      have A26 : ∀ j, 0 ≤ τ7.2.1 26 j ∧ τ7.2.1 26 j ≤ 20000 := fun j => hT.2 26 j
      have v0 : 0 ≤ τ7.1 0 ∧ τ7.1 0 ≤ 60000 := hT.1 0
      have v2 : 0 ≤ τ7.1 2 ∧ τ7.1 2 ≤ 30000 := hT.1 2
      have v3 : 0 ≤ τ7.1 3 ∧ τ7.1 3 ≤ 1000 := hT.1 3
      have v5 : 0 ≤ τ7.1 5 ∧ τ7.1 5 ≤ 1500 := hT.1 5
      have v6 : 0 ≤ τ7.1 6 ∧ τ7.1 6 ≤ 30000 := hT.1 6
      have v7 : 0 ≤ τ7.1 7 ∧ τ7.1 7 ≤ 90000 := hT.1 7
      have v8 : 0 ≤ τ7.1 8 ∧ τ7.1 8 ≤ 20000 := hT.1 8
      have v9 : 0 ≤ τ7.1 9 ∧ τ7.1 9 ≤ 20000 := hT.1 9
      have v17 : 0 ≤ τ7.1 17 ∧ τ7.1 17 ≤ 60000 := hT.1 17
      have v18 : 0 ≤ τ7.1 18 ∧ τ7.1 18 ≤ 60000 := hT.1 18
      have v20 : 0 ≤ τ7.1 20 ∧ τ7.1 20 ≤ 19 := hT.1 20
      have v22 : 0 ≤ τ7.1 22 ∧ τ7.1 22 ≤ 1499 := hT.1 22
      have a14_22 : 0 ≤ τ7.2.1 14 (τ7.1 22) ∧ τ7.2.1 14 (τ7.1 22) ≤ 30000 := hT.2 14 _
      have a15_22 : 0 ≤ τ7.2.1 15 (τ7.1 22) ∧ τ7.2.1 15 (τ7.1 22) ≤ 300 := hT.2 15 _
      have a18_22 : 0 ≤ τ7.2.1 18 (τ7.1 22) ∧ τ7.2.1 18 (τ7.1 22) ≤ 90000 := hT.2 18 _
      have a19_22 : 0 ≤ τ7.2.1 19 (τ7.1 22) ∧ τ7.2.1 19 (τ7.1 22) ≤ 60 := hT.2 19 _
      have a21_22 : 0 ≤ τ7.2.1 21 (τ7.1 22) ∧ τ7.2.1 21 (τ7.1 22) ≤ 20000 := hT.2 21 _
      have a22_22 : 0 ≤ τ7.2.1 22 (τ7.1 22) ∧ τ7.2.1 22 (τ7.1 22) ≤ 20000 := hT.2 22 _
      have a25_22 : 0 ≤ τ7.2.1 25 (τ7.1 22) ∧ τ7.2.1 25 (τ7.1 22) ≤ 20000 := hT.2 25 _
      have a26_22 : 0 ≤ τ7.2.1 26 (τ7.1 22) ∧ τ7.2.1 26 (τ7.1 22) ≤ 20000 := hT.2 26 _
      exact ⟨hT, (show (τ7.1 20) = 0 → (τ7.1 22) = (σ.1 5) ∧ τ7.2.1 15 (τ7.1 22) = 0 ∧ τ7.2.1 19 (τ7.1 22) = 0 ∧ τ7.2.1 22 (τ7.1 22) = 0 ∧ τ7.2.1 26 (τ7.1 22) = 0 ∧ (σ.1 5) < 1500 from by (first | omega | (simp only [st_s] <;> omega) | assumption | omega | fail)), (show (τ7.1 20) = 0 → τ7.2.1 14 (τ7.1 22) = (σ.1 6) ∧ τ7.2.1 18 (τ7.1 22) = (σ.1 7) ∧ τ7.2.1 21 (τ7.1 22) = (σ.1 8) ∧ τ7.2.1 25 (τ7.1 22) = (σ.1 9) from by (first | omega | (simp only [st_s] <;> omega) | assumption | omega | fail)), (show oc (τ7.2.1 7) ≤ (σ.1 5) + 1 from by (first | omega | (simp only [st_s] <;> omega) | assumption | omega | fail)), (show ¬ (σ.1 20) = 0 → (τ7.1 20) = (σ.1 20) from by (first | omega | (simp only [st_s] <;> omega) | assumption | omega | fail)), (show J_pa (τ7.2.1 21) (τ7.2.1 22) from PA), ag, (show n_rc σ τ7 from by (first | exact i263_16 | exact n_rc_h hf_τ7 rfl rfl | exact ⟨by omega, fun j _ => by (rw [g1_τ34, i42_10])⟩ | exact ⟨by omega, fun j _ => by (rw [g1_τ37, i42_10])⟩ | fail))⟩
    ·
      refine ⟨fun c4 => ?_, fun c4 => ?_⟩
      ·
        exact l_42 ((61 - 0 : Int).toNat + 1) _ _ (show (61 - 0 : Int) < (((61 - 0 : Int).toNat + 1 : Nat) : Int) from by ((first | omega | (simp only [st_s] <;> omega) | assumption | omega | fail))) hT ag (show σ.1 0 = σ.1 0 from by first | exact W0 | omega) (show σ.1 3 = σ.1 3 from by first | exact W3 | omega) (show σ.1 5 = σ.1 5 from by first | exact W5 | omega) (show σ.1 6 = σ.1 6 from by first | exact W6 | omega) (show σ.1 7 = σ.1 7 from by first | exact W7 | omega) (show σ.1 8 = σ.1 8 from by first | exact W8 | omega) (show σ.1 9 = σ.1 9 from by first | exact W9 | omega) (show σ.1 17 = σ.1 17 from by first | exact W17 | omega) (show σ.1 18 = σ.1 18 from by first | exact W18 | omega) G6 (show 0 ≤ 0 from by (first | omega | (simp only [st_s] <;> omega) | assumption | omega | fail)) (show 0 ≤ 60 from by (first | omega | (simp only [st_s] <;> omega) | assumption | omega | fail)) (show (σ.1 20) = (σ.1 20) from by (first | omega | (simp only [st_s] <;> omega) | assumption | omega | fail)) (show oc (σ.2.1 7) ≤ (σ.1 5) from LAt) (show (σ.1 5) < 1500 from by (first | omega | (simp only [st_s] <;> omega) | assumption | omega | fail)) (show (σ.1 2) + (σ.1 18) ≤ 30000 from by (first | omega | (simp only [st_s] <;> omega) | assumption | omega | fail)) (show (σ.1 18) ≤ 60 from by (first | omega | (simp only [st_s] <;> omega) | assumption | omega | fail)) (show (σ.1 2) = (σ.1 2) from by (first | omega | (simp only [st_s] <;> omega) | assumption | omega | fail)) (show J_pa (σ.2.1 21) (σ.2.1 22) from PA) (show σ.2.1 1 = σ.2.1 1 from by (first | omega | (simp only [st_s] <;> omega) | assumption | omega | fail))
      ·
        refine h34 _ ?_
        refine ⟨_, K_X13_failHere hT (show 0 ≤ (5 : Int) from by (first | omega | (simp only [st_s] <;> omega) | assumption | omega | fail)) (show (5 : Int) ≤ 19 from by (first | omega | (simp only [st_s] <;> omega) | assumption | omega | fail)), ?_⟩
        intro τ7 hn_τ7 hf_τ7 hq
        obtain ⟨hT, q5_1, q5_2⟩ := hq
        replace q5_1 : ¬ (σ.1 20) = 0 → (τ7.1 20) = (σ.1 20) := q5_1
        replace q5_2 : (σ.1 20) = 0 → (τ7.1 20) = (5 : Int) := q5_2
        replace ag : m_ag σ τ7 := ag_r ag hf_τ7 rfl rfl
        have w0_τ7 : τ7.1 0 = σ.1 0 := hf_τ7.1 0 (by decide)
        have w2_τ7 : τ7.1 2 = σ.1 2 := hf_τ7.1 2 (by decide)
        have w3_τ7 : τ7.1 3 = σ.1 3 := hf_τ7.1 3 (by decide)
        have w5_τ7 : τ7.1 5 = σ.1 5 := hf_τ7.1 5 (by decide)
        have w6_τ7 : τ7.1 6 = σ.1 6 := hf_τ7.1 6 (by decide)
        have w7_τ7 : τ7.1 7 = σ.1 7 := hf_τ7.1 7 (by decide)
        have w8_τ7 : τ7.1 8 = σ.1 8 := hf_τ7.1 8 (by decide)
        have w9_τ7 : τ7.1 9 = σ.1 9 := hf_τ7.1 9 (by decide)
        have w17_τ7 : τ7.1 17 = σ.1 17 := hf_τ7.1 17 (by decide)
        have w18_τ7 : τ7.1 18 = σ.1 18 := hf_τ7.1 18 (by decide)
        have w22_τ7 : τ7.1 22 = σ.1 22 := hf_τ7.1 22 (by decide)
        have g1_τ7 : τ7.2.1 1 = σ.2.1 1 := hf_τ7.2.1 1 (by decide)
        have g6_τ7 : τ7.2.1 6 = σ.2.1 6 := hf_τ7.2.1 6 (by decide)
        have g7_τ7 : τ7.2.1 7 = σ.2.1 7 := hf_τ7.2.1 7 (by decide)
        have g14_τ7 : τ7.2.1 14 = σ.2.1 14 := hf_τ7.2.1 14 (by decide)
        have g15_τ7 : τ7.2.1 15 = σ.2.1 15 := hf_τ7.2.1 15 (by decide)
        have g18_τ7 : τ7.2.1 18 = σ.2.1 18 := hf_τ7.2.1 18 (by decide)
        have g19_τ7 : τ7.2.1 19 = σ.2.1 19 := hf_τ7.2.1 19 (by decide)
        have g21_τ7 : τ7.2.1 21 = σ.2.1 21 := hf_τ7.2.1 21 (by decide)
        have g22_τ7 : τ7.2.1 22 = σ.2.1 22 := hf_τ7.2.1 22 (by decide)
        have g25_τ7 : τ7.2.1 25 = σ.2.1 25 := hf_τ7.2.1 25 (by decide)
        have g26_τ7 : τ7.2.1 26 = σ.2.1 26 := hf_τ7.2.1 26 (by decide)
        first | (have o6_τ7 := congrArg oc g6_τ7) | skip
        first | (have o7_τ7 := congrArg oc g7_τ7) | skip
        have W0 : τ7.1 0 = σ.1 0 := by first | exact w0_τ7.trans W0 | omega
        have W3 : τ7.1 3 = σ.1 3 := by first | exact w3_τ7.trans W3 | omega
        have W5 : τ7.1 5 = σ.1 5 := by first | exact w5_τ7.trans W5 | omega
        have W6 : τ7.1 6 = σ.1 6 := by first | exact w6_τ7.trans W6 | omega
        have W7 : τ7.1 7 = σ.1 7 := by first | exact w7_τ7.trans W7 | omega
        have W8 : τ7.1 8 = σ.1 8 := by first | exact w8_τ7.trans W8 | omega
        have W9 : τ7.1 9 = σ.1 9 := by first | exact w9_τ7.trans W9 | omega
        have W17 : τ7.1 17 = σ.1 17 := by first | exact w17_τ7.trans W17 | omega
        have W18 : τ7.1 18 = σ.1 18 := by first | exact w18_τ7.trans W18 | omega
        have G6 : τ7.2.1 6 = σ.2.1 6 := (g6_τ7).trans G6
        have y14_22_τ7 : τ7.2.1 14 (τ7.1 22) = (σ.2.1 14) (σ.1 22) := by rw [g14_τ7, w22_τ7]
        have y15_22_τ7 : τ7.2.1 15 (τ7.1 22) = (σ.2.1 15) (σ.1 22) := by rw [g15_τ7, w22_τ7]
        have y18_22_τ7 : τ7.2.1 18 (τ7.1 22) = (σ.2.1 18) (σ.1 22) := by rw [g18_τ7, w22_τ7]
        have y19_22_τ7 : τ7.2.1 19 (τ7.1 22) = (σ.2.1 19) (σ.1 22) := by rw [g19_τ7, w22_τ7]
        have y21_22_τ7 : τ7.2.1 21 (τ7.1 22) = (σ.2.1 21) (σ.1 22) := by rw [g21_τ7, w22_τ7]
        have y22_22_τ7 : τ7.2.1 22 (τ7.1 22) = (σ.2.1 22) (σ.1 22) := by rw [g22_τ7, w22_τ7]
        have y25_22_τ7 : τ7.2.1 25 (τ7.1 22) = (σ.2.1 25) (σ.1 22) := by rw [g25_τ7, w22_τ7]
        have y26_22_τ7 : τ7.2.1 26 (τ7.1 22) = (σ.2.1 26) (σ.1 22) := by rw [g26_τ7, w22_τ7]
        have PA : J_pa (τ7.2.1 21) (τ7.2.1 22) := by rw [show (J_pa (τ7.2.1 21) (τ7.2.1 22)) = (J_pa (σ.2.1 21) (σ.2.1 22)) from by rw [g21_τ7, g22_τ7]]; exact PA
        have SYt : oc (τ7.2.1 6) ≤ (τ7.1 3) := by rw [show (oc (τ7.2.1 6) ≤ (τ7.1 3)) = (oc (σ.2.1 6) ≤ (σ.1 3)) from by rw [w3_τ7, g6_τ7]]; exact SYt
        have LAt : oc (τ7.2.1 7) ≤ (τ7.1 5) := by rw [show (oc (τ7.2.1 7) ≤ (τ7.1 5)) = (oc (σ.2.1 7) ≤ (σ.1 5)) from by rw [w5_τ7, g7_τ7]]; exact LAt
        have A1 : ∀ j, 0 ≤ τ7.2.1 1 j ∧ τ7.2.1 1 j ≤ 255 := fun j => hT.2 1 j
        have A6 : ∀ j, (-1) ≤ τ7.2.1 6 j ∧ τ7.2.1 6 j ≤ 999 := fun j => hT.2 6 j
        have A7 : ∀ j, (-1) ≤ τ7.2.1 7 j ∧ τ7.2.1 7 j ≤ 1499 := fun j => hT.2 7 j
        have A14 : ∀ j, 0 ≤ τ7.2.1 14 j ∧ τ7.2.1 14 j ≤ 30000 := fun j => hT.2 14 j
        have A15 : ∀ j, 0 ≤ τ7.2.1 15 j ∧ τ7.2.1 15 j ≤ 300 := fun j => hT.2 15 j
        have A18 : ∀ j, 0 ≤ τ7.2.1 18 j ∧ τ7.2.1 18 j ≤ 90000 := fun j => hT.2 18 j
        have A19 : ∀ j, 0 ≤ τ7.2.1 19 j ∧ τ7.2.1 19 j ≤ 60 := fun j => hT.2 19 j
        have A21 : ∀ j, 0 ≤ τ7.2.1 21 j ∧ τ7.2.1 21 j ≤ 20000 := fun j => hT.2 21 j
        have A22 : ∀ j, 0 ≤ τ7.2.1 22 j ∧ τ7.2.1 22 j ≤ 20000 := fun j => hT.2 22 j
        have A25 : ∀ j, 0 ≤ τ7.2.1 25 j ∧ τ7.2.1 25 j ≤ 20000 := fun j => hT.2 25 j
        have A26 : ∀ j, 0 ≤ τ7.2.1 26 j ∧ τ7.2.1 26 j ≤ 20000 := fun j => hT.2 26 j
        have v0 : 0 ≤ τ7.1 0 ∧ τ7.1 0 ≤ 60000 := hT.1 0
        have v2 : 0 ≤ τ7.1 2 ∧ τ7.1 2 ≤ 30000 := hT.1 2
        have v3 : 0 ≤ τ7.1 3 ∧ τ7.1 3 ≤ 1000 := hT.1 3
        have v5 : 0 ≤ τ7.1 5 ∧ τ7.1 5 ≤ 1500 := hT.1 5
        have v6 : 0 ≤ τ7.1 6 ∧ τ7.1 6 ≤ 30000 := hT.1 6
        have v7 : 0 ≤ τ7.1 7 ∧ τ7.1 7 ≤ 90000 := hT.1 7
        have v8 : 0 ≤ τ7.1 8 ∧ τ7.1 8 ≤ 20000 := hT.1 8
        have v9 : 0 ≤ τ7.1 9 ∧ τ7.1 9 ≤ 20000 := hT.1 9
        have v17 : 0 ≤ τ7.1 17 ∧ τ7.1 17 ≤ 60000 := hT.1 17
        have v18 : 0 ≤ τ7.1 18 ∧ τ7.1 18 ≤ 60000 := hT.1 18
        have v20 : 0 ≤ τ7.1 20 ∧ τ7.1 20 ≤ 19 := hT.1 20
        have v22 : 0 ≤ τ7.1 22 ∧ τ7.1 22 ≤ 1499 := hT.1 22
        have a14_22 : 0 ≤ τ7.2.1 14 (τ7.1 22) ∧ τ7.2.1 14 (τ7.1 22) ≤ 30000 := hT.2 14 _
        have a15_22 : 0 ≤ τ7.2.1 15 (τ7.1 22) ∧ τ7.2.1 15 (τ7.1 22) ≤ 300 := hT.2 15 _
        have a18_22 : 0 ≤ τ7.2.1 18 (τ7.1 22) ∧ τ7.2.1 18 (τ7.1 22) ≤ 90000 := hT.2 18 _
        have a19_22 : 0 ≤ τ7.2.1 19 (τ7.1 22) ∧ τ7.2.1 19 (τ7.1 22) ≤ 60 := hT.2 19 _
        have a21_22 : 0 ≤ τ7.2.1 21 (τ7.1 22) ∧ τ7.2.1 21 (τ7.1 22) ≤ 20000 := hT.2 21 _
        have a22_22 : 0 ≤ τ7.2.1 22 (τ7.1 22) ∧ τ7.2.1 22 (τ7.1 22) ≤ 20000 := hT.2 22 _
        have a25_22 : 0 ≤ τ7.2.1 25 (τ7.1 22) ∧ τ7.2.1 25 (τ7.1 22) ≤ 20000 := hT.2 25 _
        have a26_22 : 0 ≤ τ7.2.1 26 (τ7.1 22) ∧ τ7.2.1 26 (τ7.1 22) ≤ 20000 := hT.2 26 _
        exact ⟨hT, (show (τ7.1 20) = 0 → (τ7.1 22) = (σ.1 5) ∧ τ7.2.1 15 (τ7.1 22) = 0 ∧ τ7.2.1 19 (τ7.1 22) = 0 ∧ τ7.2.1 22 (τ7.1 22) = 0 ∧ τ7.2.1 26 (τ7.1 22) = 0 ∧ (σ.1 5) < 1500 from by (first | omega | (simp only [st_s] <;> omega) | assumption | omega | fail)), (show (τ7.1 20) = 0 → τ7.2.1 14 (τ7.1 22) = (σ.1 6) ∧ τ7.2.1 18 (τ7.1 22) = (σ.1 7) ∧ τ7.2.1 21 (τ7.1 22) = (σ.1 8) ∧ τ7.2.1 25 (τ7.1 22) = (σ.1 9) from by (first | omega | (simp only [st_s] <;> omega) | assumption | omega | fail)), (show oc (τ7.2.1 7) ≤ (σ.1 5) + 1 from by (first | omega | (simp only [st_s] <;> omega) | assumption | omega | fail)), (show ¬ (σ.1 20) = 0 → (τ7.1 20) = (σ.1 20) from by (first | omega | (simp only [st_s] <;> omega) | assumption | omega | fail)), (show J_pa (τ7.2.1 21) (τ7.2.1 22) from PA), ag, (show n_rc σ τ7 from by (first | exact i263_16 | exact n_rc_h hf_τ7 rfl rfl | exact ⟨by omega, fun j _ => by (rw [g1_τ34, i42_10])⟩ | exact ⟨by omega, fun j _ => by (rw [g1_τ37, i42_10])⟩ | fail))⟩
set_option maxHeartbeats 4000000 in
theorem K3_X13_readLabelled {σ : S0} (hT : m_T σ) (p1 : (σ.1 16) ≤ (σ.1 0)) (p2 : (σ.1 17) + (σ.1 18) ≤ (σ.1 0)) (p3 : oc (σ.2.1 6) < 4096) (p4 : oc (σ.2.1 7) < 4096) (p5 : oc (σ.2.1 6) ≤ (σ.1 3)) (p6 : oc (σ.2.1 7) ≤ (σ.1 5)) (p7 : ca (σ.2.1 12) ((σ.1 3)) ≤ (σ.1 4)) (p8 : J_pa (σ.2.1 21) (σ.2.1 22)) (p9 : (σ.1 7) ≤ 60 * (σ.1 5)) (p10 : (σ.1 13) ≤ (σ.1 5)) (p11 : j_l2 (σ.2.1 6) (σ.1 3)) (p12 : n_S σ) (p13 : n_J σ) (p14 : m_J σ) : W_X13_readLabelled σ (fun (τ : S0) => (m_T τ) ∧ ((τ.1 16) ≤ (τ.1 0)) ∧ ((τ.1 17) + (τ.1 18) ≤ (τ.1 0)) ∧ (¬ (σ.1 20) = 0 → (τ.1 20) = (σ.1 20)) ∧ (ca (τ.2.1 12) ((τ.1 3)) ≤ (τ.1 4)) ∧ (J_pa (τ.2.1 21) (τ.2.1 22)) ∧ ((τ.1 13) ≤ (τ.1 5)) ∧ (oc (τ.2.1 7) ≤ (σ.1 5) + 1) ∧ ((τ.1 5) ≤ (σ.1 5) + 1) ∧ ((τ.1 20) = 0 → (τ.1 7) ≤ 60 * (τ.1 5)) ∧ ((τ.1 20) = 0 → (τ.1 5) = (σ.1 5) + 1) ∧ (j_eq ((σ.1 9)) (σ.2.1 28) (τ.2.1 28)) ∧ ((τ.1 20) = 0 → m_J σ → m_J τ) ∧ ((σ.1 16) ≤ (τ.1 16)) ∧ (m_ag σ τ) ∧ ((τ.1 20) = 0 → n_J τ ∧ n_S τ) ∧ (n_rl σ τ) ∧ (n_hk σ τ) ∧ (n_rc σ τ)) := by
  have A1 : ∀ j, 0 ≤ σ.2.1 1 j ∧ σ.2.1 1 j ≤ 255 := fun j => hT.2 1 j
  have A6 : ∀ j, (-1) ≤ σ.2.1 6 j ∧ σ.2.1 6 j ≤ 999 := fun j => hT.2 6 j
  have A7 : ∀ j, (-1) ≤ σ.2.1 7 j ∧ σ.2.1 7 j ≤ 1499 := fun j => hT.2 7 j
  have A8 : ∀ j, 0 ≤ σ.2.1 8 j ∧ σ.2.1 8 j ≤ 1 := fun j => hT.2 8 j
  have A10 : ∀ j, (-1) ≤ σ.2.1 10 j ∧ σ.2.1 10 j ≤ 999 := fun j => hT.2 10 j
  have A11 : ∀ j, (-1) ≤ σ.2.1 11 j ∧ σ.2.1 11 j ≤ 1499 := fun j => hT.2 11 j
  have A12 : ∀ j, 0 ≤ σ.2.1 12 j ∧ σ.2.1 12 j ≤ 1 := fun j => hT.2 12 j
  have A13 : ∀ j, 0 ≤ σ.2.1 13 j ∧ σ.2.1 13 j ≤ 4 := fun j => hT.2 13 j
  have A14 : ∀ j, 0 ≤ σ.2.1 14 j ∧ σ.2.1 14 j ≤ 30000 := fun j => hT.2 14 j
  have A15 : ∀ j, 0 ≤ σ.2.1 15 j ∧ σ.2.1 15 j ≤ 300 := fun j => hT.2 15 j
  have A16 : ∀ j, 0 ≤ σ.2.1 16 j ∧ σ.2.1 16 j ≤ 999 := fun j => hT.2 16 j
  have A17 : ∀ j, (-1) ≤ σ.2.1 17 j ∧ σ.2.1 17 j ≤ 1499 := fun j => hT.2 17 j
  have A18 : ∀ j, 0 ≤ σ.2.1 18 j ∧ σ.2.1 18 j ≤ 90000 := fun j => hT.2 18 j
  have A19 : ∀ j, 0 ≤ σ.2.1 19 j ∧ σ.2.1 19 j ≤ 60 := fun j => hT.2 19 j
  have A20 : ∀ j, 0 ≤ σ.2.1 20 j ∧ σ.2.1 20 j ≤ 1499 := fun j => hT.2 20 j
  have A21 : ∀ j, 0 ≤ σ.2.1 21 j ∧ σ.2.1 21 j ≤ 20000 := fun j => hT.2 21 j
  have A22 : ∀ j, 0 ≤ σ.2.1 22 j ∧ σ.2.1 22 j ≤ 20000 := fun j => hT.2 22 j
  have A25 : ∀ j, 0 ≤ σ.2.1 25 j ∧ σ.2.1 25 j ≤ 20000 := fun j => hT.2 25 j
  have A26 : ∀ j, 0 ≤ σ.2.1 26 j ∧ σ.2.1 26 j ≤ 20000 := fun j => hT.2 26 j
  have A27 : ∀ j, (-300) ≤ σ.2.1 27 j ∧ σ.2.1 27 j ≤ 1499 := fun j => hT.2 27 j
  have A28 : ∀ j, 0 ≤ σ.2.1 28 j ∧ σ.2.1 28 j ≤ 1 := fun j => hT.2 28 j
  have A31 : ∀ j, 0 ≤ σ.2.1 31 j ∧ σ.2.1 31 j ≤ 1499 := fun j => hT.2 31 j
  have A35 : ∀ j, 0 ≤ σ.2.1 35 j ∧ σ.2.1 35 j ≤ 1500 := fun j => hT.2 35 j
  have v0 : 0 ≤ σ.1 0 ∧ σ.1 0 ≤ 60000 := hT.1 0
  have v2 : 0 ≤ σ.1 2 ∧ σ.1 2 ≤ 30000 := hT.1 2
  have v3 : 0 ≤ σ.1 3 ∧ σ.1 3 ≤ 1000 := hT.1 3
  have v4 : 0 ≤ σ.1 4 ∧ σ.1 4 ≤ 100 := hT.1 4
  have v5 : 0 ≤ σ.1 5 ∧ σ.1 5 ≤ 1500 := hT.1 5
  have v6 : 0 ≤ σ.1 6 ∧ σ.1 6 ≤ 30000 := hT.1 6
  have v7 : 0 ≤ σ.1 7 ∧ σ.1 7 ≤ 90000 := hT.1 7
  have v8 : 0 ≤ σ.1 8 ∧ σ.1 8 ≤ 20000 := hT.1 8
  have v9 : 0 ≤ σ.1 9 ∧ σ.1 9 ≤ 20000 := hT.1 9
  have v10 : (-1) ≤ σ.1 10 ∧ σ.1 10 ≤ 999 := hT.1 10
  have v11 : (-1) ≤ σ.1 11 ∧ σ.1 11 ≤ 999 := hT.1 11
  have v13 : 0 ≤ σ.1 13 ∧ σ.1 13 ≤ 1500 := hT.1 13
  have v15 : 0 ≤ σ.1 15 ∧ σ.1 15 ≤ 50 := hT.1 15
  have v16 : 0 ≤ σ.1 16 ∧ σ.1 16 ≤ 60000 := hT.1 16
  have v17 : 0 ≤ σ.1 17 ∧ σ.1 17 ≤ 60000 := hT.1 17
  have v18 : 0 ≤ σ.1 18 ∧ σ.1 18 ≤ 60000 := hT.1 18
  have v19 : (-1) ≤ σ.1 19 ∧ σ.1 19 ≤ 125 := hT.1 19
  have v20 : 0 ≤ σ.1 20 ∧ σ.1 20 ≤ 19 := hT.1 20
  have v22 : 0 ≤ σ.1 22 ∧ σ.1 22 ≤ 1499 := hT.1 22
  have a14_5 : 0 ≤ σ.2.1 14 (σ.1 5) ∧ σ.2.1 14 (σ.1 5) ≤ 30000 := hT.2 14 _
  have a14_22 : 0 ≤ σ.2.1 14 (σ.1 22) ∧ σ.2.1 14 (σ.1 22) ≤ 30000 := hT.2 14 _
  have a15_5 : 0 ≤ σ.2.1 15 (σ.1 5) ∧ σ.2.1 15 (σ.1 5) ≤ 300 := hT.2 15 _
  have a15_22 : 0 ≤ σ.2.1 15 (σ.1 22) ∧ σ.2.1 15 (σ.1 22) ≤ 300 := hT.2 15 _
  have a18_22 : 0 ≤ σ.2.1 18 (σ.1 22) ∧ σ.2.1 18 (σ.1 22) ≤ 90000 := hT.2 18 _
  have a19_22 : 0 ≤ σ.2.1 19 (σ.1 22) ∧ σ.2.1 19 (σ.1 22) ≤ 60 := hT.2 19 _
  have a21_22 : 0 ≤ σ.2.1 21 (σ.1 22) ∧ σ.2.1 21 (σ.1 22) ≤ 20000 := hT.2 21 _
  have a22_22 : 0 ≤ σ.2.1 22 (σ.1 22) ∧ σ.2.1 22 (σ.1 22) ≤ 20000 := hT.2 22 _
  have a25_22 : 0 ≤ σ.2.1 25 (σ.1 22) ∧ σ.2.1 25 (σ.1 22) ≤ 20000 := hT.2 25 _
  have a26_22 : 0 ≤ σ.2.1 26 (σ.1 22) ∧ σ.2.1 26 (σ.1 22) ≤ 20000 := hT.2 26 _
  have W0 : σ.1 0 = σ.1 0 := rfl
  have W3 : σ.1 3 = σ.1 3 := rfl
  have W10 : σ.1 10 = σ.1 10 := rfl
  have W11 : σ.1 11 = σ.1 11 := rfl
  have W15 : σ.1 15 = σ.1 15 := rfl
  have G6 : σ.2.1 6 = σ.2.1 6 := rfl
  have G8 : σ.2.1 8 = σ.2.1 8 := rfl
  have G35 : σ.2.1 35 = σ.2.1 35 := rfl
  have ag : m_ag σ σ := ag_0 σ
  intro P15 P91 P106 h15 h91 h106
  have hT0 := hT
  have Y8 := j_eq0 (σ.1 9) (σ.2.1 28)
  have Y20 : ca (σ.2.1 12) ((σ.1 3)) ≤ (σ.1 4) := p7
  have Y1 : j_l2 (σ.2.1 6) (σ.1 3) := p11
  have PA : J_pa (σ.2.1 21) (σ.2.1 22) := p8
  have SYt : oc (σ.2.1 6) ≤ (σ.1 3) := p5
  have LAt : oc (σ.2.1 7) ≤ (σ.1 5) := p6
  have STt : j_l2 (σ.2.1 6) (σ.1 3) := p11
  have LAt_0 := LAt
  have PA_0 := PA
  have STt_0 := STt
  have SYt_0 := SYt
  have Y1_0 := Y1
  have Y20_0 := Y20
  have Y8_0 := Y8
  have l_15 : ∀ (τ_15 : S0), (m_T τ_15) → (m_ag σ τ_15) → (τ_15.1 0 = σ.1 0) → (τ_15.1 3 = σ.1 3) → (τ_15.1 10 = σ.1 10) → (τ_15.1 11 = σ.1 11) → (τ_15.1 15 = σ.1 15) → (τ_15.2.1 6 = σ.2.1 6) → (τ_15.2.1 8 = σ.2.1 8) → (τ_15.2.1 35 = σ.2.1 35) → ((τ_15.1 16) ≤ (τ_15.1 0)) → ((τ_15.1 17) + (τ_15.1 18) ≤ (τ_15.1 0)) → (oc (τ_15.2.1 6) < 4096) → (oc (τ_15.2.1 7) ≤ (σ.1 5) + 1) → (¬ (σ.1 20) = 0 → (τ_15.1 20) = (σ.1 20)) → (ca (τ_15.2.1 12) ((τ_15.1 3)) ≤ (τ_15.1 4)) → (J_pa (τ_15.2.1 21) (τ_15.2.1 22)) → ((τ_15.1 20) = 0 → (τ_15.1 22) = (τ_15.1 5) ∧ τ_15.2.1 15 (τ_15.1 22) = 0 ∧ τ_15.2.1 19 (τ_15.1 22) = 0 ∧ τ_15.2.1 22 (τ_15.1 22) = 0 ∧ τ_15.2.1 26 (τ_15.1 22) = 0 ∧ (τ_15.1 5) < 1500) → ((τ_15.1 20) = 0 → τ_15.2.1 14 (τ_15.1 22) = (τ_15.1 6) ∧ τ_15.2.1 18 (τ_15.1 22) = (τ_15.1 7) ∧ τ_15.2.1 21 (τ_15.1 22) = (τ_15.1 8) ∧ τ_15.2.1 25 (τ_15.1 22) = (τ_15.1 9)) → ((τ_15.1 5) = (σ.1 5)) → ((τ_15.1 6) = (σ.1 6) ∧ (τ_15.1 7) = (σ.1 7) ∧ (τ_15.1 8) = (σ.1 8) ∧ (τ_15.1 9) = (σ.1 9) ∧ (τ_15.1 13) = (σ.1 13)) → (j_eq ((σ.1 9)) (σ.2.1 28) (τ_15.2.1 28)) → ((σ.1 16) ≤ (τ_15.1 16)) → (τ_15.2.1 10 = σ.2.1 10) → (τ_15.2.1 12 = σ.2.1 12) → (τ_15.2.1 11 = σ.2.1 11) → (τ_15.2.1 31 = σ.2.1 31) → (n_rc σ τ_15) → P15 τ_15 := by
    intro τ_15 hT ag W0 W3 W10 W11 W15 G6 G8 G35 i15_1 i15_2 i15_3 i15_4 i15_5 i15_6 i15_7 i15_8 i15_9 i15_10 i15_11 i15_12 i15_13 i15_14 i15_15 i15_16 i15_17 i15_18
    have A1 : ∀ j, 0 ≤ τ_15.2.1 1 j ∧ τ_15.2.1 1 j ≤ 255 := fun j => hT.2 1 j
    have A6 : ∀ j, (-1) ≤ τ_15.2.1 6 j ∧ τ_15.2.1 6 j ≤ 999 := fun j => hT.2 6 j
    have A7 : ∀ j, (-1) ≤ τ_15.2.1 7 j ∧ τ_15.2.1 7 j ≤ 1499 := fun j => hT.2 7 j
    have A8 : ∀ j, 0 ≤ τ_15.2.1 8 j ∧ τ_15.2.1 8 j ≤ 1 := fun j => hT.2 8 j
    have A10 : ∀ j, (-1) ≤ τ_15.2.1 10 j ∧ τ_15.2.1 10 j ≤ 999 := fun j => hT.2 10 j
    have A11 : ∀ j, (-1) ≤ τ_15.2.1 11 j ∧ τ_15.2.1 11 j ≤ 1499 := fun j => hT.2 11 j
    have A12 : ∀ j, 0 ≤ τ_15.2.1 12 j ∧ τ_15.2.1 12 j ≤ 1 := fun j => hT.2 12 j
    have A13 : ∀ j, 0 ≤ τ_15.2.1 13 j ∧ τ_15.2.1 13 j ≤ 4 := fun j => hT.2 13 j
    have A14 : ∀ j, 0 ≤ τ_15.2.1 14 j ∧ τ_15.2.1 14 j ≤ 30000 := fun j => hT.2 14 j
    have A15 : ∀ j, 0 ≤ τ_15.2.1 15 j ∧ τ_15.2.1 15 j ≤ 300 := fun j => hT.2 15 j
    have A16 : ∀ j, 0 ≤ τ_15.2.1 16 j ∧ τ_15.2.1 16 j ≤ 999 := fun j => hT.2 16 j
    have A17 : ∀ j, (-1) ≤ τ_15.2.1 17 j ∧ τ_15.2.1 17 j ≤ 1499 := fun j => hT.2 17 j
    have A18 : ∀ j, 0 ≤ τ_15.2.1 18 j ∧ τ_15.2.1 18 j ≤ 90000 := fun j => hT.2 18 j
    have A19 : ∀ j, 0 ≤ τ_15.2.1 19 j ∧ τ_15.2.1 19 j ≤ 60 := fun j => hT.2 19 j
    have A20 : ∀ j, 0 ≤ τ_15.2.1 20 j ∧ τ_15.2.1 20 j ≤ 1499 := fun j => hT.2 20 j
    have A21 : ∀ j, 0 ≤ τ_15.2.1 21 j ∧ τ_15.2.1 21 j ≤ 20000 := fun j => hT.2 21 j
    have A22 : ∀ j, 0 ≤ τ_15.2.1 22 j ∧ τ_15.2.1 22 j ≤ 20000 := fun j => hT.2 22 j
    have A25 : ∀ j, 0 ≤ τ_15.2.1 25 j ∧ τ_15.2.1 25 j ≤ 20000 := fun j => hT.2 25 j
    have A26 : ∀ j, 0 ≤ τ_15.2.1 26 j ∧ τ_15.2.1 26 j ≤ 20000 := fun j => hT.2 26 j
    have A27 : ∀ j, (-300) ≤ τ_15.2.1 27 j ∧ τ_15.2.1 27 j ≤ 1499 := fun j => hT.2 27 j
    have A28 : ∀ j, 0 ≤ τ_15.2.1 28 j ∧ τ_15.2.1 28 j ≤ 1 := fun j => hT.2 28 j
    have A31 : ∀ j, 0 ≤ τ_15.2.1 31 j ∧ τ_15.2.1 31 j ≤ 1499 := fun j => hT.2 31 j
    have A35 : ∀ j, 0 ≤ τ_15.2.1 35 j ∧ τ_15.2.1 35 j ≤ 1500 := fun j => hT.2 35 j
    have v0 : 0 ≤ τ_15.1 0 ∧ τ_15.1 0 ≤ 60000 := hT.1 0
    have v2 : 0 ≤ τ_15.1 2 ∧ τ_15.1 2 ≤ 30000 := hT.1 2
    have v3 : 0 ≤ τ_15.1 3 ∧ τ_15.1 3 ≤ 1000 := hT.1 3
    have v4 : 0 ≤ τ_15.1 4 ∧ τ_15.1 4 ≤ 100 := hT.1 4
    have v5 : 0 ≤ τ_15.1 5 ∧ τ_15.1 5 ≤ 1500 := hT.1 5
    have v6 : 0 ≤ τ_15.1 6 ∧ τ_15.1 6 ≤ 30000 := hT.1 6
    have v7 : 0 ≤ τ_15.1 7 ∧ τ_15.1 7 ≤ 90000 := hT.1 7
    have v8 : 0 ≤ τ_15.1 8 ∧ τ_15.1 8 ≤ 20000 := hT.1 8
    have v9 : 0 ≤ τ_15.1 9 ∧ τ_15.1 9 ≤ 20000 := hT.1 9
    have v10 : (-1) ≤ τ_15.1 10 ∧ τ_15.1 10 ≤ 999 := hT.1 10
    have v11 : (-1) ≤ τ_15.1 11 ∧ τ_15.1 11 ≤ 999 := hT.1 11
    have v13 : 0 ≤ τ_15.1 13 ∧ τ_15.1 13 ≤ 1500 := hT.1 13
    have v15 : 0 ≤ τ_15.1 15 ∧ τ_15.1 15 ≤ 50 := hT.1 15
    have v16 : 0 ≤ τ_15.1 16 ∧ τ_15.1 16 ≤ 60000 := hT.1 16
    have v17 : 0 ≤ τ_15.1 17 ∧ τ_15.1 17 ≤ 60000 := hT.1 17
    have v18 : 0 ≤ τ_15.1 18 ∧ τ_15.1 18 ≤ 60000 := hT.1 18
    have v19 : (-1) ≤ τ_15.1 19 ∧ τ_15.1 19 ≤ 125 := hT.1 19
    have v20 : 0 ≤ τ_15.1 20 ∧ τ_15.1 20 ≤ 19 := hT.1 20
    have v22 : 0 ≤ τ_15.1 22 ∧ τ_15.1 22 ≤ 1499 := hT.1 22
    have a14_5 : 0 ≤ τ_15.2.1 14 (τ_15.1 5) ∧ τ_15.2.1 14 (τ_15.1 5) ≤ 30000 := hT.2 14 _
    have a14_22 : 0 ≤ τ_15.2.1 14 (τ_15.1 22) ∧ τ_15.2.1 14 (τ_15.1 22) ≤ 30000 := hT.2 14 _
    have a15_5 : 0 ≤ τ_15.2.1 15 (τ_15.1 5) ∧ τ_15.2.1 15 (τ_15.1 5) ≤ 300 := hT.2 15 _
    have a15_22 : 0 ≤ τ_15.2.1 15 (τ_15.1 22) ∧ τ_15.2.1 15 (τ_15.1 22) ≤ 300 := hT.2 15 _
    have a18_22 : 0 ≤ τ_15.2.1 18 (τ_15.1 22) ∧ τ_15.2.1 18 (τ_15.1 22) ≤ 90000 := hT.2 18 _
    have a19_22 : 0 ≤ τ_15.2.1 19 (τ_15.1 22) ∧ τ_15.2.1 19 (τ_15.1 22) ≤ 60 := hT.2 19 _
    have a21_22 : 0 ≤ τ_15.2.1 21 (τ_15.1 22) ∧ τ_15.2.1 21 (τ_15.1 22) ≤ 20000 := hT.2 21 _
    have a22_22 : 0 ≤ τ_15.2.1 22 (τ_15.1 22) ∧ τ_15.2.1 22 (τ_15.1 22) ≤ 20000 := hT.2 22 _
    have a25_22 : 0 ≤ τ_15.2.1 25 (τ_15.1 22) ∧ τ_15.2.1 25 (τ_15.1 22) ≤ 20000 := hT.2 25 _
    have a26_22 : 0 ≤ τ_15.2.1 26 (τ_15.1 22) ∧ τ_15.2.1 26 (τ_15.1 22) ≤ 20000 := hT.2 26 _
    have av5 : σ.1 5 ≤ τ_15.1 5 := ag.1 5 (by decide)
    have av6 : σ.1 6 ≤ τ_15.1 6 := ag.1 6 (by decide)
    have av7 : σ.1 7 ≤ τ_15.1 7 := ag.1 7 (by decide)
    have av8 : σ.1 8 ≤ τ_15.1 8 := ag.1 8 (by decide)
    have av9 : σ.1 9 ≤ τ_15.1 9 := ag.1 9 (by decide)
    have o6_τ_15 := congrArg oc G6
    have Y20 : ca (τ_15.2.1 12) ((τ_15.1 3)) ≤ (τ_15.1 4) := i15_6
    have Y8 : j_eq ((σ.1 9)) (σ.2.1 28) (τ_15.2.1 28) := i15_12
    have Y1 : j_l2 (τ_15.2.1 6) (τ_15.1 3) := by rw [show (j_l2 (τ_15.2.1 6) (τ_15.1 3)) = (j_l2 (σ.2.1 6) (σ.1 3)) from by rw [W3, G6]]; exact Y1_0
    have PA : J_pa (τ_15.2.1 21) (τ_15.2.1 22) := i15_7
    have SYt : oc (τ_15.2.1 6) ≤ (τ_15.1 3) := by rw [show (oc (τ_15.2.1 6) ≤ (τ_15.1 3)) = (oc (σ.2.1 6) ≤ (σ.1 3)) from by rw [W3, G6]]; exact SYt_0
    have STt : j_l2 (τ_15.2.1 6) (τ_15.1 3) := by rw [show (j_l2 (τ_15.2.1 6) (τ_15.1 3)) = (j_l2 (σ.2.1 6) (σ.1 3)) from by rw [W3, G6]]; exact STt_0
    refine h15 τ_15 ?_
    refine ⟨fun c8 => ?_, fun c8 => ?_⟩
    ·
      refine ⟨fun c9 => ?_, fun c9 => ?_⟩
      ·
        have w3 := i15_8 (by omega)
        have w4 := i15_9 (by omega)
        obtain ⟨n1, n2, n3, n4, n5, n6⟩ := w3
        obtain ⟨n7, n8, n9, n10⟩ := w4
        have Z1 : τ_15.2.1 14 (τ_15.1 22) + τ_15.2.1 15 (τ_15.1 22) = τ_15.1 6 := by omega
        have Z2 : τ_15.2.1 18 (τ_15.1 22) + τ_15.2.1 19 (τ_15.1 22) = τ_15.1 7 := by omega
        have Z3 : τ_15.2.1 21 (τ_15.1 22) + τ_15.2.1 22 (τ_15.1 22) = τ_15.1 8 := by omega
        have Z4 : τ_15.2.1 25 (τ_15.1 22) + τ_15.2.1 26 (τ_15.1 22) = τ_15.1 9 := by omega
        have Y14 : ca (τ_15.2.1 28) (τ_15.1 9) ≤ ca (τ_15.2.1 28) (τ_15.2.1 25 (τ_15.1 22)) + 300 := by rw [show τ_15.2.1 25 (τ_15.1 22) = τ_15.1 9 from by omega]; omega
        have hT15 := hT
        have ag15 := ag
        have G28_15 := i15_12
        have rl15 : n_rl σ τ_15 := n_rl_g (by omega) (by omega) (by omega) i15_14 i15_15
        have rc15 := i15_18
        have S15 : n_S τ_15 := n_S_ag p12 p13 p14 hT0 ag15 (by omega) i15_17 (fun s _ _ => by rw [i15_16]) (fun s a b => by omega)
        have J15 : n_J τ_15 := by (have w := n_J_ag p13 p14 ag15 rl15 i15_12 hT0; rw [show σ.1 5 = τ_15.1 5 from by omega] at w; exact w)
        have M15 : m_J τ_15 := m_J_x p14 ag15 i15_12 hT0 (by omega)
        have hk15 : n_hk σ τ_15 := n_hk_g (by omega) (by omega) i15_17 G35
        refine ⟨fun c10 => ?_, fun c10 => ?_⟩
        ·
          refine ⟨fun c11 => ?_, fun c11 => ?_⟩
          ·
            refine h91 _ ?_
            refine ⟨fun c29 => ?_, fun c29 => ?_⟩
            ·
              refine h106 _ _ ?_
              refine ⟨_, K3_X13_readAssertion hT (show (τ_15.1 16) ≤ (τ_15.1 0) from by (first | omega | (simp only [st_s] <;> omega) | assumption | omega | fail)) (show (τ_15.1 17) + (τ_15.1 18) ≤ (τ_15.1 0) from by (first | omega | (simp only [st_s] <;> omega) | assumption | omega | fail)) (show oc (τ_15.2.1 6) < 4096 from by (first | omega | (simp only [st_s] <;> omega) | assumption | omega | fail)) (show oc (τ_15.2.1 7) < 4096 from by (first | omega | (simp only [st_s] <;> omega) | assumption | omega | fail)) (show 0 ≤ (0 : Int) from by (first | omega | (simp only [st_s] <;> omega) | assumption | omega | fail)) (show (0 : Int) ≤ 1 from by (first | omega | (simp only [st_s] <;> omega) | assumption | omega | fail)) (show τ_15.2.1 15 (τ_15.1 22) = 0 from by (first | omega | (simp only [st_s] <;> omega) | assumption | omega | fail)) (show τ_15.2.1 26 (τ_15.1 22) = 0 from by (first | omega | (simp only [st_s] <;> omega) | assumption | omega | fail)) (show (τ_15.1 22) = (τ_15.1 5) from by (first | omega | (simp only [st_s] <;> omega) | assumption | omega | fail)) (show τ_15.2.1 14 (τ_15.1 22) + τ_15.2.1 15 (τ_15.1 22) = (τ_15.1 6) from Z1) (show τ_15.2.1 18 (τ_15.1 22) + τ_15.2.1 19 (τ_15.1 22) = (τ_15.1 7) from Z2) (show τ_15.2.1 21 (τ_15.1 22) + τ_15.2.1 22 (τ_15.1 22) = (τ_15.1 8) from Z3) (show τ_15.2.1 25 (τ_15.1 22) + τ_15.2.1 26 (τ_15.1 22) = (τ_15.1 9) from Z4) (show ca (τ_15.2.1 12) ((τ_15.1 3)) ≤ (τ_15.1 4) from Y20) (show J_pa (τ_15.2.1 21) (τ_15.2.1 22) from PA) (show (τ_15.1 7) ≤ 60 * (τ_15.1 22) + τ_15.2.1 19 (τ_15.1 22) from by (first | omega | (simp only [st_s] <;> omega) | assumption | omega | fail)) (show (τ_15.1 5) < 1500 from by (first | omega | (simp only [st_s] <;> omega) | assumption | omega | fail)) (show j_l2 (τ_15.2.1 6) (τ_15.1 3) from Y1) (show n_S τ_15 from by exact S15) (show n_J τ_15 from by exact J15) (show m_J τ_15 from by exact M15) (show τ_15.2.1 19 (τ_15.1 22) = 0 from by (first | omega | (simp only [st_s] <;> omega) | assumption | omega | fail)), ?_⟩
              intro τ32 hn_τ32 hf_τ32 hq
              obtain ⟨hT, q30_1, q30_2, q30_3, q30_4, q30_5, q30_6, q30_7, q30_8, q30_9, q30_10, q30_11, q30_12, q30_13, q30_14, q30_15, q30_16, q30_17, q30_18⟩ := hq
              replace q30_1 : (τ32.1 16) ≤ (τ32.1 0) := q30_1
              replace q30_2 : (τ32.1 17) + (τ32.1 18) ≤ (τ32.1 0) := q30_2
              replace q30_3 : ¬ (τ_15.1 20) = 0 → (τ32.1 20) = (τ_15.1 20) := q30_3
              replace q30_4 : τ32.2.1 14 (τ32.1 22) + τ32.2.1 15 (τ32.1 22) = (τ32.1 6) := q30_4
              replace q30_5 : τ32.2.1 18 (τ32.1 22) + τ32.2.1 19 (τ32.1 22) = (τ32.1 7) := q30_5
              replace q30_6 : τ32.2.1 21 (τ32.1 22) + τ32.2.1 22 (τ32.1 22) = (τ32.1 8) := q30_6
              replace q30_7 : ca (τ32.2.1 12) ((τ32.1 3)) ≤ (τ32.1 4) := q30_7
              replace q30_8 : J_pa (τ32.2.1 21) (τ32.2.1 22) := q30_8
              replace q30_9 : (τ32.1 7) ≤ 60 * (τ32.1 22) + τ32.2.1 19 (τ32.1 22) := q30_9
              replace q30_10 : τ32.2.1 25 (τ32.1 22) + τ32.2.1 26 (τ32.1 22) = (τ32.1 9) := q30_10
              replace q30_11 : ca (τ32.2.1 28) ((τ32.1 9)) ≤ ca (τ32.2.1 28) (τ32.2.1 25 (τ32.1 22)) + 300 := q30_11
              replace q30_12 : j_eq (τ_15.2.1 25 (τ_15.1 22)) (τ_15.2.1 28) (τ32.2.1 28) := q30_12
              replace q30_13 : (τ32.1 20) = 0 → (τ32.1 5) = (τ_15.1 5) + 1 ∧ 1 ≤ τ32.2.1 15 (τ32.1 22) := q30_13
              replace q30_14 : (τ32.1 5) ≤ (τ_15.1 5) + 1 := q30_14
              replace q30_15 : (τ_15.1 16) ≤ (τ32.1 16) := q30_15
              replace q30_16 : m_ag τ_15 τ32 := q30_16
              replace q30_17 : (τ32.1 20) = 0 → n_J1 (τ_15.1 5) τ32 ∧ n_S τ32 := q30_17
              replace q30_18 : n_rl τ_15 τ32 := q30_18
              replace ag : m_ag σ τ32 := ag_t ag q30_16 rfl
              have w0_τ32 : τ32.1 0 = τ_15.1 0 := hf_τ32.1 0 (by decide)
              have w2_τ32 : τ32.1 2 = τ_15.1 2 := hf_τ32.1 2 (by decide)
              have w3_τ32 : τ32.1 3 = τ_15.1 3 := hf_τ32.1 3 (by decide)
              have w10_τ32 : τ32.1 10 = τ_15.1 10 := hf_τ32.1 10 (by decide)
              have w11_τ32 : τ32.1 11 = τ_15.1 11 := hf_τ32.1 11 (by decide)
              have w13_τ32 : τ32.1 13 = τ_15.1 13 := hf_τ32.1 13 (by decide)
              have w15_τ32 : τ32.1 15 = τ_15.1 15 := hf_τ32.1 15 (by decide)
              have w22_τ32 : τ32.1 22 = τ_15.1 22 := hf_τ32.1 22 (by decide)
              have g1_τ32 : τ32.2.1 1 = τ_15.2.1 1 := hf_τ32.2.1 1 (by decide)
              have g6_τ32 : τ32.2.1 6 = τ_15.2.1 6 := hf_τ32.2.1 6 (by decide)
              have g7_τ32 : τ32.2.1 7 = τ_15.2.1 7 := hf_τ32.2.1 7 (by decide)
              have g8_τ32 : τ32.2.1 8 = τ_15.2.1 8 := hf_τ32.2.1 8 (by decide)
              have g10_τ32 : τ32.2.1 10 = τ_15.2.1 10 := hf_τ32.2.1 10 (by decide)
              have g11_τ32 : τ32.2.1 11 = τ_15.2.1 11 := hf_τ32.2.1 11 (by decide)
              have g14_τ32 : τ32.2.1 14 = τ_15.2.1 14 := hf_τ32.2.1 14 (by decide)
              have g18_τ32 : τ32.2.1 18 = τ_15.2.1 18 := hf_τ32.2.1 18 (by decide)
              have g21_τ32 : τ32.2.1 21 = τ_15.2.1 21 := hf_τ32.2.1 21 (by decide)
              have g25_τ32 : τ32.2.1 25 = τ_15.2.1 25 := hf_τ32.2.1 25 (by decide)
              have g31_τ32 : τ32.2.1 31 = τ_15.2.1 31 := hf_τ32.2.1 31 (by decide)
              have g35_τ32 : τ32.2.1 35 = τ_15.2.1 35 := hf_τ32.2.1 35 (by decide)
              first | (have o6_τ32 := congrArg oc g6_τ32) | skip
              first | (have o7_τ32 := congrArg oc g7_τ32) | skip
              have W0 : τ32.1 0 = σ.1 0 := by first | exact w0_τ32.trans W0 | omega
              have W3 : τ32.1 3 = σ.1 3 := by first | exact w3_τ32.trans W3 | omega
              have W10 : τ32.1 10 = σ.1 10 := by first | exact w10_τ32.trans W10 | omega
              have W11 : τ32.1 11 = σ.1 11 := by first | exact w11_τ32.trans W11 | omega
              have W15 : τ32.1 15 = σ.1 15 := by first | exact w15_τ32.trans W15 | omega
              have G6 : τ32.2.1 6 = σ.2.1 6 := (g6_τ32).trans G6
              have G8 : τ32.2.1 8 = σ.2.1 8 := (g8_τ32).trans G8
              have G35 : τ32.2.1 35 = σ.2.1 35 := (g35_τ32).trans G35
              have y14_22_τ32 : τ32.2.1 14 (τ32.1 22) = (τ_15.2.1 14) (τ_15.1 22) := by rw [g14_τ32, w22_τ32]
              have y18_22_τ32 : τ32.2.1 18 (τ32.1 22) = (τ_15.2.1 18) (τ_15.1 22) := by rw [g18_τ32, w22_τ32]
              have y21_22_τ32 : τ32.2.1 21 (τ32.1 22) = (τ_15.2.1 21) (τ_15.1 22) := by rw [g21_τ32, w22_τ32]
              have y25_22_τ32 : τ32.2.1 25 (τ32.1 22) = (τ_15.2.1 25) (τ_15.1 22) := by rw [g25_τ32, w22_τ32]
              have Z1 : τ32.2.1 14 (τ32.1 22) + τ32.2.1 15 (τ32.1 22) = (τ32.1 6) := q30_4
              have Z2 : τ32.2.1 18 (τ32.1 22) + τ32.2.1 19 (τ32.1 22) = (τ32.1 7) := q30_5
              have Z3 : τ32.2.1 21 (τ32.1 22) + τ32.2.1 22 (τ32.1 22) = (τ32.1 8) := q30_6
              have Z4 : τ32.2.1 25 (τ32.1 22) + τ32.2.1 26 (τ32.1 22) = (τ32.1 9) := q30_10
              have Y20 : ca (τ32.2.1 12) ((τ32.1 3)) ≤ (τ32.1 4) := q30_7
              have Y1 : j_l2 (τ32.2.1 6) (τ32.1 3) := by rw [show (j_l2 (τ32.2.1 6) (τ32.1 3)) = (j_l2 (τ_15.2.1 6) (τ_15.1 3)) from by rw [w3_τ32, g6_τ32]]; exact Y1
              have Y14 : ca (τ32.2.1 28) ((τ32.1 9)) ≤ ca (τ32.2.1 28) (τ32.2.1 25 (τ32.1 22)) + 300 := q30_11
              have PA : J_pa (τ32.2.1 21) (τ32.2.1 22) := q30_8
              have SYt : oc (τ32.2.1 6) ≤ (τ32.1 3) := by rw [show (oc (τ32.2.1 6) ≤ (τ32.1 3)) = (oc (τ_15.2.1 6) ≤ (τ_15.1 3)) from by rw [w3_τ32, g6_τ32]]; exact SYt
              have STt : j_l2 (τ32.2.1 6) (τ32.1 3) := by rw [show (j_l2 (τ32.2.1 6) (τ32.1 3)) = (j_l2 (τ_15.2.1 6) (τ_15.1 3)) from by rw [w3_τ32, g6_τ32]]; exact STt
              have A1 : ∀ j, 0 ≤ τ32.2.1 1 j ∧ τ32.2.1 1 j ≤ 255 := fun j => hT.2 1 j
              have A6 : ∀ j, (-1) ≤ τ32.2.1 6 j ∧ τ32.2.1 6 j ≤ 999 := fun j => hT.2 6 j
              have A7 : ∀ j, (-1) ≤ τ32.2.1 7 j ∧ τ32.2.1 7 j ≤ 1499 := fun j => hT.2 7 j
              have A8 : ∀ j, 0 ≤ τ32.2.1 8 j ∧ τ32.2.1 8 j ≤ 1 := fun j => hT.2 8 j
              have A10 : ∀ j, (-1) ≤ τ32.2.1 10 j ∧ τ32.2.1 10 j ≤ 999 := fun j => hT.2 10 j
              have A11 : ∀ j, (-1) ≤ τ32.2.1 11 j ∧ τ32.2.1 11 j ≤ 1499 := fun j => hT.2 11 j
              have A12 : ∀ j, 0 ≤ τ32.2.1 12 j ∧ τ32.2.1 12 j ≤ 1 := fun j => hT.2 12 j
              have A13 : ∀ j, 0 ≤ τ32.2.1 13 j ∧ τ32.2.1 13 j ≤ 4 := fun j => hT.2 13 j
              have A14 : ∀ j, 0 ≤ τ32.2.1 14 j ∧ τ32.2.1 14 j ≤ 30000 := fun j => hT.2 14 j
              have A15 : ∀ j, 0 ≤ τ32.2.1 15 j ∧ τ32.2.1 15 j ≤ 300 := fun j => hT.2 15 j
              have A16 : ∀ j, 0 ≤ τ32.2.1 16 j ∧ τ32.2.1 16 j ≤ 999 := fun j => hT.2 16 j
              have A17 : ∀ j, (-1) ≤ τ32.2.1 17 j ∧ τ32.2.1 17 j ≤ 1499 := fun j => hT.2 17 j
              have A18 : ∀ j, 0 ≤ τ32.2.1 18 j ∧ τ32.2.1 18 j ≤ 90000 := fun j => hT.2 18 j
              have A19 : ∀ j, 0 ≤ τ32.2.1 19 j ∧ τ32.2.1 19 j ≤ 60 := fun j => hT.2 19 j
              have A20 : ∀ j, 0 ≤ τ32.2.1 20 j ∧ τ32.2.1 20 j ≤ 1499 := fun j => hT.2 20 j
              have A21 : ∀ j, 0 ≤ τ32.2.1 21 j ∧ τ32.2.1 21 j ≤ 20000 := fun j => hT.2 21 j
              have A22 : ∀ j, 0 ≤ τ32.2.1 22 j ∧ τ32.2.1 22 j ≤ 20000 := fun j => hT.2 22 j
              have A25 : ∀ j, 0 ≤ τ32.2.1 25 j ∧ τ32.2.1 25 j ≤ 20000 := fun j => hT.2 25 j
              have A26 : ∀ j, 0 ≤ τ32.2.1 26 j ∧ τ32.2.1 26 j ≤ 20000 := fun j => hT.2 26 j
              have A27 : ∀ j, (-300) ≤ τ32.2.1 27 j ∧ τ32.2.1 27 j ≤ 1499 := fun j => hT.2 27 j
              have A28 : ∀ j, 0 ≤ τ32.2.1 28 j ∧ τ32.2.1 28 j ≤ 1 := fun j => hT.2 28 j
              have A31 : ∀ j, 0 ≤ τ32.2.1 31 j ∧ τ32.2.1 31 j ≤ 1499 := fun j => hT.2 31 j
              have A35 : ∀ j, 0 ≤ τ32.2.1 35 j ∧ τ32.2.1 35 j ≤ 1500 := fun j => hT.2 35 j
              have v0 : 0 ≤ τ32.1 0 ∧ τ32.1 0 ≤ 60000 := hT.1 0
              have v2 : 0 ≤ τ32.1 2 ∧ τ32.1 2 ≤ 30000 := hT.1 2
              have v3 : 0 ≤ τ32.1 3 ∧ τ32.1 3 ≤ 1000 := hT.1 3
              have v4 : 0 ≤ τ32.1 4 ∧ τ32.1 4 ≤ 100 := hT.1 4
              have v5 : 0 ≤ τ32.1 5 ∧ τ32.1 5 ≤ 1500 := hT.1 5
              have v6 : 0 ≤ τ32.1 6 ∧ τ32.1 6 ≤ 30000 := hT.1 6
              have v7 : 0 ≤ τ32.1 7 ∧ τ32.1 7 ≤ 90000 := hT.1 7
              have v8 : 0 ≤ τ32.1 8 ∧ τ32.1 8 ≤ 20000 := hT.1 8
              have v9 : 0 ≤ τ32.1 9 ∧ τ32.1 9 ≤ 20000 := hT.1 9
              have v10 : (-1) ≤ τ32.1 10 ∧ τ32.1 10 ≤ 999 := hT.1 10
              have v11 : (-1) ≤ τ32.1 11 ∧ τ32.1 11 ≤ 999 := hT.1 11
              have v13 : 0 ≤ τ32.1 13 ∧ τ32.1 13 ≤ 1500 := hT.1 13
              have v15 : 0 ≤ τ32.1 15 ∧ τ32.1 15 ≤ 50 := hT.1 15
              have v16 : 0 ≤ τ32.1 16 ∧ τ32.1 16 ≤ 60000 := hT.1 16
              have v17 : 0 ≤ τ32.1 17 ∧ τ32.1 17 ≤ 60000 := hT.1 17
              have v18 : 0 ≤ τ32.1 18 ∧ τ32.1 18 ≤ 60000 := hT.1 18
              have v19 : (-1) ≤ τ32.1 19 ∧ τ32.1 19 ≤ 125 := hT.1 19
              have v20 : 0 ≤ τ32.1 20 ∧ τ32.1 20 ≤ 19 := hT.1 20
              have v22 : 0 ≤ τ32.1 22 ∧ τ32.1 22 ≤ 1499 := hT.1 22
              have a14_5 : 0 ≤ τ32.2.1 14 (τ32.1 5) ∧ τ32.2.1 14 (τ32.1 5) ≤ 30000 := hT.2 14 _
              have a14_22 : 0 ≤ τ32.2.1 14 (τ32.1 22) ∧ τ32.2.1 14 (τ32.1 22) ≤ 30000 := hT.2 14 _
              have a15_5 : 0 ≤ τ32.2.1 15 (τ32.1 5) ∧ τ32.2.1 15 (τ32.1 5) ≤ 300 := hT.2 15 _
              have a15_22 : 0 ≤ τ32.2.1 15 (τ32.1 22) ∧ τ32.2.1 15 (τ32.1 22) ≤ 300 := hT.2 15 _
              have a18_22 : 0 ≤ τ32.2.1 18 (τ32.1 22) ∧ τ32.2.1 18 (τ32.1 22) ≤ 90000 := hT.2 18 _
              have a19_22 : 0 ≤ τ32.2.1 19 (τ32.1 22) ∧ τ32.2.1 19 (τ32.1 22) ≤ 60 := hT.2 19 _
              have a21_22 : 0 ≤ τ32.2.1 21 (τ32.1 22) ∧ τ32.2.1 21 (τ32.1 22) ≤ 20000 := hT.2 21 _
              have a22_22 : 0 ≤ τ32.2.1 22 (τ32.1 22) ∧ τ32.2.1 22 (τ32.1 22) ≤ 20000 := hT.2 22 _
              have a25_22 : 0 ≤ τ32.2.1 25 (τ32.1 22) ∧ τ32.2.1 25 (τ32.1 22) ≤ 20000 := hT.2 25 _
              have a26_22 : 0 ≤ τ32.2.1 26 (τ32.1 22) ∧ τ32.2.1 26 (τ32.1 22) ≤ 20000 := hT.2 26 _
              have av5 : σ.1 5 ≤ τ32.1 5 := ag.1 5 (by decide)
              have av6 : σ.1 6 ≤ τ32.1 6 := ag.1 6 (by decide)
              have av7 : σ.1 7 ≤ τ32.1 7 := ag.1 7 (by decide)
              have av8 : σ.1 8 ≤ τ32.1 8 := ag.1 8 (by decide)
              have av9 : σ.1 9 ≤ τ32.1 9 := ag.1 9 (by decide)
              have Y8 := j_eqt Y8 (j_eqw q30_12 (show σ.1 9 ≤ τ_15.2.1 25 (τ_15.1 22) from by omega))
              have J32 : τ32.1 20 = 0 → n_J τ32 ∧ n_S τ32 := fun z => ⟨n_J_n J15 M15 q30_16 q30_18 (j_eqw q30_12 (by omega)) hT15 (q30_17 z).1 (q30_13 z).1, (q30_17 z).2⟩
              exact ⟨hT, (show (τ32.1 16) ≤ (τ32.1 0) from by (first | omega | (simp only [st_s] <;> omega) | assumption | omega | fail)), (show (τ32.1 17) + (τ32.1 18) ≤ (τ32.1 0) from by (first | omega | (simp only [st_s] <;> omega) | assumption | omega | fail)), (show ¬ (σ.1 20) = 0 → (τ32.1 20) = (σ.1 20) from by (first | omega | (simp only [st_s] <;> omega) | assumption | omega | fail)), (show ca (τ32.2.1 12) ((τ32.1 3)) ≤ (τ32.1 4) from Y20), (show J_pa (τ32.2.1 21) (τ32.2.1 22) from PA), (show (τ32.1 13) ≤ (τ32.1 5) from by (first | omega | (simp only [st_s] <;> omega) | assumption | omega | fail)), (show oc (τ32.2.1 7) ≤ (σ.1 5) + 1 from by (first | omega | (simp only [st_s] <;> omega) | assumption | omega | fail)), (show (τ32.1 5) ≤ (σ.1 5) + 1 from by (first | omega | (simp only [st_s] <;> omega) | assumption | omega | fail)), (show (τ32.1 20) = 0 → (τ32.1 7) ≤ 60 * (τ32.1 5) from by (first | omega | (simp only [st_s] <;> omega) | assumption | omega | fail)), (show (τ32.1 20) = 0 → (τ32.1 5) = (σ.1 5) + 1 from by (first | omega | (simp only [st_s] <;> omega) | assumption | omega | fail)), (show j_eq ((σ.1 9)) (σ.2.1 28) (τ32.2.1 28) from Y8), (show (τ32.1 20) = 0 → m_J σ → m_J τ32 from by (first | (intro hf; exfalso; omega) | (intro hf hJ; have e5 : σ.1 5 = τ25.1 22 := (by omega); exact m_J_e hJ ag hT0 Y8 (by omega) (by rw [e5] <;> omega) (by rw [e5] <;> omega) (by rw [e5] <;> omega) (by rw [e5] <;> omega) (by rw [e5] <;> omega) (by rw [e5] <;> omega) (by rw [e5] <;> omega) (by rw [e5] <;> omega) (by rw [e5] <;> omega) (by omega) (by rw [e5]; exact Y14)) | (intro hf hJ; have e5 : σ.1 5 = τ28.1 22 := (by omega); exact m_J_e hJ ag hT0 Y8 (by omega) (by rw [e5] <;> omega) (by rw [e5] <;> omega) (by rw [e5] <;> omega) (by rw [e5] <;> omega) (by rw [e5] <;> omega) (by rw [e5] <;> omega) (by rw [e5] <;> omega) (by rw [e5] <;> omega) (by rw [e5] <;> omega) (by omega) (by rw [e5]; exact Y14)) | (intro hf hJ; have e5 : σ.1 5 = τ32.1 22 := (by omega); exact m_J_e hJ ag hT0 Y8 (by omega) (by rw [e5] <;> omega) (by rw [e5] <;> omega) (by rw [e5] <;> omega) (by rw [e5] <;> omega) (by rw [e5] <;> omega) (by rw [e5] <;> omega) (by rw [e5] <;> omega) (by rw [e5] <;> omega) (by rw [e5] <;> omega) (by omega) (by rw [e5]; exact Y14)) | fail)), (show (σ.1 16) ≤ (τ32.1 16) from by (first | omega | (simp only [st_s] <;> omega) | assumption | omega | fail)), ag, (show (τ32.1 20) = 0 → n_J τ32 ∧ n_S τ32 from by (first | (intro z; exfalso; omega) | exact fun _ => ⟨J25, s25⟩ | exact J28 | exact J32 | fail)), (show n_rl σ τ32 from by (first | exact n_rl_t rl15 rl25 | exact n_rl_t rl15 q26_12 | exact n_rl_t rl15 q30_18 | exact n_rl_t rl15 q16_10 | exact n_rl_r rl15 hf_τ15 rfl rfl | exact n_rl_g (by omega) (by omega) (by omega) i15_14 i15_15 | fail)), (show n_hk σ τ32 from by (first | exact n_hk_t hk15 hk25 | exact n_hk_t hk15 q26_13 | exact n_hk_r hk15 hf_τ32 rfl rfl | exact n_hk_r hk15 hf_τ18 rfl rfl | exact n_hk_r hk15 hf_τ15 rfl rfl | exact n_hk_g (by omega) (by omega) i15_17 G35 | fail)), (show n_rc σ τ32 from by (first | exact n_rc_r (n_rc_r (n_rc_r rc15 hf_τ18 rfl rfl) hf_τ22 rfl rfl) hf_τ25 rfl rfl | exact n_rc_r rc15 hf_τ28 rfl rfl | exact n_rc_r rc15 hf_τ32 rfl rfl | exact n_rc_r rc15 hf_τ18 rfl rfl | exact n_rc_r rc15 hf_τ15 rfl rfl | exact i15_18 | fail))⟩
            ·
              refine h106 _ _ ?_
              refine ⟨_, K3_X13_readAssertion hT (show (τ_15.1 16) ≤ (τ_15.1 0) from by (first | omega | (simp only [st_s] <;> omega) | assumption | omega | fail)) (show (τ_15.1 17) + (τ_15.1 18) ≤ (τ_15.1 0) from by (first | omega | (simp only [st_s] <;> omega) | assumption | omega | fail)) (show oc (τ_15.2.1 6) < 4096 from by (first | omega | (simp only [st_s] <;> omega) | assumption | omega | fail)) (show oc (τ_15.2.1 7) < 4096 from by (first | omega | (simp only [st_s] <;> omega) | assumption | omega | fail)) (show 0 ≤ (1 : Int) from by (first | omega | (simp only [st_s] <;> omega) | assumption | omega | fail)) (show (1 : Int) ≤ 1 from by (first | omega | (simp only [st_s] <;> omega) | assumption | omega | fail)) (show τ_15.2.1 15 (τ_15.1 22) = 0 from by (first | omega | (simp only [st_s] <;> omega) | assumption | omega | fail)) (show τ_15.2.1 26 (τ_15.1 22) = 0 from by (first | omega | (simp only [st_s] <;> omega) | assumption | omega | fail)) (show (τ_15.1 22) = (τ_15.1 5) from by (first | omega | (simp only [st_s] <;> omega) | assumption | omega | fail)) (show τ_15.2.1 14 (τ_15.1 22) + τ_15.2.1 15 (τ_15.1 22) = (τ_15.1 6) from Z1) (show τ_15.2.1 18 (τ_15.1 22) + τ_15.2.1 19 (τ_15.1 22) = (τ_15.1 7) from Z2) (show τ_15.2.1 21 (τ_15.1 22) + τ_15.2.1 22 (τ_15.1 22) = (τ_15.1 8) from Z3) (show τ_15.2.1 25 (τ_15.1 22) + τ_15.2.1 26 (τ_15.1 22) = (τ_15.1 9) from Z4) (show ca (τ_15.2.1 12) ((τ_15.1 3)) ≤ (τ_15.1 4) from Y20) (show J_pa (τ_15.2.1 21) (τ_15.2.1 22) from PA) (show (τ_15.1 7) ≤ 60 * (τ_15.1 22) + τ_15.2.1 19 (τ_15.1 22) from by (first | omega | (simp only [st_s] <;> omega) | assumption | omega | fail)) (show (τ_15.1 5) < 1500 from by (first | omega | (simp only [st_s] <;> omega) | assumption | omega | fail)) (show j_l2 (τ_15.2.1 6) (τ_15.1 3) from Y1) (show n_S τ_15 from by exact S15) (show n_J τ_15 from by exact J15) (show m_J τ_15 from by exact M15) (show τ_15.2.1 19 (τ_15.1 22) = 0 from by (first | omega | (simp only [st_s] <;> omega) | assumption | omega | fail)), ?_⟩
              intro τ32 hn_τ32 hf_τ32 hq
              obtain ⟨hT, q30_1, q30_2, q30_3, q30_4, q30_5, q30_6, q30_7, q30_8, q30_9, q30_10, q30_11, q30_12, q30_13, q30_14, q30_15, q30_16, q30_17, q30_18⟩ := hq
              replace q30_1 : (τ32.1 16) ≤ (τ32.1 0) := q30_1
              replace q30_2 : (τ32.1 17) + (τ32.1 18) ≤ (τ32.1 0) := q30_2
              replace q30_3 : ¬ (τ_15.1 20) = 0 → (τ32.1 20) = (τ_15.1 20) := q30_3
              replace q30_4 : τ32.2.1 14 (τ32.1 22) + τ32.2.1 15 (τ32.1 22) = (τ32.1 6) := q30_4
              replace q30_5 : τ32.2.1 18 (τ32.1 22) + τ32.2.1 19 (τ32.1 22) = (τ32.1 7) := q30_5
              replace q30_6 : τ32.2.1 21 (τ32.1 22) + τ32.2.1 22 (τ32.1 22) = (τ32.1 8) := q30_6
              replace q30_7 : ca (τ32.2.1 12) ((τ32.1 3)) ≤ (τ32.1 4) := q30_7
              replace q30_8 : J_pa (τ32.2.1 21) (τ32.2.1 22) := q30_8
              replace q30_9 : (τ32.1 7) ≤ 60 * (τ32.1 22) + τ32.2.1 19 (τ32.1 22) := q30_9
              replace q30_10 : τ32.2.1 25 (τ32.1 22) + τ32.2.1 26 (τ32.1 22) = (τ32.1 9) := q30_10
              replace q30_11 : ca (τ32.2.1 28) ((τ32.1 9)) ≤ ca (τ32.2.1 28) (τ32.2.1 25 (τ32.1 22)) + 300 := q30_11
              replace q30_12 : j_eq (τ_15.2.1 25 (τ_15.1 22)) (τ_15.2.1 28) (τ32.2.1 28) := q30_12
              replace q30_13 : (τ32.1 20) = 0 → (τ32.1 5) = (τ_15.1 5) + 1 ∧ 1 ≤ τ32.2.1 15 (τ32.1 22) := q30_13
              replace q30_14 : (τ32.1 5) ≤ (τ_15.1 5) + 1 := q30_14
              replace q30_15 : (τ_15.1 16) ≤ (τ32.1 16) := q30_15
              replace q30_16 : m_ag τ_15 τ32 := q30_16
              replace q30_17 : (τ32.1 20) = 0 → n_J1 (τ_15.1 5) τ32 ∧ n_S τ32 := q30_17
              replace q30_18 : n_rl τ_15 τ32 := q30_18
              replace ag : m_ag σ τ32 := ag_t ag q30_16 rfl
              have w0_τ32 : τ32.1 0 = τ_15.1 0 := hf_τ32.1 0 (by decide)
              have w2_τ32 : τ32.1 2 = τ_15.1 2 := hf_τ32.1 2 (by decide)
              have w3_τ32 : τ32.1 3 = τ_15.1 3 := hf_τ32.1 3 (by decide)
              have w10_τ32 : τ32.1 10 = τ_15.1 10 := hf_τ32.1 10 (by decide)
              have w11_τ32 : τ32.1 11 = τ_15.1 11 := hf_τ32.1 11 (by decide)
              have w13_τ32 : τ32.1 13 = τ_15.1 13 := hf_τ32.1 13 (by decide)
              have w15_τ32 : τ32.1 15 = τ_15.1 15 := hf_τ32.1 15 (by decide)
              have w22_τ32 : τ32.1 22 = τ_15.1 22 := hf_τ32.1 22 (by decide)
              have g1_τ32 : τ32.2.1 1 = τ_15.2.1 1 := hf_τ32.2.1 1 (by decide)
              have g6_τ32 : τ32.2.1 6 = τ_15.2.1 6 := hf_τ32.2.1 6 (by decide)
              have g7_τ32 : τ32.2.1 7 = τ_15.2.1 7 := hf_τ32.2.1 7 (by decide)
              have g8_τ32 : τ32.2.1 8 = τ_15.2.1 8 := hf_τ32.2.1 8 (by decide)
              have g10_τ32 : τ32.2.1 10 = τ_15.2.1 10 := hf_τ32.2.1 10 (by decide)
              have g11_τ32 : τ32.2.1 11 = τ_15.2.1 11 := hf_τ32.2.1 11 (by decide)
              have g14_τ32 : τ32.2.1 14 = τ_15.2.1 14 := hf_τ32.2.1 14 (by decide)
              have g18_τ32 : τ32.2.1 18 = τ_15.2.1 18 := hf_τ32.2.1 18 (by decide)
              have g21_τ32 : τ32.2.1 21 = τ_15.2.1 21 := hf_τ32.2.1 21 (by decide)
              have g25_τ32 : τ32.2.1 25 = τ_15.2.1 25 := hf_τ32.2.1 25 (by decide)
              have g31_τ32 : τ32.2.1 31 = τ_15.2.1 31 := hf_τ32.2.1 31 (by decide)
              have g35_τ32 : τ32.2.1 35 = τ_15.2.1 35 := hf_τ32.2.1 35 (by decide)
              first | (have o6_τ32 := congrArg oc g6_τ32) | skip
              first | (have o7_τ32 := congrArg oc g7_τ32) | skip
              have W0 : τ32.1 0 = σ.1 0 := by first | exact w0_τ32.trans W0 | omega
              have W3 : τ32.1 3 = σ.1 3 := by first | exact w3_τ32.trans W3 | omega
              have W10 : τ32.1 10 = σ.1 10 := by first | exact w10_τ32.trans W10 | omega
              have W11 : τ32.1 11 = σ.1 11 := by first | exact w11_τ32.trans W11 | omega
              have W15 : τ32.1 15 = σ.1 15 := by first | exact w15_τ32.trans W15 | omega
              have G6 : τ32.2.1 6 = σ.2.1 6 := (g6_τ32).trans G6
              have G8 : τ32.2.1 8 = σ.2.1 8 := (g8_τ32).trans G8
              have G35 : τ32.2.1 35 = σ.2.1 35 := (g35_τ32).trans G35
              have y14_22_τ32 : τ32.2.1 14 (τ32.1 22) = (τ_15.2.1 14) (τ_15.1 22) := by rw [g14_τ32, w22_τ32]
              have y18_22_τ32 : τ32.2.1 18 (τ32.1 22) = (τ_15.2.1 18) (τ_15.1 22) := by rw [g18_τ32, w22_τ32]
              have y21_22_τ32 : τ32.2.1 21 (τ32.1 22) = (τ_15.2.1 21) (τ_15.1 22) := by rw [g21_τ32, w22_τ32]
              have y25_22_τ32 : τ32.2.1 25 (τ32.1 22) = (τ_15.2.1 25) (τ_15.1 22) := by rw [g25_τ32, w22_τ32]
              have Z1 : τ32.2.1 14 (τ32.1 22) + τ32.2.1 15 (τ32.1 22) = (τ32.1 6) := q30_4
              have Z2 : τ32.2.1 18 (τ32.1 22) + τ32.2.1 19 (τ32.1 22) = (τ32.1 7) := q30_5
              have Z3 : τ32.2.1 21 (τ32.1 22) + τ32.2.1 22 (τ32.1 22) = (τ32.1 8) := q30_6
              have Z4 : τ32.2.1 25 (τ32.1 22) + τ32.2.1 26 (τ32.1 22) = (τ32.1 9) := q30_10
              have Y20 : ca (τ32.2.1 12) ((τ32.1 3)) ≤ (τ32.1 4) := q30_7
              have Y1 : j_l2 (τ32.2.1 6) (τ32.1 3) := by rw [show (j_l2 (τ32.2.1 6) (τ32.1 3)) = (j_l2 (τ_15.2.1 6) (τ_15.1 3)) from by rw [w3_τ32, g6_τ32]]; exact Y1
              have Y14 : ca (τ32.2.1 28) ((τ32.1 9)) ≤ ca (τ32.2.1 28) (τ32.2.1 25 (τ32.1 22)) + 300 := q30_11
              have PA : J_pa (τ32.2.1 21) (τ32.2.1 22) := q30_8
              have SYt : oc (τ32.2.1 6) ≤ (τ32.1 3) := by rw [show (oc (τ32.2.1 6) ≤ (τ32.1 3)) = (oc (τ_15.2.1 6) ≤ (τ_15.1 3)) from by rw [w3_τ32, g6_τ32]]; exact SYt
              have STt : j_l2 (τ32.2.1 6) (τ32.1 3) := by rw [show (j_l2 (τ32.2.1 6) (τ32.1 3)) = (j_l2 (τ_15.2.1 6) (τ_15.1 3)) from by rw [w3_τ32, g6_τ32]]; exact STt
              have A1 : ∀ j, 0 ≤ τ32.2.1 1 j ∧ τ32.2.1 1 j ≤ 255 := fun j => hT.2 1 j
              have A6 : ∀ j, (-1) ≤ τ32.2.1 6 j ∧ τ32.2.1 6 j ≤ 999 := fun j => hT.2 6 j
              have A7 : ∀ j, (-1) ≤ τ32.2.1 7 j ∧ τ32.2.1 7 j ≤ 1499 := fun j => hT.2 7 j
              have A8 : ∀ j, 0 ≤ τ32.2.1 8 j ∧ τ32.2.1 8 j ≤ 1 := fun j => hT.2 8 j
              have A10 : ∀ j, (-1) ≤ τ32.2.1 10 j ∧ τ32.2.1 10 j ≤ 999 := fun j => hT.2 10 j
              have A11 : ∀ j, (-1) ≤ τ32.2.1 11 j ∧ τ32.2.1 11 j ≤ 1499 := fun j => hT.2 11 j
              have A12 : ∀ j, 0 ≤ τ32.2.1 12 j ∧ τ32.2.1 12 j ≤ 1 := fun j => hT.2 12 j
              have A13 : ∀ j, 0 ≤ τ32.2.1 13 j ∧ τ32.2.1 13 j ≤ 4 := fun j => hT.2 13 j
              have A14 : ∀ j, 0 ≤ τ32.2.1 14 j ∧ τ32.2.1 14 j ≤ 30000 := fun j => hT.2 14 j
              have A15 : ∀ j, 0 ≤ τ32.2.1 15 j ∧ τ32.2.1 15 j ≤ 300 := fun j => hT.2 15 j
              have A16 : ∀ j, 0 ≤ τ32.2.1 16 j ∧ τ32.2.1 16 j ≤ 999 := fun j => hT.2 16 j
              have A17 : ∀ j, (-1) ≤ τ32.2.1 17 j ∧ τ32.2.1 17 j ≤ 1499 := fun j => hT.2 17 j
              have A18 : ∀ j, 0 ≤ τ32.2.1 18 j ∧ τ32.2.1 18 j ≤ 90000 := fun j => hT.2 18 j
              have A19 : ∀ j, 0 ≤ τ32.2.1 19 j ∧ τ32.2.1 19 j ≤ 60 := fun j => hT.2 19 j
              have A20 : ∀ j, 0 ≤ τ32.2.1 20 j ∧ τ32.2.1 20 j ≤ 1499 := fun j => hT.2 20 j
              have A21 : ∀ j, 0 ≤ τ32.2.1 21 j ∧ τ32.2.1 21 j ≤ 20000 := fun j => hT.2 21 j
              have A22 : ∀ j, 0 ≤ τ32.2.1 22 j ∧ τ32.2.1 22 j ≤ 20000 := fun j => hT.2 22 j
              have A25 : ∀ j, 0 ≤ τ32.2.1 25 j ∧ τ32.2.1 25 j ≤ 20000 := fun j => hT.2 25 j
              have A26 : ∀ j, 0 ≤ τ32.2.1 26 j ∧ τ32.2.1 26 j ≤ 20000 := fun j => hT.2 26 j
              have A27 : ∀ j, (-300) ≤ τ32.2.1 27 j ∧ τ32.2.1 27 j ≤ 1499 := fun j => hT.2 27 j
              have A28 : ∀ j, 0 ≤ τ32.2.1 28 j ∧ τ32.2.1 28 j ≤ 1 := fun j => hT.2 28 j
              have A31 : ∀ j, 0 ≤ τ32.2.1 31 j ∧ τ32.2.1 31 j ≤ 1499 := fun j => hT.2 31 j
              have A35 : ∀ j, 0 ≤ τ32.2.1 35 j ∧ τ32.2.1 35 j ≤ 1500 := fun j => hT.2 35 j
              have v0 : 0 ≤ τ32.1 0 ∧ τ32.1 0 ≤ 60000 := hT.1 0
              have v2 : 0 ≤ τ32.1 2 ∧ τ32.1 2 ≤ 30000 := hT.1 2
              have v3 : 0 ≤ τ32.1 3 ∧ τ32.1 3 ≤ 1000 := hT.1 3
              have v4 : 0 ≤ τ32.1 4 ∧ τ32.1 4 ≤ 100 := hT.1 4
              have v5 : 0 ≤ τ32.1 5 ∧ τ32.1 5 ≤ 1500 := hT.1 5
              have v6 : 0 ≤ τ32.1 6 ∧ τ32.1 6 ≤ 30000 := hT.1 6
              have v7 : 0 ≤ τ32.1 7 ∧ τ32.1 7 ≤ 90000 := hT.1 7
              have v8 : 0 ≤ τ32.1 8 ∧ τ32.1 8 ≤ 20000 := hT.1 8
              have v9 : 0 ≤ τ32.1 9 ∧ τ32.1 9 ≤ 20000 := hT.1 9
              have v10 : (-1) ≤ τ32.1 10 ∧ τ32.1 10 ≤ 999 := hT.1 10
              have v11 : (-1) ≤ τ32.1 11 ∧ τ32.1 11 ≤ 999 := hT.1 11
              have v13 : 0 ≤ τ32.1 13 ∧ τ32.1 13 ≤ 1500 := hT.1 13
              have v15 : 0 ≤ τ32.1 15 ∧ τ32.1 15 ≤ 50 := hT.1 15
              have v16 : 0 ≤ τ32.1 16 ∧ τ32.1 16 ≤ 60000 := hT.1 16
              have v17 : 0 ≤ τ32.1 17 ∧ τ32.1 17 ≤ 60000 := hT.1 17
              have v18 : 0 ≤ τ32.1 18 ∧ τ32.1 18 ≤ 60000 := hT.1 18
              have v19 : (-1) ≤ τ32.1 19 ∧ τ32.1 19 ≤ 125 := hT.1 19
              have v20 : 0 ≤ τ32.1 20 ∧ τ32.1 20 ≤ 19 := hT.1 20
              have v22 : 0 ≤ τ32.1 22 ∧ τ32.1 22 ≤ 1499 := hT.1 22
              have a14_5 : 0 ≤ τ32.2.1 14 (τ32.1 5) ∧ τ32.2.1 14 (τ32.1 5) ≤ 30000 := hT.2 14 _
              have a14_22 : 0 ≤ τ32.2.1 14 (τ32.1 22) ∧ τ32.2.1 14 (τ32.1 22) ≤ 30000 := hT.2 14 _
              have a15_5 : 0 ≤ τ32.2.1 15 (τ32.1 5) ∧ τ32.2.1 15 (τ32.1 5) ≤ 300 := hT.2 15 _
              have a15_22 : 0 ≤ τ32.2.1 15 (τ32.1 22) ∧ τ32.2.1 15 (τ32.1 22) ≤ 300 := hT.2 15 _
              have a18_22 : 0 ≤ τ32.2.1 18 (τ32.1 22) ∧ τ32.2.1 18 (τ32.1 22) ≤ 90000 := hT.2 18 _
              have a19_22 : 0 ≤ τ32.2.1 19 (τ32.1 22) ∧ τ32.2.1 19 (τ32.1 22) ≤ 60 := hT.2 19 _
              have a21_22 : 0 ≤ τ32.2.1 21 (τ32.1 22) ∧ τ32.2.1 21 (τ32.1 22) ≤ 20000 := hT.2 21 _
              have a22_22 : 0 ≤ τ32.2.1 22 (τ32.1 22) ∧ τ32.2.1 22 (τ32.1 22) ≤ 20000 := hT.2 22 _
              have a25_22 : 0 ≤ τ32.2.1 25 (τ32.1 22) ∧ τ32.2.1 25 (τ32.1 22) ≤ 20000 := hT.2 25 _
              have a26_22 : 0 ≤ τ32.2.1 26 (τ32.1 22) ∧ τ32.2.1 26 (τ32.1 22) ≤ 20000 := hT.2 26 _
              have av5 : σ.1 5 ≤ τ32.1 5 := ag.1 5 (by decide)
              have av6 : σ.1 6 ≤ τ32.1 6 := ag.1 6 (by decide)
              have av7 : σ.1 7 ≤ τ32.1 7 := ag.1 7 (by decide)
              have av8 : σ.1 8 ≤ τ32.1 8 := ag.1 8 (by decide)
              have av9 : σ.1 9 ≤ τ32.1 9 := ag.1 9 (by decide)
              have Y8 := j_eqt Y8 (j_eqw q30_12 (show σ.1 9 ≤ τ_15.2.1 25 (τ_15.1 22) from by omega))
              have J32 : τ32.1 20 = 0 → n_J τ32 ∧ n_S τ32 := fun z => ⟨n_J_n J15 M15 q30_16 q30_18 (j_eqw q30_12 (by omega)) hT15 (q30_17 z).1 (q30_13 z).1, (q30_17 z).2⟩
              exact ⟨hT, (show (τ32.1 16) ≤ (τ32.1 0) from by (first | omega | (simp only [st_s] <;> omega) | assumption | omega | fail)), (show (τ32.1 17) + (τ32.1 18) ≤ (τ32.1 0) from by (first | omega | (simp only [st_s] <;> omega) | assumption | omega | fail)), (show ¬ (σ.1 20) = 0 → (τ32.1 20) = (σ.1 20) from by (first | omega | (simp only [st_s] <;> omega) | assumption | omega | fail)), (show ca (τ32.2.1 12) ((τ32.1 3)) ≤ (τ32.1 4) from Y20), (show J_pa (τ32.2.1 21) (τ32.2.1 22) from PA), (show (τ32.1 13) ≤ (τ32.1 5) from by (first | omega | (simp only [st_s] <;> omega) | assumption | omega | fail)), (show oc (τ32.2.1 7) ≤ (σ.1 5) + 1 from by (first | omega | (simp only [st_s] <;> omega) | assumption | omega | fail)), (show (τ32.1 5) ≤ (σ.1 5) + 1 from by (first | omega | (simp only [st_s] <;> omega) | assumption | omega | fail)), (show (τ32.1 20) = 0 → (τ32.1 7) ≤ 60 * (τ32.1 5) from by (first | omega | (simp only [st_s] <;> omega) | assumption | omega | fail)), (show (τ32.1 20) = 0 → (τ32.1 5) = (σ.1 5) + 1 from by (first | omega | (simp only [st_s] <;> omega) | assumption | omega | fail)), (show j_eq ((σ.1 9)) (σ.2.1 28) (τ32.2.1 28) from Y8), (show (τ32.1 20) = 0 → m_J σ → m_J τ32 from by (first | (intro hf; exfalso; omega) | (intro hf hJ; have e5 : σ.1 5 = τ25.1 22 := (by omega); exact m_J_e hJ ag hT0 Y8 (by omega) (by rw [e5] <;> omega) (by rw [e5] <;> omega) (by rw [e5] <;> omega) (by rw [e5] <;> omega) (by rw [e5] <;> omega) (by rw [e5] <;> omega) (by rw [e5] <;> omega) (by rw [e5] <;> omega) (by rw [e5] <;> omega) (by omega) (by rw [e5]; exact Y14)) | (intro hf hJ; have e5 : σ.1 5 = τ28.1 22 := (by omega); exact m_J_e hJ ag hT0 Y8 (by omega) (by rw [e5] <;> omega) (by rw [e5] <;> omega) (by rw [e5] <;> omega) (by rw [e5] <;> omega) (by rw [e5] <;> omega) (by rw [e5] <;> omega) (by rw [e5] <;> omega) (by rw [e5] <;> omega) (by rw [e5] <;> omega) (by omega) (by rw [e5]; exact Y14)) | (intro hf hJ; have e5 : σ.1 5 = τ32.1 22 := (by omega); exact m_J_e hJ ag hT0 Y8 (by omega) (by rw [e5] <;> omega) (by rw [e5] <;> omega) (by rw [e5] <;> omega) (by rw [e5] <;> omega) (by rw [e5] <;> omega) (by rw [e5] <;> omega) (by rw [e5] <;> omega) (by rw [e5] <;> omega) (by rw [e5] <;> omega) (by omega) (by rw [e5]; exact Y14)) | fail)), (show (σ.1 16) ≤ (τ32.1 16) from by (first | omega | (simp only [st_s] <;> omega) | assumption | omega | fail)), ag, (show (τ32.1 20) = 0 → n_J τ32 ∧ n_S τ32 from by (first | (intro z; exfalso; omega) | exact fun _ => ⟨J25, s25⟩ | exact J28 | exact J32 | fail)), (show n_rl σ τ32 from by (first | exact n_rl_t rl15 rl25 | exact n_rl_t rl15 q26_12 | exact n_rl_t rl15 q30_18 | exact n_rl_t rl15 q16_10 | exact n_rl_r rl15 hf_τ15 rfl rfl | exact n_rl_g (by omega) (by omega) (by omega) i15_14 i15_15 | fail)), (show n_hk σ τ32 from by (first | exact n_hk_t hk15 hk25 | exact n_hk_t hk15 q26_13 | exact n_hk_r hk15 hf_τ32 rfl rfl | exact n_hk_r hk15 hf_τ18 rfl rfl | exact n_hk_r hk15 hf_τ15 rfl rfl | exact n_hk_g (by omega) (by omega) i15_17 G35 | fail)), (show n_rc σ τ32 from by (first | exact n_rc_r (n_rc_r (n_rc_r rc15 hf_τ18 rfl rfl) hf_τ22 rfl rfl) hf_τ25 rfl rfl | exact n_rc_r rc15 hf_τ28 rfl rfl | exact n_rc_r rc15 hf_τ32 rfl rfl | exact n_rc_r rc15 hf_τ18 rfl rfl | exact n_rc_r rc15 hf_τ15 rfl rfl | exact i15_18 | fail))⟩
          ·
            refine ⟨fun c12 => ?_, fun c12 => ?_⟩
            ·
              refine ⟨_, K_X13_failHere hT (show 0 ≤ (4 : Int) from by (first | omega | (simp only [st_s] <;> omega) | assumption | omega | fail)) (show (4 : Int) ≤ 19 from by (first | omega | (simp only [st_s] <;> omega) | assumption | omega | fail)), ?_⟩
              intro τ15 hn_τ15 hf_τ15 hq
              obtain ⟨hT, q13_1, q13_2⟩ := hq
              replace q13_1 : ¬ (τ_15.1 20) = 0 → (τ15.1 20) = (τ_15.1 20) := q13_1
              replace q13_2 : (τ_15.1 20) = 0 → (τ15.1 20) = (4 : Int) := q13_2
              replace ag : m_ag σ τ15 := ag_r ag hf_τ15 rfl rfl
              have w0_τ15 : τ15.1 0 = τ_15.1 0 := hf_τ15.1 0 (by decide)
              have w2_τ15 : τ15.1 2 = τ_15.1 2 := hf_τ15.1 2 (by decide)
              have w3_τ15 : τ15.1 3 = τ_15.1 3 := hf_τ15.1 3 (by decide)
              have w4_τ15 : τ15.1 4 = τ_15.1 4 := hf_τ15.1 4 (by decide)
              have w5_τ15 : τ15.1 5 = τ_15.1 5 := hf_τ15.1 5 (by decide)
              have w6_τ15 : τ15.1 6 = τ_15.1 6 := hf_τ15.1 6 (by decide)
              have w7_τ15 : τ15.1 7 = τ_15.1 7 := hf_τ15.1 7 (by decide)
              have w8_τ15 : τ15.1 8 = τ_15.1 8 := hf_τ15.1 8 (by decide)
              have w9_τ15 : τ15.1 9 = τ_15.1 9 := hf_τ15.1 9 (by decide)
              have w10_τ15 : τ15.1 10 = τ_15.1 10 := hf_τ15.1 10 (by decide)
              have w11_τ15 : τ15.1 11 = τ_15.1 11 := hf_τ15.1 11 (by decide)
              have w13_τ15 : τ15.1 13 = τ_15.1 13 := hf_τ15.1 13 (by decide)
              have w15_τ15 : τ15.1 15 = τ_15.1 15 := hf_τ15.1 15 (by decide)
              have w16_τ15 : τ15.1 16 = τ_15.1 16 := hf_τ15.1 16 (by decide)
              have w17_τ15 : τ15.1 17 = τ_15.1 17 := hf_τ15.1 17 (by decide)
              have w18_τ15 : τ15.1 18 = τ_15.1 18 := hf_τ15.1 18 (by decide)
              have w19_τ15 : τ15.1 19 = τ_15.1 19 := hf_τ15.1 19 (by decide)
              have w22_τ15 : τ15.1 22 = τ_15.1 22 := hf_τ15.1 22 (by decide)
              have g1_τ15 : τ15.2.1 1 = τ_15.2.1 1 := hf_τ15.2.1 1 (by decide)
              have g6_τ15 : τ15.2.1 6 = τ_15.2.1 6 := hf_τ15.2.1 6 (by decide)
              have g7_τ15 : τ15.2.1 7 = τ_15.2.1 7 := hf_τ15.2.1 7 (by decide)
              have g8_τ15 : τ15.2.1 8 = τ_15.2.1 8 := hf_τ15.2.1 8 (by decide)
              have g10_τ15 : τ15.2.1 10 = τ_15.2.1 10 := hf_τ15.2.1 10 (by decide)
              have g11_τ15 : τ15.2.1 11 = τ_15.2.1 11 := hf_τ15.2.1 11 (by decide)
              have g12_τ15 : τ15.2.1 12 = τ_15.2.1 12 := hf_τ15.2.1 12 (by decide)
              have g13_τ15 : τ15.2.1 13 = τ_15.2.1 13 := hf_τ15.2.1 13 (by decide)
              have g14_τ15 : τ15.2.1 14 = τ_15.2.1 14 := hf_τ15.2.1 14 (by decide)
              have g15_τ15 : τ15.2.1 15 = τ_15.2.1 15 := hf_τ15.2.1 15 (by decide)
              have g16_τ15 : τ15.2.1 16 = τ_15.2.1 16 := hf_τ15.2.1 16 (by decide)
              have g17_τ15 : τ15.2.1 17 = τ_15.2.1 17 := hf_τ15.2.1 17 (by decide)
              have g18_τ15 : τ15.2.1 18 = τ_15.2.1 18 := hf_τ15.2.1 18 (by decide)
              have g19_τ15 : τ15.2.1 19 = τ_15.2.1 19 := hf_τ15.2.1 19 (by decide)
              have g20_τ15 : τ15.2.1 20 = τ_15.2.1 20 := hf_τ15.2.1 20 (by decide)
              have g21_τ15 : τ15.2.1 21 = τ_15.2.1 21 := hf_τ15.2.1 21 (by decide)
              have g22_τ15 : τ15.2.1 22 = τ_15.2.1 22 := hf_τ15.2.1 22 (by decide)
              have g25_τ15 : τ15.2.1 25 = τ_15.2.1 25 := hf_τ15.2.1 25 (by decide)
              have g26_τ15 : τ15.2.1 26 = τ_15.2.1 26 := hf_τ15.2.1 26 (by decide)
              have g27_τ15 : τ15.2.1 27 = τ_15.2.1 27 := hf_τ15.2.1 27 (by decide)
              have g28_τ15 : τ15.2.1 28 = τ_15.2.1 28 := hf_τ15.2.1 28 (by decide)
              have g31_τ15 : τ15.2.1 31 = τ_15.2.1 31 := hf_τ15.2.1 31 (by decide)
              have g35_τ15 : τ15.2.1 35 = τ_15.2.1 35 := hf_τ15.2.1 35 (by decide)
              first | (have o6_τ15 := congrArg oc g6_τ15) | skip
              first | (have o7_τ15 := congrArg oc g7_τ15) | skip
              have W0 : τ15.1 0 = σ.1 0 := by first | exact w0_τ15.trans W0 | omega
              have W3 : τ15.1 3 = σ.1 3 := by first | exact w3_τ15.trans W3 | omega
              have W10 : τ15.1 10 = σ.1 10 := by first | exact w10_τ15.trans W10 | omega
              have W11 : τ15.1 11 = σ.1 11 := by first | exact w11_τ15.trans W11 | omega
              have W15 : τ15.1 15 = σ.1 15 := by first | exact w15_τ15.trans W15 | omega
              have G6 : τ15.2.1 6 = σ.2.1 6 := (g6_τ15).trans G6
              have G8 : τ15.2.1 8 = σ.2.1 8 := (g8_τ15).trans G8
              have G35 : τ15.2.1 35 = σ.2.1 35 := (g35_τ15).trans G35
              have y14_5_τ15 : τ15.2.1 14 (τ15.1 5) = (τ_15.2.1 14) (τ_15.1 5) := by rw [g14_τ15, w5_τ15]
              have y14_22_τ15 : τ15.2.1 14 (τ15.1 22) = (τ_15.2.1 14) (τ_15.1 22) := by rw [g14_τ15, w22_τ15]
              have y15_5_τ15 : τ15.2.1 15 (τ15.1 5) = (τ_15.2.1 15) (τ_15.1 5) := by rw [g15_τ15, w5_τ15]
              have y15_22_τ15 : τ15.2.1 15 (τ15.1 22) = (τ_15.2.1 15) (τ_15.1 22) := by rw [g15_τ15, w22_τ15]
              have y18_22_τ15 : τ15.2.1 18 (τ15.1 22) = (τ_15.2.1 18) (τ_15.1 22) := by rw [g18_τ15, w22_τ15]
              have y19_22_τ15 : τ15.2.1 19 (τ15.1 22) = (τ_15.2.1 19) (τ_15.1 22) := by rw [g19_τ15, w22_τ15]
              have y21_22_τ15 : τ15.2.1 21 (τ15.1 22) = (τ_15.2.1 21) (τ_15.1 22) := by rw [g21_τ15, w22_τ15]
              have y22_22_τ15 : τ15.2.1 22 (τ15.1 22) = (τ_15.2.1 22) (τ_15.1 22) := by rw [g22_τ15, w22_τ15]
              have y25_22_τ15 : τ15.2.1 25 (τ15.1 22) = (τ_15.2.1 25) (τ_15.1 22) := by rw [g25_τ15, w22_τ15]
              have y26_22_τ15 : τ15.2.1 26 (τ15.1 22) = (τ_15.2.1 26) (τ_15.1 22) := by rw [g26_τ15, w22_τ15]
              have Z1 : τ15.2.1 14 (τ15.1 22) + τ15.2.1 15 (τ15.1 22) = (τ15.1 6) := by rw [show (τ15.2.1 14 (τ15.1 22) + τ15.2.1 15 (τ15.1 22) = (τ15.1 6)) = (τ_15.2.1 14 (τ_15.1 22) + τ_15.2.1 15 (τ_15.1 22) = (τ_15.1 6)) from by rw [w6_τ15, w22_τ15, g14_τ15, g15_τ15]]; exact Z1
              have Z2 : τ15.2.1 18 (τ15.1 22) + τ15.2.1 19 (τ15.1 22) = (τ15.1 7) := by rw [show (τ15.2.1 18 (τ15.1 22) + τ15.2.1 19 (τ15.1 22) = (τ15.1 7)) = (τ_15.2.1 18 (τ_15.1 22) + τ_15.2.1 19 (τ_15.1 22) = (τ_15.1 7)) from by rw [w7_τ15, w22_τ15, g18_τ15, g19_τ15]]; exact Z2
              have Z3 : τ15.2.1 21 (τ15.1 22) + τ15.2.1 22 (τ15.1 22) = (τ15.1 8) := by rw [show (τ15.2.1 21 (τ15.1 22) + τ15.2.1 22 (τ15.1 22) = (τ15.1 8)) = (τ_15.2.1 21 (τ_15.1 22) + τ_15.2.1 22 (τ_15.1 22) = (τ_15.1 8)) from by rw [w8_τ15, w22_τ15, g21_τ15, g22_τ15]]; exact Z3
              have Z4 : τ15.2.1 25 (τ15.1 22) + τ15.2.1 26 (τ15.1 22) = (τ15.1 9) := by rw [show (τ15.2.1 25 (τ15.1 22) + τ15.2.1 26 (τ15.1 22) = (τ15.1 9)) = (τ_15.2.1 25 (τ_15.1 22) + τ_15.2.1 26 (τ_15.1 22) = (τ_15.1 9)) from by rw [w9_τ15, w22_τ15, g25_τ15, g26_τ15]]; exact Z4
              have Y20 : ca (τ15.2.1 12) ((τ15.1 3)) ≤ (τ15.1 4) := by rw [show (ca (τ15.2.1 12) ((τ15.1 3)) ≤ (τ15.1 4)) = (ca (τ_15.2.1 12) ((τ_15.1 3)) ≤ (τ_15.1 4)) from by rw [w3_τ15, w4_τ15, g12_τ15]]; exact Y20
              have Y8 : j_eq ((σ.1 9)) (σ.2.1 28) (τ15.2.1 28) := by rw [show (j_eq ((σ.1 9)) (σ.2.1 28) (τ15.2.1 28)) = (j_eq ((σ.1 9)) (σ.2.1 28) (τ_15.2.1 28)) from by rw [g28_τ15]]; exact Y8
              have Y1 : j_l2 (τ15.2.1 6) (τ15.1 3) := by rw [show (j_l2 (τ15.2.1 6) (τ15.1 3)) = (j_l2 (τ_15.2.1 6) (τ_15.1 3)) from by rw [w3_τ15, g6_τ15]]; exact Y1
              have Y14 : ca (τ15.2.1 28) ((τ15.1 9)) ≤ ca (τ15.2.1 28) (τ15.2.1 25 (τ15.1 22)) + 300 := by rw [show (ca (τ15.2.1 28) ((τ15.1 9)) ≤ ca (τ15.2.1 28) (τ15.2.1 25 (τ15.1 22)) + 300) = (ca (τ_15.2.1 28) ((τ_15.1 9)) ≤ ca (τ_15.2.1 28) (τ_15.2.1 25 (τ_15.1 22)) + 300) from by rw [w9_τ15, w22_τ15, g25_τ15, g28_τ15]]; exact Y14
              have PA : J_pa (τ15.2.1 21) (τ15.2.1 22) := by rw [show (J_pa (τ15.2.1 21) (τ15.2.1 22)) = (J_pa (τ_15.2.1 21) (τ_15.2.1 22)) from by rw [g21_τ15, g22_τ15]]; exact PA
              have SYt : oc (τ15.2.1 6) ≤ (τ15.1 3) := by rw [show (oc (τ15.2.1 6) ≤ (τ15.1 3)) = (oc (τ_15.2.1 6) ≤ (τ_15.1 3)) from by rw [w3_τ15, g6_τ15]]; exact SYt
              have STt : j_l2 (τ15.2.1 6) (τ15.1 3) := by rw [show (j_l2 (τ15.2.1 6) (τ15.1 3)) = (j_l2 (τ_15.2.1 6) (τ_15.1 3)) from by rw [w3_τ15, g6_τ15]]; exact STt
              have A1 : ∀ j, 0 ≤ τ15.2.1 1 j ∧ τ15.2.1 1 j ≤ 255 := fun j => hT.2 1 j
              have A6 : ∀ j, (-1) ≤ τ15.2.1 6 j ∧ τ15.2.1 6 j ≤ 999 := fun j => hT.2 6 j
              have A7 : ∀ j, (-1) ≤ τ15.2.1 7 j ∧ τ15.2.1 7 j ≤ 1499 := fun j => hT.2 7 j
              have A8 : ∀ j, 0 ≤ τ15.2.1 8 j ∧ τ15.2.1 8 j ≤ 1 := fun j => hT.2 8 j
              have A10 : ∀ j, (-1) ≤ τ15.2.1 10 j ∧ τ15.2.1 10 j ≤ 999 := fun j => hT.2 10 j
              have A11 : ∀ j, (-1) ≤ τ15.2.1 11 j ∧ τ15.2.1 11 j ≤ 1499 := fun j => hT.2 11 j
              have A12 : ∀ j, 0 ≤ τ15.2.1 12 j ∧ τ15.2.1 12 j ≤ 1 := fun j => hT.2 12 j
              have A13 : ∀ j, 0 ≤ τ15.2.1 13 j ∧ τ15.2.1 13 j ≤ 4 := fun j => hT.2 13 j
              have A14 : ∀ j, 0 ≤ τ15.2.1 14 j ∧ τ15.2.1 14 j ≤ 30000 := fun j => hT.2 14 j
              have A15 : ∀ j, 0 ≤ τ15.2.1 15 j ∧ τ15.2.1 15 j ≤ 300 := fun j => hT.2 15 j
              have A16 : ∀ j, 0 ≤ τ15.2.1 16 j ∧ τ15.2.1 16 j ≤ 999 := fun j => hT.2 16 j
              have A17 : ∀ j, (-1) ≤ τ15.2.1 17 j ∧ τ15.2.1 17 j ≤ 1499 := fun j => hT.2 17 j
              have A18 : ∀ j, 0 ≤ τ15.2.1 18 j ∧ τ15.2.1 18 j ≤ 90000 := fun j => hT.2 18 j
              have A19 : ∀ j, 0 ≤ τ15.2.1 19 j ∧ τ15.2.1 19 j ≤ 60 := fun j => hT.2 19 j
              have A20 : ∀ j, 0 ≤ τ15.2.1 20 j ∧ τ15.2.1 20 j ≤ 1499 := fun j => hT.2 20 j
              have A21 : ∀ j, 0 ≤ τ15.2.1 21 j ∧ τ15.2.1 21 j ≤ 20000 := fun j => hT.2 21 j
              have A22 : ∀ j, 0 ≤ τ15.2.1 22 j ∧ τ15.2.1 22 j ≤ 20000 := fun j => hT.2 22 j
              have A25 : ∀ j, 0 ≤ τ15.2.1 25 j ∧ τ15.2.1 25 j ≤ 20000 := fun j => hT.2 25 j
              have A26 : ∀ j, 0 ≤ τ15.2.1 26 j ∧ τ15.2.1 26 j ≤ 20000 := fun j => hT.2 26 j
              have A27 : ∀ j, (-300) ≤ τ15.2.1 27 j ∧ τ15.2.1 27 j ≤ 1499 := fun j => hT.2 27 j
              have A28 : ∀ j, 0 ≤ τ15.2.1 28 j ∧ τ15.2.1 28 j ≤ 1 := fun j => hT.2 28 j
              have A31 : ∀ j, 0 ≤ τ15.2.1 31 j ∧ τ15.2.1 31 j ≤ 1499 := fun j => hT.2 31 j
              have A35 : ∀ j, 0 ≤ τ15.2.1 35 j ∧ τ15.2.1 35 j ≤ 1500 := fun j => hT.2 35 j
              have v0 : 0 ≤ τ15.1 0 ∧ τ15.1 0 ≤ 60000 := hT.1 0
              have v2 : 0 ≤ τ15.1 2 ∧ τ15.1 2 ≤ 30000 := hT.1 2
              have v3 : 0 ≤ τ15.1 3 ∧ τ15.1 3 ≤ 1000 := hT.1 3
              have v4 : 0 ≤ τ15.1 4 ∧ τ15.1 4 ≤ 100 := hT.1 4
              have v5 : 0 ≤ τ15.1 5 ∧ τ15.1 5 ≤ 1500 := hT.1 5
              have v6 : 0 ≤ τ15.1 6 ∧ τ15.1 6 ≤ 30000 := hT.1 6
              have v7 : 0 ≤ τ15.1 7 ∧ τ15.1 7 ≤ 90000 := hT.1 7
              have v8 : 0 ≤ τ15.1 8 ∧ τ15.1 8 ≤ 20000 := hT.1 8
              have v9 : 0 ≤ τ15.1 9 ∧ τ15.1 9 ≤ 20000 := hT.1 9
              have v10 : (-1) ≤ τ15.1 10 ∧ τ15.1 10 ≤ 999 := hT.1 10
              have v11 : (-1) ≤ τ15.1 11 ∧ τ15.1 11 ≤ 999 := hT.1 11
              have v13 : 0 ≤ τ15.1 13 ∧ τ15.1 13 ≤ 1500 := hT.1 13
              have v15 : 0 ≤ τ15.1 15 ∧ τ15.1 15 ≤ 50 := hT.1 15
              have v16 : 0 ≤ τ15.1 16 ∧ τ15.1 16 ≤ 60000 := hT.1 16
              have v17 : 0 ≤ τ15.1 17 ∧ τ15.1 17 ≤ 60000 := hT.1 17
              have v18 : 0 ≤ τ15.1 18 ∧ τ15.1 18 ≤ 60000 := hT.1 18
              have v19 : (-1) ≤ τ15.1 19 ∧ τ15.1 19 ≤ 125 := hT.1 19
              have v20 : 0 ≤ τ15.1 20 ∧ τ15.1 20 ≤ 19 := hT.1 20
              have v22 : 0 ≤ τ15.1 22 ∧ τ15.1 22 ≤ 1499 := hT.1 22
              have a14_5 : 0 ≤ τ15.2.1 14 (τ15.1 5) ∧ τ15.2.1 14 (τ15.1 5) ≤ 30000 := hT.2 14 _
              have a14_22 : 0 ≤ τ15.2.1 14 (τ15.1 22) ∧ τ15.2.1 14 (τ15.1 22) ≤ 30000 := hT.2 14 _
              have a15_5 : 0 ≤ τ15.2.1 15 (τ15.1 5) ∧ τ15.2.1 15 (τ15.1 5) ≤ 300 := hT.2 15 _
              have a15_22 : 0 ≤ τ15.2.1 15 (τ15.1 22) ∧ τ15.2.1 15 (τ15.1 22) ≤ 300 := hT.2 15 _
              have a18_22 : 0 ≤ τ15.2.1 18 (τ15.1 22) ∧ τ15.2.1 18 (τ15.1 22) ≤ 90000 := hT.2 18 _
              have a19_22 : 0 ≤ τ15.2.1 19 (τ15.1 22) ∧ τ15.2.1 19 (τ15.1 22) ≤ 60 := hT.2 19 _
              have a21_22 : 0 ≤ τ15.2.1 21 (τ15.1 22) ∧ τ15.2.1 21 (τ15.1 22) ≤ 20000 := hT.2 21 _
              have a22_22 : 0 ≤ τ15.2.1 22 (τ15.1 22) ∧ τ15.2.1 22 (τ15.1 22) ≤ 20000 := hT.2 22 _
              have a25_22 : 0 ≤ τ15.2.1 25 (τ15.1 22) ∧ τ15.2.1 25 (τ15.1 22) ≤ 20000 := hT.2 25 _
              have a26_22 : 0 ≤ τ15.2.1 26 (τ15.1 22) ∧ τ15.2.1 26 (τ15.1 22) ≤ 20000 := hT.2 26 _
              have av5 : σ.1 5 ≤ τ15.1 5 := ag.1 5 (by decide)
              have av6 : σ.1 6 ≤ τ15.1 6 := ag.1 6 (by decide)
              have av7 : σ.1 7 ≤ τ15.1 7 := ag.1 7 (by decide)
              have av8 : σ.1 8 ≤ τ15.1 8 := ag.1 8 (by decide)
              have av9 : σ.1 9 ≤ τ15.1 9 := ag.1 9 (by decide)
              exact ⟨hT, (show (τ15.1 16) ≤ (τ15.1 0) from by (first | omega | (simp only [st_s] <;> omega) | assumption | omega | fail)), (show (τ15.1 17) + (τ15.1 18) ≤ (τ15.1 0) from by (first | omega | (simp only [st_s] <;> omega) | assumption | omega | fail)), (show ¬ (σ.1 20) = 0 → (τ15.1 20) = (σ.1 20) from by (first | omega | (simp only [st_s] <;> omega) | assumption | omega | fail)), (show ca (τ15.2.1 12) ((τ15.1 3)) ≤ (τ15.1 4) from Y20), (show J_pa (τ15.2.1 21) (τ15.2.1 22) from PA), (show (τ15.1 13) ≤ (τ15.1 5) from by (first | omega | (simp only [st_s] <;> omega) | assumption | omega | fail)), (show oc (τ15.2.1 7) ≤ (σ.1 5) + 1 from by (first | omega | (simp only [st_s] <;> omega) | assumption | omega | fail)), (show (τ15.1 5) ≤ (σ.1 5) + 1 from by (first | omega | (simp only [st_s] <;> omega) | assumption | omega | fail)), (show (τ15.1 20) = 0 → (τ15.1 7) ≤ 60 * (τ15.1 5) from by (first | omega | (simp only [st_s] <;> omega) | assumption | omega | fail)), (show (τ15.1 20) = 0 → (τ15.1 5) = (σ.1 5) + 1 from by (first | omega | (simp only [st_s] <;> omega) | assumption | omega | fail)), (show j_eq ((σ.1 9)) (σ.2.1 28) (τ15.2.1 28) from Y8), (show (τ15.1 20) = 0 → m_J σ → m_J τ15 from by (first | (intro hf; exfalso; omega) | (intro hf hJ; have e5 : σ.1 5 = τ25.1 22 := (by omega); exact m_J_e hJ ag hT0 Y8 (by omega) (by rw [e5] <;> omega) (by rw [e5] <;> omega) (by rw [e5] <;> omega) (by rw [e5] <;> omega) (by rw [e5] <;> omega) (by rw [e5] <;> omega) (by rw [e5] <;> omega) (by rw [e5] <;> omega) (by rw [e5] <;> omega) (by omega) (by rw [e5]; exact Y14)) | (intro hf hJ; have e5 : σ.1 5 = τ28.1 22 := (by omega); exact m_J_e hJ ag hT0 Y8 (by omega) (by rw [e5] <;> omega) (by rw [e5] <;> omega) (by rw [e5] <;> omega) (by rw [e5] <;> omega) (by rw [e5] <;> omega) (by rw [e5] <;> omega) (by rw [e5] <;> omega) (by rw [e5] <;> omega) (by rw [e5] <;> omega) (by omega) (by rw [e5]; exact Y14)) | (intro hf hJ; have e5 : σ.1 5 = τ32.1 22 := (by omega); exact m_J_e hJ ag hT0 Y8 (by omega) (by rw [e5] <;> omega) (by rw [e5] <;> omega) (by rw [e5] <;> omega) (by rw [e5] <;> omega) (by rw [e5] <;> omega) (by rw [e5] <;> omega) (by rw [e5] <;> omega) (by rw [e5] <;> omega) (by rw [e5] <;> omega) (by omega) (by rw [e5]; exact Y14)) | fail)), (show (σ.1 16) ≤ (τ15.1 16) from by (first | omega | (simp only [st_s] <;> omega) | assumption | omega | fail)), ag, (show (τ15.1 20) = 0 → n_J τ15 ∧ n_S τ15 from by (first | (intro z; exfalso; omega) | exact fun _ => ⟨J25, s25⟩ | exact J28 | exact J32 | fail)), (show n_rl σ τ15 from by (first | exact n_rl_t rl15 rl25 | exact n_rl_t rl15 q26_12 | exact n_rl_t rl15 q30_18 | exact n_rl_t rl15 q16_10 | exact n_rl_r rl15 hf_τ15 rfl rfl | exact n_rl_g (by omega) (by omega) (by omega) i15_14 i15_15 | fail)), (show n_hk σ τ15 from by (first | exact n_hk_t hk15 hk25 | exact n_hk_t hk15 q26_13 | exact n_hk_r hk15 hf_τ32 rfl rfl | exact n_hk_r hk15 hf_τ18 rfl rfl | exact n_hk_r hk15 hf_τ15 rfl rfl | exact n_hk_g (by omega) (by omega) i15_17 G35 | fail)), (show n_rc σ τ15 from by (first | exact n_rc_r (n_rc_r (n_rc_r rc15 hf_τ18 rfl rfl) hf_τ22 rfl rfl) hf_τ25 rfl rfl | exact n_rc_r rc15 hf_τ28 rfl rfl | exact n_rc_r rc15 hf_τ32 rfl rfl | exact n_rc_r rc15 hf_τ18 rfl rfl | exact n_rc_r rc15 hf_τ15 rfl rfl | exact i15_18 | fail))⟩
            ·
              refine h91 _ ?_
              refine ⟨fun c29 => ?_, fun c29 => ?_⟩
              ·
                refine h106 _ _ ?_
                refine ⟨_, K3_X13_readAssertion hT (show (τ_15.1 16) ≤ (τ_15.1 0) from by (first | omega | (simp only [st_s] <;> omega) | assumption | omega | fail)) (show (τ_15.1 17) + (τ_15.1 18) ≤ (τ_15.1 0) from by (first | omega | (simp only [st_s] <;> omega) | assumption | omega | fail)) (show oc (τ_15.2.1 6) < 4096 from by (first | omega | (simp only [st_s] <;> omega) | assumption | omega | fail)) (show oc (τ_15.2.1 7) < 4096 from by (first | omega | (simp only [st_s] <;> omega) | assumption | omega | fail)) (show 0 ≤ (0 : Int) from by (first | omega | (simp only [st_s] <;> omega) | assumption | omega | fail)) (show (0 : Int) ≤ 1 from by (first | omega | (simp only [st_s] <;> omega) | assumption | omega | fail)) (show τ_15.2.1 15 (τ_15.1 22) = 0 from by (first | omega | (simp only [st_s] <;> omega) | assumption | omega | fail)) (show τ_15.2.1 26 (τ_15.1 22) = 0 from by (first | omega | (simp only [st_s] <;> omega) | assumption | omega | fail)) (show (τ_15.1 22) = (τ_15.1 5) from by (first | omega | (simp only [st_s] <;> omega) | assumption | omega | fail)) (show τ_15.2.1 14 (τ_15.1 22) + τ_15.2.1 15 (τ_15.1 22) = (τ_15.1 6) from Z1) (show τ_15.2.1 18 (τ_15.1 22) + τ_15.2.1 19 (τ_15.1 22) = (τ_15.1 7) from Z2) (show τ_15.2.1 21 (τ_15.1 22) + τ_15.2.1 22 (τ_15.1 22) = (τ_15.1 8) from Z3) (show τ_15.2.1 25 (τ_15.1 22) + τ_15.2.1 26 (τ_15.1 22) = (τ_15.1 9) from Z4) (show ca (τ_15.2.1 12) ((τ_15.1 3)) ≤ (τ_15.1 4) from Y20) (show J_pa (τ_15.2.1 21) (τ_15.2.1 22) from PA) (show (τ_15.1 7) ≤ 60 * (τ_15.1 22) + τ_15.2.1 19 (τ_15.1 22) from by (first | omega | (simp only [st_s] <;> omega) | assumption | omega | fail)) (show (τ_15.1 5) < 1500 from by (first | omega | (simp only [st_s] <;> omega) | assumption | omega | fail)) (show j_l2 (τ_15.2.1 6) (τ_15.1 3) from Y1) (show n_S τ_15 from by exact S15) (show n_J τ_15 from by exact J15) (show m_J τ_15 from by exact M15) (show τ_15.2.1 19 (τ_15.1 22) = 0 from by (first | omega | (simp only [st_s] <;> omega) | assumption | omega | fail)), ?_⟩
                intro τ32 hn_τ32 hf_τ32 hq
                obtain ⟨hT, q30_1, q30_2, q30_3, q30_4, q30_5, q30_6, q30_7, q30_8, q30_9, q30_10, q30_11, q30_12, q30_13, q30_14, q30_15, q30_16, q30_17, q30_18⟩ := hq
                replace q30_1 : (τ32.1 16) ≤ (τ32.1 0) := q30_1
                replace q30_2 : (τ32.1 17) + (τ32.1 18) ≤ (τ32.1 0) := q30_2
                replace q30_3 : ¬ (τ_15.1 20) = 0 → (τ32.1 20) = (τ_15.1 20) := q30_3
                replace q30_4 : τ32.2.1 14 (τ32.1 22) + τ32.2.1 15 (τ32.1 22) = (τ32.1 6) := q30_4
                replace q30_5 : τ32.2.1 18 (τ32.1 22) + τ32.2.1 19 (τ32.1 22) = (τ32.1 7) := q30_5
                replace q30_6 : τ32.2.1 21 (τ32.1 22) + τ32.2.1 22 (τ32.1 22) = (τ32.1 8) := q30_6
                replace q30_7 : ca (τ32.2.1 12) ((τ32.1 3)) ≤ (τ32.1 4) := q30_7
                replace q30_8 : J_pa (τ32.2.1 21) (τ32.2.1 22) := q30_8
                replace q30_9 : (τ32.1 7) ≤ 60 * (τ32.1 22) + τ32.2.1 19 (τ32.1 22) := q30_9
                replace q30_10 : τ32.2.1 25 (τ32.1 22) + τ32.2.1 26 (τ32.1 22) = (τ32.1 9) := q30_10
                replace q30_11 : ca (τ32.2.1 28) ((τ32.1 9)) ≤ ca (τ32.2.1 28) (τ32.2.1 25 (τ32.1 22)) + 300 := q30_11
                replace q30_12 : j_eq (τ_15.2.1 25 (τ_15.1 22)) (τ_15.2.1 28) (τ32.2.1 28) := q30_12
                replace q30_13 : (τ32.1 20) = 0 → (τ32.1 5) = (τ_15.1 5) + 1 ∧ 1 ≤ τ32.2.1 15 (τ32.1 22) := q30_13
                replace q30_14 : (τ32.1 5) ≤ (τ_15.1 5) + 1 := q30_14
                replace q30_15 : (τ_15.1 16) ≤ (τ32.1 16) := q30_15
                replace q30_16 : m_ag τ_15 τ32 := q30_16
                replace q30_17 : (τ32.1 20) = 0 → n_J1 (τ_15.1 5) τ32 ∧ n_S τ32 := q30_17
                replace q30_18 : n_rl τ_15 τ32 := q30_18
                replace ag : m_ag σ τ32 := ag_t ag q30_16 rfl
                have w0_τ32 : τ32.1 0 = τ_15.1 0 := hf_τ32.1 0 (by decide)
                have w2_τ32 : τ32.1 2 = τ_15.1 2 := hf_τ32.1 2 (by decide)
                have w3_τ32 : τ32.1 3 = τ_15.1 3 := hf_τ32.1 3 (by decide)
                have w10_τ32 : τ32.1 10 = τ_15.1 10 := hf_τ32.1 10 (by decide)
                have w11_τ32 : τ32.1 11 = τ_15.1 11 := hf_τ32.1 11 (by decide)
                have w13_τ32 : τ32.1 13 = τ_15.1 13 := hf_τ32.1 13 (by decide)
                have w15_τ32 : τ32.1 15 = τ_15.1 15 := hf_τ32.1 15 (by decide)
                have w22_τ32 : τ32.1 22 = τ_15.1 22 := hf_τ32.1 22 (by decide)
                have g1_τ32 : τ32.2.1 1 = τ_15.2.1 1 := hf_τ32.2.1 1 (by decide)
                have g6_τ32 : τ32.2.1 6 = τ_15.2.1 6 := hf_τ32.2.1 6 (by decide)
                have g7_τ32 : τ32.2.1 7 = τ_15.2.1 7 := hf_τ32.2.1 7 (by decide)
                have g8_τ32 : τ32.2.1 8 = τ_15.2.1 8 := hf_τ32.2.1 8 (by decide)
                have g10_τ32 : τ32.2.1 10 = τ_15.2.1 10 := hf_τ32.2.1 10 (by decide)
                have g11_τ32 : τ32.2.1 11 = τ_15.2.1 11 := hf_τ32.2.1 11 (by decide)
                have g14_τ32 : τ32.2.1 14 = τ_15.2.1 14 := hf_τ32.2.1 14 (by decide)
                have g18_τ32 : τ32.2.1 18 = τ_15.2.1 18 := hf_τ32.2.1 18 (by decide)
                have g21_τ32 : τ32.2.1 21 = τ_15.2.1 21 := hf_τ32.2.1 21 (by decide)
                have g25_τ32 : τ32.2.1 25 = τ_15.2.1 25 := hf_τ32.2.1 25 (by decide)
                have g31_τ32 : τ32.2.1 31 = τ_15.2.1 31 := hf_τ32.2.1 31 (by decide)
                have g35_τ32 : τ32.2.1 35 = τ_15.2.1 35 := hf_τ32.2.1 35 (by decide)
                first | (have o6_τ32 := congrArg oc g6_τ32) | skip
                first | (have o7_τ32 := congrArg oc g7_τ32) | skip
                have W0 : τ32.1 0 = σ.1 0 := by first | exact w0_τ32.trans W0 | omega
                have W3 : τ32.1 3 = σ.1 3 := by first | exact w3_τ32.trans W3 | omega
                have W10 : τ32.1 10 = σ.1 10 := by first | exact w10_τ32.trans W10 | omega
                have W11 : τ32.1 11 = σ.1 11 := by first | exact w11_τ32.trans W11 | omega
                have W15 : τ32.1 15 = σ.1 15 := by first | exact w15_τ32.trans W15 | omega
                have G6 : τ32.2.1 6 = σ.2.1 6 := (g6_τ32).trans G6
                have G8 : τ32.2.1 8 = σ.2.1 8 := (g8_τ32).trans G8
                have G35 : τ32.2.1 35 = σ.2.1 35 := (g35_τ32).trans G35
                have y14_22_τ32 : τ32.2.1 14 (τ32.1 22) = (τ_15.2.1 14) (τ_15.1 22) := by rw [g14_τ32, w22_τ32]
                have y18_22_τ32 : τ32.2.1 18 (τ32.1 22) = (τ_15.2.1 18) (τ_15.1 22) := by rw [g18_τ32, w22_τ32]
                have y21_22_τ32 : τ32.2.1 21 (τ32.1 22) = (τ_15.2.1 21) (τ_15.1 22) := by rw [g21_τ32, w22_τ32]
                have y25_22_τ32 : τ32.2.1 25 (τ32.1 22) = (τ_15.2.1 25) (τ_15.1 22) := by rw [g25_τ32, w22_τ32]
                have Z1 : τ32.2.1 14 (τ32.1 22) + τ32.2.1 15 (τ32.1 22) = (τ32.1 6) := q30_4
                have Z2 : τ32.2.1 18 (τ32.1 22) + τ32.2.1 19 (τ32.1 22) = (τ32.1 7) := q30_5
                have Z3 : τ32.2.1 21 (τ32.1 22) + τ32.2.1 22 (τ32.1 22) = (τ32.1 8) := q30_6
                have Z4 : τ32.2.1 25 (τ32.1 22) + τ32.2.1 26 (τ32.1 22) = (τ32.1 9) := q30_10
                have Y20 : ca (τ32.2.1 12) ((τ32.1 3)) ≤ (τ32.1 4) := q30_7
                have Y1 : j_l2 (τ32.2.1 6) (τ32.1 3) := by rw [show (j_l2 (τ32.2.1 6) (τ32.1 3)) = (j_l2 (τ_15.2.1 6) (τ_15.1 3)) from by rw [w3_τ32, g6_τ32]]; exact Y1
                have Y14 : ca (τ32.2.1 28) ((τ32.1 9)) ≤ ca (τ32.2.1 28) (τ32.2.1 25 (τ32.1 22)) + 300 := q30_11
                have PA : J_pa (τ32.2.1 21) (τ32.2.1 22) := q30_8
                have SYt : oc (τ32.2.1 6) ≤ (τ32.1 3) := by rw [show (oc (τ32.2.1 6) ≤ (τ32.1 3)) = (oc (τ_15.2.1 6) ≤ (τ_15.1 3)) from by rw [w3_τ32, g6_τ32]]; exact SYt
                have STt : j_l2 (τ32.2.1 6) (τ32.1 3) := by rw [show (j_l2 (τ32.2.1 6) (τ32.1 3)) = (j_l2 (τ_15.2.1 6) (τ_15.1 3)) from by rw [w3_τ32, g6_τ32]]; exact STt
                have A1 : ∀ j, 0 ≤ τ32.2.1 1 j ∧ τ32.2.1 1 j ≤ 255 := fun j => hT.2 1 j
                have A6 : ∀ j, (-1) ≤ τ32.2.1 6 j ∧ τ32.2.1 6 j ≤ 999 := fun j => hT.2 6 j
                have A7 : ∀ j, (-1) ≤ τ32.2.1 7 j ∧ τ32.2.1 7 j ≤ 1499 := fun j => hT.2 7 j
                have A8 : ∀ j, 0 ≤ τ32.2.1 8 j ∧ τ32.2.1 8 j ≤ 1 := fun j => hT.2 8 j
                have A10 : ∀ j, (-1) ≤ τ32.2.1 10 j ∧ τ32.2.1 10 j ≤ 999 := fun j => hT.2 10 j
                have A11 : ∀ j, (-1) ≤ τ32.2.1 11 j ∧ τ32.2.1 11 j ≤ 1499 := fun j => hT.2 11 j
                have A12 : ∀ j, 0 ≤ τ32.2.1 12 j ∧ τ32.2.1 12 j ≤ 1 := fun j => hT.2 12 j
                have A13 : ∀ j, 0 ≤ τ32.2.1 13 j ∧ τ32.2.1 13 j ≤ 4 := fun j => hT.2 13 j
                have A14 : ∀ j, 0 ≤ τ32.2.1 14 j ∧ τ32.2.1 14 j ≤ 30000 := fun j => hT.2 14 j
                have A15 : ∀ j, 0 ≤ τ32.2.1 15 j ∧ τ32.2.1 15 j ≤ 300 := fun j => hT.2 15 j
                have A16 : ∀ j, 0 ≤ τ32.2.1 16 j ∧ τ32.2.1 16 j ≤ 999 := fun j => hT.2 16 j
                have A17 : ∀ j, (-1) ≤ τ32.2.1 17 j ∧ τ32.2.1 17 j ≤ 1499 := fun j => hT.2 17 j
                have A18 : ∀ j, 0 ≤ τ32.2.1 18 j ∧ τ32.2.1 18 j ≤ 90000 := fun j => hT.2 18 j
                have A19 : ∀ j, 0 ≤ τ32.2.1 19 j ∧ τ32.2.1 19 j ≤ 60 := fun j => hT.2 19 j
                have A20 : ∀ j, 0 ≤ τ32.2.1 20 j ∧ τ32.2.1 20 j ≤ 1499 := fun j => hT.2 20 j
                have A21 : ∀ j, 0 ≤ τ32.2.1 21 j ∧ τ32.2.1 21 j ≤ 20000 := fun j => hT.2 21 j
                have A22 : ∀ j, 0 ≤ τ32.2.1 22 j ∧ τ32.2.1 22 j ≤ 20000 := fun j => hT.2 22 j
                have A25 : ∀ j, 0 ≤ τ32.2.1 25 j ∧ τ32.2.1 25 j ≤ 20000 := fun j => hT.2 25 j
                have A26 : ∀ j, 0 ≤ τ32.2.1 26 j ∧ τ32.2.1 26 j ≤ 20000 := fun j => hT.2 26 j
                have A27 : ∀ j, (-300) ≤ τ32.2.1 27 j ∧ τ32.2.1 27 j ≤ 1499 := fun j => hT.2 27 j
                have A28 : ∀ j, 0 ≤ τ32.2.1 28 j ∧ τ32.2.1 28 j ≤ 1 := fun j => hT.2 28 j
                have A31 : ∀ j, 0 ≤ τ32.2.1 31 j ∧ τ32.2.1 31 j ≤ 1499 := fun j => hT.2 31 j
                have A35 : ∀ j, 0 ≤ τ32.2.1 35 j ∧ τ32.2.1 35 j ≤ 1500 := fun j => hT.2 35 j
                have v0 : 0 ≤ τ32.1 0 ∧ τ32.1 0 ≤ 60000 := hT.1 0
                have v2 : 0 ≤ τ32.1 2 ∧ τ32.1 2 ≤ 30000 := hT.1 2
                have v3 : 0 ≤ τ32.1 3 ∧ τ32.1 3 ≤ 1000 := hT.1 3
                have v4 : 0 ≤ τ32.1 4 ∧ τ32.1 4 ≤ 100 := hT.1 4
                have v5 : 0 ≤ τ32.1 5 ∧ τ32.1 5 ≤ 1500 := hT.1 5
                have v6 : 0 ≤ τ32.1 6 ∧ τ32.1 6 ≤ 30000 := hT.1 6
                have v7 : 0 ≤ τ32.1 7 ∧ τ32.1 7 ≤ 90000 := hT.1 7
                have v8 : 0 ≤ τ32.1 8 ∧ τ32.1 8 ≤ 20000 := hT.1 8
                have v9 : 0 ≤ τ32.1 9 ∧ τ32.1 9 ≤ 20000 := hT.1 9
                have v10 : (-1) ≤ τ32.1 10 ∧ τ32.1 10 ≤ 999 := hT.1 10
                have v11 : (-1) ≤ τ32.1 11 ∧ τ32.1 11 ≤ 999 := hT.1 11
                have v13 : 0 ≤ τ32.1 13 ∧ τ32.1 13 ≤ 1500 := hT.1 13
                have v15 : 0 ≤ τ32.1 15 ∧ τ32.1 15 ≤ 50 := hT.1 15
                have v16 : 0 ≤ τ32.1 16 ∧ τ32.1 16 ≤ 60000 := hT.1 16
                have v17 : 0 ≤ τ32.1 17 ∧ τ32.1 17 ≤ 60000 := hT.1 17
                have v18 : 0 ≤ τ32.1 18 ∧ τ32.1 18 ≤ 60000 := hT.1 18
                have v19 : (-1) ≤ τ32.1 19 ∧ τ32.1 19 ≤ 125 := hT.1 19
                have v20 : 0 ≤ τ32.1 20 ∧ τ32.1 20 ≤ 19 := hT.1 20
                have v22 : 0 ≤ τ32.1 22 ∧ τ32.1 22 ≤ 1499 := hT.1 22
                have a14_5 : 0 ≤ τ32.2.1 14 (τ32.1 5) ∧ τ32.2.1 14 (τ32.1 5) ≤ 30000 := hT.2 14 _
                have a14_22 : 0 ≤ τ32.2.1 14 (τ32.1 22) ∧ τ32.2.1 14 (τ32.1 22) ≤ 30000 := hT.2 14 _
                have a15_5 : 0 ≤ τ32.2.1 15 (τ32.1 5) ∧ τ32.2.1 15 (τ32.1 5) ≤ 300 := hT.2 15 _
                have a15_22 : 0 ≤ τ32.2.1 15 (τ32.1 22) ∧ τ32.2.1 15 (τ32.1 22) ≤ 300 := hT.2 15 _
                have a18_22 : 0 ≤ τ32.2.1 18 (τ32.1 22) ∧ τ32.2.1 18 (τ32.1 22) ≤ 90000 := hT.2 18 _
                have a19_22 : 0 ≤ τ32.2.1 19 (τ32.1 22) ∧ τ32.2.1 19 (τ32.1 22) ≤ 60 := hT.2 19 _
                have a21_22 : 0 ≤ τ32.2.1 21 (τ32.1 22) ∧ τ32.2.1 21 (τ32.1 22) ≤ 20000 := hT.2 21 _
                have a22_22 : 0 ≤ τ32.2.1 22 (τ32.1 22) ∧ τ32.2.1 22 (τ32.1 22) ≤ 20000 := hT.2 22 _
                have a25_22 : 0 ≤ τ32.2.1 25 (τ32.1 22) ∧ τ32.2.1 25 (τ32.1 22) ≤ 20000 := hT.2 25 _
                have a26_22 : 0 ≤ τ32.2.1 26 (τ32.1 22) ∧ τ32.2.1 26 (τ32.1 22) ≤ 20000 := hT.2 26 _
                have av5 : σ.1 5 ≤ τ32.1 5 := ag.1 5 (by decide)
                have av6 : σ.1 6 ≤ τ32.1 6 := ag.1 6 (by decide)
                have av7 : σ.1 7 ≤ τ32.1 7 := ag.1 7 (by decide)
                have av8 : σ.1 8 ≤ τ32.1 8 := ag.1 8 (by decide)
                have av9 : σ.1 9 ≤ τ32.1 9 := ag.1 9 (by decide)
                have Y8 := j_eqt Y8 (j_eqw q30_12 (show σ.1 9 ≤ τ_15.2.1 25 (τ_15.1 22) from by omega))
                have J32 : τ32.1 20 = 0 → n_J τ32 ∧ n_S τ32 := fun z => ⟨n_J_n J15 M15 q30_16 q30_18 (j_eqw q30_12 (by omega)) hT15 (q30_17 z).1 (q30_13 z).1, (q30_17 z).2⟩
                exact ⟨hT, (show (τ32.1 16) ≤ (τ32.1 0) from by (first | omega | (simp only [st_s] <;> omega) | assumption | omega | fail)), (show (τ32.1 17) + (τ32.1 18) ≤ (τ32.1 0) from by (first | omega | (simp only [st_s] <;> omega) | assumption | omega | fail)), (show ¬ (σ.1 20) = 0 → (τ32.1 20) = (σ.1 20) from by (first | omega | (simp only [st_s] <;> omega) | assumption | omega | fail)), (show ca (τ32.2.1 12) ((τ32.1 3)) ≤ (τ32.1 4) from Y20), (show J_pa (τ32.2.1 21) (τ32.2.1 22) from PA), (show (τ32.1 13) ≤ (τ32.1 5) from by (first | omega | (simp only [st_s] <;> omega) | assumption | omega | fail)), (show oc (τ32.2.1 7) ≤ (σ.1 5) + 1 from by (first | omega | (simp only [st_s] <;> omega) | assumption | omega | fail)), (show (τ32.1 5) ≤ (σ.1 5) + 1 from by (first | omega | (simp only [st_s] <;> omega) | assumption | omega | fail)), (show (τ32.1 20) = 0 → (τ32.1 7) ≤ 60 * (τ32.1 5) from by (first | omega | (simp only [st_s] <;> omega) | assumption | omega | fail)), (show (τ32.1 20) = 0 → (τ32.1 5) = (σ.1 5) + 1 from by (first | omega | (simp only [st_s] <;> omega) | assumption | omega | fail)), (show j_eq ((σ.1 9)) (σ.2.1 28) (τ32.2.1 28) from Y8), (show (τ32.1 20) = 0 → m_J σ → m_J τ32 from by (first | (intro hf; exfalso; omega) | (intro hf hJ; have e5 : σ.1 5 = τ25.1 22 := (by omega); exact m_J_e hJ ag hT0 Y8 (by omega) (by rw [e5] <;> omega) (by rw [e5] <;> omega) (by rw [e5] <;> omega) (by rw [e5] <;> omega) (by rw [e5] <;> omega) (by rw [e5] <;> omega) (by rw [e5] <;> omega) (by rw [e5] <;> omega) (by rw [e5] <;> omega) (by omega) (by rw [e5]; exact Y14)) | (intro hf hJ; have e5 : σ.1 5 = τ28.1 22 := (by omega); exact m_J_e hJ ag hT0 Y8 (by omega) (by rw [e5] <;> omega) (by rw [e5] <;> omega) (by rw [e5] <;> omega) (by rw [e5] <;> omega) (by rw [e5] <;> omega) (by rw [e5] <;> omega) (by rw [e5] <;> omega) (by rw [e5] <;> omega) (by rw [e5] <;> omega) (by omega) (by rw [e5]; exact Y14)) | (intro hf hJ; have e5 : σ.1 5 = τ32.1 22 := (by omega); exact m_J_e hJ ag hT0 Y8 (by omega) (by rw [e5] <;> omega) (by rw [e5] <;> omega) (by rw [e5] <;> omega) (by rw [e5] <;> omega) (by rw [e5] <;> omega) (by rw [e5] <;> omega) (by rw [e5] <;> omega) (by rw [e5] <;> omega) (by rw [e5] <;> omega) (by omega) (by rw [e5]; exact Y14)) | fail)), (show (σ.1 16) ≤ (τ32.1 16) from by (first | omega | (simp only [st_s] <;> omega) | assumption | omega | fail)), ag, (show (τ32.1 20) = 0 → n_J τ32 ∧ n_S τ32 from by (first | (intro z; exfalso; omega) | exact fun _ => ⟨J25, s25⟩ | exact J28 | exact J32 | fail)), (show n_rl σ τ32 from by (first | exact n_rl_t rl15 rl25 | exact n_rl_t rl15 q26_12 | exact n_rl_t rl15 q30_18 | exact n_rl_t rl15 q16_10 | exact n_rl_r rl15 hf_τ15 rfl rfl | exact n_rl_g (by omega) (by omega) (by omega) i15_14 i15_15 | fail)), (show n_hk σ τ32 from by (first | exact n_hk_t hk15 hk25 | exact n_hk_t hk15 q26_13 | exact n_hk_r hk15 hf_τ32 rfl rfl | exact n_hk_r hk15 hf_τ18 rfl rfl | exact n_hk_r hk15 hf_τ15 rfl rfl | exact n_hk_g (by omega) (by omega) i15_17 G35 | fail)), (show n_rc σ τ32 from by (first | exact n_rc_r (n_rc_r (n_rc_r rc15 hf_τ18 rfl rfl) hf_τ22 rfl rfl) hf_τ25 rfl rfl | exact n_rc_r rc15 hf_τ28 rfl rfl | exact n_rc_r rc15 hf_τ32 rfl rfl | exact n_rc_r rc15 hf_τ18 rfl rfl | exact n_rc_r rc15 hf_τ15 rfl rfl | exact i15_18 | fail))⟩
              ·
                refine h106 _ _ ?_
                refine ⟨_, K3_X13_readAssertion hT (show (τ_15.1 16) ≤ (τ_15.1 0) from by (first | omega | (simp only [st_s] <;> omega) | assumption | omega | fail)) (show (τ_15.1 17) + (τ_15.1 18) ≤ (τ_15.1 0) from by (first | omega | (simp only [st_s] <;> omega) | assumption | omega | fail)) (show oc (τ_15.2.1 6) < 4096 from by (first | omega | (simp only [st_s] <;> omega) | assumption | omega | fail)) (show oc (τ_15.2.1 7) < 4096 from by (first | omega | (simp only [st_s] <;> omega) | assumption | omega | fail)) (show 0 ≤ (1 : Int) from by (first | omega | (simp only [st_s] <;> omega) | assumption | omega | fail)) (show (1 : Int) ≤ 1 from by (first | omega | (simp only [st_s] <;> omega) | assumption | omega | fail)) (show τ_15.2.1 15 (τ_15.1 22) = 0 from by (first | omega | (simp only [st_s] <;> omega) | assumption | omega | fail)) (show τ_15.2.1 26 (τ_15.1 22) = 0 from by (first | omega | (simp only [st_s] <;> omega) | assumption | omega | fail)) (show (τ_15.1 22) = (τ_15.1 5) from by (first | omega | (simp only [st_s] <;> omega) | assumption | omega | fail)) (show τ_15.2.1 14 (τ_15.1 22) + τ_15.2.1 15 (τ_15.1 22) = (τ_15.1 6) from Z1) (show τ_15.2.1 18 (τ_15.1 22) + τ_15.2.1 19 (τ_15.1 22) = (τ_15.1 7) from Z2) (show τ_15.2.1 21 (τ_15.1 22) + τ_15.2.1 22 (τ_15.1 22) = (τ_15.1 8) from Z3) (show τ_15.2.1 25 (τ_15.1 22) + τ_15.2.1 26 (τ_15.1 22) = (τ_15.1 9) from Z4) (show ca (τ_15.2.1 12) ((τ_15.1 3)) ≤ (τ_15.1 4) from Y20) (show J_pa (τ_15.2.1 21) (τ_15.2.1 22) from PA) (show (τ_15.1 7) ≤ 60 * (τ_15.1 22) + τ_15.2.1 19 (τ_15.1 22) from by (first | omega | (simp only [st_s] <;> omega) | assumption | omega | fail)) (show (τ_15.1 5) < 1500 from by (first | omega | (simp only [st_s] <;> omega) | assumption | omega | fail)) (show j_l2 (τ_15.2.1 6) (τ_15.1 3) from Y1) (show n_S τ_15 from by exact S15) (show n_J τ_15 from by exact J15) (show m_J τ_15 from by exact M15) (show τ_15.2.1 19 (τ_15.1 22) = 0 from by (first | omega | (simp only [st_s] <;> omega) | assumption | omega | fail)), ?_⟩
                intro τ32 hn_τ32 hf_τ32 hq
                obtain ⟨hT, q30_1, q30_2, q30_3, q30_4, q30_5, q30_6, q30_7, q30_8, q30_9, q30_10, q30_11, q30_12, q30_13, q30_14, q30_15, q30_16, q30_17, q30_18⟩ := hq
                replace q30_1 : (τ32.1 16) ≤ (τ32.1 0) := q30_1
                replace q30_2 : (τ32.1 17) + (τ32.1 18) ≤ (τ32.1 0) := q30_2
                replace q30_3 : ¬ (τ_15.1 20) = 0 → (τ32.1 20) = (τ_15.1 20) := q30_3
                replace q30_4 : τ32.2.1 14 (τ32.1 22) + τ32.2.1 15 (τ32.1 22) = (τ32.1 6) := q30_4
                replace q30_5 : τ32.2.1 18 (τ32.1 22) + τ32.2.1 19 (τ32.1 22) = (τ32.1 7) := q30_5
                replace q30_6 : τ32.2.1 21 (τ32.1 22) + τ32.2.1 22 (τ32.1 22) = (τ32.1 8) := q30_6
                replace q30_7 : ca (τ32.2.1 12) ((τ32.1 3)) ≤ (τ32.1 4) := q30_7
                replace q30_8 : J_pa (τ32.2.1 21) (τ32.2.1 22) := q30_8
                replace q30_9 : (τ32.1 7) ≤ 60 * (τ32.1 22) + τ32.2.1 19 (τ32.1 22) := q30_9
                replace q30_10 : τ32.2.1 25 (τ32.1 22) + τ32.2.1 26 (τ32.1 22) = (τ32.1 9) := q30_10
                replace q30_11 : ca (τ32.2.1 28) ((τ32.1 9)) ≤ ca (τ32.2.1 28) (τ32.2.1 25 (τ32.1 22)) + 300 := q30_11
                replace q30_12 : j_eq (τ_15.2.1 25 (τ_15.1 22)) (τ_15.2.1 28) (τ32.2.1 28) := q30_12
                replace q30_13 : (τ32.1 20) = 0 → (τ32.1 5) = (τ_15.1 5) + 1 ∧ 1 ≤ τ32.2.1 15 (τ32.1 22) := q30_13
                replace q30_14 : (τ32.1 5) ≤ (τ_15.1 5) + 1 := q30_14
                replace q30_15 : (τ_15.1 16) ≤ (τ32.1 16) := q30_15
                replace q30_16 : m_ag τ_15 τ32 := q30_16
                replace q30_17 : (τ32.1 20) = 0 → n_J1 (τ_15.1 5) τ32 ∧ n_S τ32 := q30_17
                replace q30_18 : n_rl τ_15 τ32 := q30_18
                replace ag : m_ag σ τ32 := ag_t ag q30_16 rfl
                have w0_τ32 : τ32.1 0 = τ_15.1 0 := hf_τ32.1 0 (by decide)
                have w2_τ32 : τ32.1 2 = τ_15.1 2 := hf_τ32.1 2 (by decide)
                have w3_τ32 : τ32.1 3 = τ_15.1 3 := hf_τ32.1 3 (by decide)
                have w10_τ32 : τ32.1 10 = τ_15.1 10 := hf_τ32.1 10 (by decide)
                have w11_τ32 : τ32.1 11 = τ_15.1 11 := hf_τ32.1 11 (by decide)
                have w13_τ32 : τ32.1 13 = τ_15.1 13 := hf_τ32.1 13 (by decide)
                have w15_τ32 : τ32.1 15 = τ_15.1 15 := hf_τ32.1 15 (by decide)
                have w22_τ32 : τ32.1 22 = τ_15.1 22 := hf_τ32.1 22 (by decide)
                have g1_τ32 : τ32.2.1 1 = τ_15.2.1 1 := hf_τ32.2.1 1 (by decide)
                have g6_τ32 : τ32.2.1 6 = τ_15.2.1 6 := hf_τ32.2.1 6 (by decide)
                have g7_τ32 : τ32.2.1 7 = τ_15.2.1 7 := hf_τ32.2.1 7 (by decide)
                have g8_τ32 : τ32.2.1 8 = τ_15.2.1 8 := hf_τ32.2.1 8 (by decide)
                have g10_τ32 : τ32.2.1 10 = τ_15.2.1 10 := hf_τ32.2.1 10 (by decide)
                have g11_τ32 : τ32.2.1 11 = τ_15.2.1 11 := hf_τ32.2.1 11 (by decide)
                have g14_τ32 : τ32.2.1 14 = τ_15.2.1 14 := hf_τ32.2.1 14 (by decide)
                have g18_τ32 : τ32.2.1 18 = τ_15.2.1 18 := hf_τ32.2.1 18 (by decide)
                have g21_τ32 : τ32.2.1 21 = τ_15.2.1 21 := hf_τ32.2.1 21 (by decide)
                have g25_τ32 : τ32.2.1 25 = τ_15.2.1 25 := hf_τ32.2.1 25 (by decide)
                have g31_τ32 : τ32.2.1 31 = τ_15.2.1 31 := hf_τ32.2.1 31 (by decide)
                have g35_τ32 : τ32.2.1 35 = τ_15.2.1 35 := hf_τ32.2.1 35 (by decide)
                first | (have o6_τ32 := congrArg oc g6_τ32) | skip
                first | (have o7_τ32 := congrArg oc g7_τ32) | skip
                have W0 : τ32.1 0 = σ.1 0 := by first | exact w0_τ32.trans W0 | omega
                have W3 : τ32.1 3 = σ.1 3 := by first | exact w3_τ32.trans W3 | omega
                have W10 : τ32.1 10 = σ.1 10 := by first | exact w10_τ32.trans W10 | omega
                have W11 : τ32.1 11 = σ.1 11 := by first | exact w11_τ32.trans W11 | omega
                have W15 : τ32.1 15 = σ.1 15 := by first | exact w15_τ32.trans W15 | omega
                have G6 : τ32.2.1 6 = σ.2.1 6 := (g6_τ32).trans G6
                have G8 : τ32.2.1 8 = σ.2.1 8 := (g8_τ32).trans G8
                have G35 : τ32.2.1 35 = σ.2.1 35 := (g35_τ32).trans G35
                have y14_22_τ32 : τ32.2.1 14 (τ32.1 22) = (τ_15.2.1 14) (τ_15.1 22) := by rw [g14_τ32, w22_τ32]
                have y18_22_τ32 : τ32.2.1 18 (τ32.1 22) = (τ_15.2.1 18) (τ_15.1 22) := by rw [g18_τ32, w22_τ32]
                have y21_22_τ32 : τ32.2.1 21 (τ32.1 22) = (τ_15.2.1 21) (τ_15.1 22) := by rw [g21_τ32, w22_τ32]
                have y25_22_τ32 : τ32.2.1 25 (τ32.1 22) = (τ_15.2.1 25) (τ_15.1 22) := by rw [g25_τ32, w22_τ32]
                have Z1 : τ32.2.1 14 (τ32.1 22) + τ32.2.1 15 (τ32.1 22) = (τ32.1 6) := q30_4
                have Z2 : τ32.2.1 18 (τ32.1 22) + τ32.2.1 19 (τ32.1 22) = (τ32.1 7) := q30_5
                have Z3 : τ32.2.1 21 (τ32.1 22) + τ32.2.1 22 (τ32.1 22) = (τ32.1 8) := q30_6
                have Z4 : τ32.2.1 25 (τ32.1 22) + τ32.2.1 26 (τ32.1 22) = (τ32.1 9) := q30_10
                have Y20 : ca (τ32.2.1 12) ((τ32.1 3)) ≤ (τ32.1 4) := q30_7
                have Y1 : j_l2 (τ32.2.1 6) (τ32.1 3) := by rw [show (j_l2 (τ32.2.1 6) (τ32.1 3)) = (j_l2 (τ_15.2.1 6) (τ_15.1 3)) from by rw [w3_τ32, g6_τ32]]; exact Y1
                have Y14 : ca (τ32.2.1 28) ((τ32.1 9)) ≤ ca (τ32.2.1 28) (τ32.2.1 25 (τ32.1 22)) + 300 := q30_11
                have PA : J_pa (τ32.2.1 21) (τ32.2.1 22) := q30_8
                have SYt : oc (τ32.2.1 6) ≤ (τ32.1 3) := by rw [show (oc (τ32.2.1 6) ≤ (τ32.1 3)) = (oc (τ_15.2.1 6) ≤ (τ_15.1 3)) from by rw [w3_τ32, g6_τ32]]; exact SYt
                have STt : j_l2 (τ32.2.1 6) (τ32.1 3) := by rw [show (j_l2 (τ32.2.1 6) (τ32.1 3)) = (j_l2 (τ_15.2.1 6) (τ_15.1 3)) from by rw [w3_τ32, g6_τ32]]; exact STt
                have A1 : ∀ j, 0 ≤ τ32.2.1 1 j ∧ τ32.2.1 1 j ≤ 255 := fun j => hT.2 1 j
                have A6 : ∀ j, (-1) ≤ τ32.2.1 6 j ∧ τ32.2.1 6 j ≤ 999 := fun j => hT.2 6 j
                have A7 : ∀ j, (-1) ≤ τ32.2.1 7 j ∧ τ32.2.1 7 j ≤ 1499 := fun j => hT.2 7 j
                have A8 : ∀ j, 0 ≤ τ32.2.1 8 j ∧ τ32.2.1 8 j ≤ 1 := fun j => hT.2 8 j
                have A10 : ∀ j, (-1) ≤ τ32.2.1 10 j ∧ τ32.2.1 10 j ≤ 999 := fun j => hT.2 10 j
                have A11 : ∀ j, (-1) ≤ τ32.2.1 11 j ∧ τ32.2.1 11 j ≤ 1499 := fun j => hT.2 11 j
                have A12 : ∀ j, 0 ≤ τ32.2.1 12 j ∧ τ32.2.1 12 j ≤ 1 := fun j => hT.2 12 j
                have A13 : ∀ j, 0 ≤ τ32.2.1 13 j ∧ τ32.2.1 13 j ≤ 4 := fun j => hT.2 13 j
                have A14 : ∀ j, 0 ≤ τ32.2.1 14 j ∧ τ32.2.1 14 j ≤ 30000 := fun j => hT.2 14 j
                have A15 : ∀ j, 0 ≤ τ32.2.1 15 j ∧ τ32.2.1 15 j ≤ 300 := fun j => hT.2 15 j
                have A16 : ∀ j, 0 ≤ τ32.2.1 16 j ∧ τ32.2.1 16 j ≤ 999 := fun j => hT.2 16 j
                have A17 : ∀ j, (-1) ≤ τ32.2.1 17 j ∧ τ32.2.1 17 j ≤ 1499 := fun j => hT.2 17 j
                have A18 : ∀ j, 0 ≤ τ32.2.1 18 j ∧ τ32.2.1 18 j ≤ 90000 := fun j => hT.2 18 j
                have A19 : ∀ j, 0 ≤ τ32.2.1 19 j ∧ τ32.2.1 19 j ≤ 60 := fun j => hT.2 19 j
                have A20 : ∀ j, 0 ≤ τ32.2.1 20 j ∧ τ32.2.1 20 j ≤ 1499 := fun j => hT.2 20 j
                have A21 : ∀ j, 0 ≤ τ32.2.1 21 j ∧ τ32.2.1 21 j ≤ 20000 := fun j => hT.2 21 j
                have A22 : ∀ j, 0 ≤ τ32.2.1 22 j ∧ τ32.2.1 22 j ≤ 20000 := fun j => hT.2 22 j
                have A25 : ∀ j, 0 ≤ τ32.2.1 25 j ∧ τ32.2.1 25 j ≤ 20000 := fun j => hT.2 25 j
                have A26 : ∀ j, 0 ≤ τ32.2.1 26 j ∧ τ32.2.1 26 j ≤ 20000 := fun j => hT.2 26 j
                have A27 : ∀ j, (-300) ≤ τ32.2.1 27 j ∧ τ32.2.1 27 j ≤ 1499 := fun j => hT.2 27 j
                have A28 : ∀ j, 0 ≤ τ32.2.1 28 j ∧ τ32.2.1 28 j ≤ 1 := fun j => hT.2 28 j
                have A31 : ∀ j, 0 ≤ τ32.2.1 31 j ∧ τ32.2.1 31 j ≤ 1499 := fun j => hT.2 31 j
                have A35 : ∀ j, 0 ≤ τ32.2.1 35 j ∧ τ32.2.1 35 j ≤ 1500 := fun j => hT.2 35 j
                have v0 : 0 ≤ τ32.1 0 ∧ τ32.1 0 ≤ 60000 := hT.1 0
                have v2 : 0 ≤ τ32.1 2 ∧ τ32.1 2 ≤ 30000 := hT.1 2
                have v3 : 0 ≤ τ32.1 3 ∧ τ32.1 3 ≤ 1000 := hT.1 3
                have v4 : 0 ≤ τ32.1 4 ∧ τ32.1 4 ≤ 100 := hT.1 4
                have v5 : 0 ≤ τ32.1 5 ∧ τ32.1 5 ≤ 1500 := hT.1 5
                have v6 : 0 ≤ τ32.1 6 ∧ τ32.1 6 ≤ 30000 := hT.1 6
                have v7 : 0 ≤ τ32.1 7 ∧ τ32.1 7 ≤ 90000 := hT.1 7
                have v8 : 0 ≤ τ32.1 8 ∧ τ32.1 8 ≤ 20000 := hT.1 8
                have v9 : 0 ≤ τ32.1 9 ∧ τ32.1 9 ≤ 20000 := hT.1 9
                have v10 : (-1) ≤ τ32.1 10 ∧ τ32.1 10 ≤ 999 := hT.1 10
                have v11 : (-1) ≤ τ32.1 11 ∧ τ32.1 11 ≤ 999 := hT.1 11
                have v13 : 0 ≤ τ32.1 13 ∧ τ32.1 13 ≤ 1500 := hT.1 13
                have v15 : 0 ≤ τ32.1 15 ∧ τ32.1 15 ≤ 50 := hT.1 15
                have v16 : 0 ≤ τ32.1 16 ∧ τ32.1 16 ≤ 60000 := hT.1 16
                have v17 : 0 ≤ τ32.1 17 ∧ τ32.1 17 ≤ 60000 := hT.1 17
                have v18 : 0 ≤ τ32.1 18 ∧ τ32.1 18 ≤ 60000 := hT.1 18
                have v19 : (-1) ≤ τ32.1 19 ∧ τ32.1 19 ≤ 125 := hT.1 19
                have v20 : 0 ≤ τ32.1 20 ∧ τ32.1 20 ≤ 19 := hT.1 20
                have v22 : 0 ≤ τ32.1 22 ∧ τ32.1 22 ≤ 1499 := hT.1 22
                have a14_5 : 0 ≤ τ32.2.1 14 (τ32.1 5) ∧ τ32.2.1 14 (τ32.1 5) ≤ 30000 := hT.2 14 _
                have a14_22 : 0 ≤ τ32.2.1 14 (τ32.1 22) ∧ τ32.2.1 14 (τ32.1 22) ≤ 30000 := hT.2 14 _
                have a15_5 : 0 ≤ τ32.2.1 15 (τ32.1 5) ∧ τ32.2.1 15 (τ32.1 5) ≤ 300 := hT.2 15 _
                have a15_22 : 0 ≤ τ32.2.1 15 (τ32.1 22) ∧ τ32.2.1 15 (τ32.1 22) ≤ 300 := hT.2 15 _
                have a18_22 : 0 ≤ τ32.2.1 18 (τ32.1 22) ∧ τ32.2.1 18 (τ32.1 22) ≤ 90000 := hT.2 18 _
                have a19_22 : 0 ≤ τ32.2.1 19 (τ32.1 22) ∧ τ32.2.1 19 (τ32.1 22) ≤ 60 := hT.2 19 _
                have a21_22 : 0 ≤ τ32.2.1 21 (τ32.1 22) ∧ τ32.2.1 21 (τ32.1 22) ≤ 20000 := hT.2 21 _
                have a22_22 : 0 ≤ τ32.2.1 22 (τ32.1 22) ∧ τ32.2.1 22 (τ32.1 22) ≤ 20000 := hT.2 22 _
                have a25_22 : 0 ≤ τ32.2.1 25 (τ32.1 22) ∧ τ32.2.1 25 (τ32.1 22) ≤ 20000 := hT.2 25 _
                have a26_22 : 0 ≤ τ32.2.1 26 (τ32.1 22) ∧ τ32.2.1 26 (τ32.1 22) ≤ 20000 := hT.2 26 _
                have av5 : σ.1 5 ≤ τ32.1 5 := ag.1 5 (by decide)
                have av6 : σ.1 6 ≤ τ32.1 6 := ag.1 6 (by decide)
                have av7 : σ.1 7 ≤ τ32.1 7 := ag.1 7 (by decide)
                have av8 : σ.1 8 ≤ τ32.1 8 := ag.1 8 (by decide)
                have av9 : σ.1 9 ≤ τ32.1 9 := ag.1 9 (by decide)
                have Y8 := j_eqt Y8 (j_eqw q30_12 (show σ.1 9 ≤ τ_15.2.1 25 (τ_15.1 22) from by omega))
                have J32 : τ32.1 20 = 0 → n_J τ32 ∧ n_S τ32 := fun z => ⟨n_J_n J15 M15 q30_16 q30_18 (j_eqw q30_12 (by omega)) hT15 (q30_17 z).1 (q30_13 z).1, (q30_17 z).2⟩
                exact ⟨hT, (show (τ32.1 16) ≤ (τ32.1 0) from by (first | omega | (simp only [st_s] <;> omega) | assumption | omega | fail)), (show (τ32.1 17) + (τ32.1 18) ≤ (τ32.1 0) from by (first | omega | (simp only [st_s] <;> omega) | assumption | omega | fail)), (show ¬ (σ.1 20) = 0 → (τ32.1 20) = (σ.1 20) from by (first | omega | (simp only [st_s] <;> omega) | assumption | omega | fail)), (show ca (τ32.2.1 12) ((τ32.1 3)) ≤ (τ32.1 4) from Y20), (show J_pa (τ32.2.1 21) (τ32.2.1 22) from PA), (show (τ32.1 13) ≤ (τ32.1 5) from by (first | omega | (simp only [st_s] <;> omega) | assumption | omega | fail)), (show oc (τ32.2.1 7) ≤ (σ.1 5) + 1 from by (first | omega | (simp only [st_s] <;> omega) | assumption | omega | fail)), (show (τ32.1 5) ≤ (σ.1 5) + 1 from by (first | omega | (simp only [st_s] <;> omega) | assumption | omega | fail)), (show (τ32.1 20) = 0 → (τ32.1 7) ≤ 60 * (τ32.1 5) from by (first | omega | (simp only [st_s] <;> omega) | assumption | omega | fail)), (show (τ32.1 20) = 0 → (τ32.1 5) = (σ.1 5) + 1 from by (first | omega | (simp only [st_s] <;> omega) | assumption | omega | fail)), (show j_eq ((σ.1 9)) (σ.2.1 28) (τ32.2.1 28) from Y8), (show (τ32.1 20) = 0 → m_J σ → m_J τ32 from by (first | (intro hf; exfalso; omega) | (intro hf hJ; have e5 : σ.1 5 = τ25.1 22 := (by omega); exact m_J_e hJ ag hT0 Y8 (by omega) (by rw [e5] <;> omega) (by rw [e5] <;> omega) (by rw [e5] <;> omega) (by rw [e5] <;> omega) (by rw [e5] <;> omega) (by rw [e5] <;> omega) (by rw [e5] <;> omega) (by rw [e5] <;> omega) (by rw [e5] <;> omega) (by omega) (by rw [e5]; exact Y14)) | (intro hf hJ; have e5 : σ.1 5 = τ28.1 22 := (by omega); exact m_J_e hJ ag hT0 Y8 (by omega) (by rw [e5] <;> omega) (by rw [e5] <;> omega) (by rw [e5] <;> omega) (by rw [e5] <;> omega) (by rw [e5] <;> omega) (by rw [e5] <;> omega) (by rw [e5] <;> omega) (by rw [e5] <;> omega) (by rw [e5] <;> omega) (by omega) (by rw [e5]; exact Y14)) | (intro hf hJ; have e5 : σ.1 5 = τ32.1 22 := (by omega); exact m_J_e hJ ag hT0 Y8 (by omega) (by rw [e5] <;> omega) (by rw [e5] <;> omega) (by rw [e5] <;> omega) (by rw [e5] <;> omega) (by rw [e5] <;> omega) (by rw [e5] <;> omega) (by rw [e5] <;> omega) (by rw [e5] <;> omega) (by rw [e5] <;> omega) (by omega) (by rw [e5]; exact Y14)) | fail)), (show (σ.1 16) ≤ (τ32.1 16) from by (first | omega | (simp only [st_s] <;> omega) | assumption | omega | fail)), ag, (show (τ32.1 20) = 0 → n_J τ32 ∧ n_S τ32 from by (first | (intro z; exfalso; omega) | exact fun _ => ⟨J25, s25⟩ | exact J28 | exact J32 | fail)), (show n_rl σ τ32 from by (first | exact n_rl_t rl15 rl25 | exact n_rl_t rl15 q26_12 | exact n_rl_t rl15 q30_18 | exact n_rl_t rl15 q16_10 | exact n_rl_r rl15 hf_τ15 rfl rfl | exact n_rl_g (by omega) (by omega) (by omega) i15_14 i15_15 | fail)), (show n_hk σ τ32 from by (first | exact n_hk_t hk15 hk25 | exact n_hk_t hk15 q26_13 | exact n_hk_r hk15 hf_τ32 rfl rfl | exact n_hk_r hk15 hf_τ18 rfl rfl | exact n_hk_r hk15 hf_τ15 rfl rfl | exact n_hk_g (by omega) (by omega) i15_17 G35 | fail)), (show n_rc σ τ32 from by (first | exact n_rc_r (n_rc_r (n_rc_r rc15 hf_τ18 rfl rfl) hf_τ22 rfl rfl) hf_τ25 rfl rfl | exact n_rc_r rc15 hf_τ28 rfl rfl | exact n_rc_r rc15 hf_τ32 rfl rfl | exact n_rc_r rc15 hf_τ18 rfl rfl | exact n_rc_r rc15 hf_τ15 rfl rfl | exact i15_18 | fail))⟩
        ·
          refine ⟨_, K3_X13_readSymbols hT (show (τ_15.1 16) ≤ (τ_15.1 0) from by (first | omega | (simp only [st_s] <;> omega) | assumption | omega | fail)) (show (τ_15.1 17) + (τ_15.1 18) ≤ (τ_15.1 0) from by (first | omega | (simp only [st_s] <;> omega) | assumption | omega | fail)) (show oc (τ_15.2.1 6) < 4096 from by (first | omega | (simp only [st_s] <;> omega) | assumption | omega | fail)) (show oc (τ_15.2.1 7) < 4096 from by (first | omega | (simp only [st_s] <;> omega) | assumption | omega | fail)) (show τ_15.2.1 15 (τ_15.1 22) = 0 from by (first | omega | (simp only [st_s] <;> omega) | assumption | omega | fail)) (show (τ_15.1 22) = (τ_15.1 5) from by (first | omega | (simp only [st_s] <;> omega) | assumption | omega | fail)) (show τ_15.2.1 14 (τ_15.1 22) + τ_15.2.1 15 (τ_15.1 22) = (τ_15.1 6) from Z1) (show ca (τ_15.2.1 12) ((τ_15.1 3)) ≤ (τ_15.1 4) from Y20) (show j_l2 (τ_15.2.1 6) (τ_15.1 3) from Y1), ?_⟩
          intro τ18 hn_τ18 hf_τ18 hq
          obtain ⟨hT, q16_1, q16_2, q16_3, q16_4, q16_5, q16_6, q16_7, q16_8, q16_9, q16_10⟩ := hq
          replace q16_1 : (τ18.1 16) ≤ (τ18.1 0) := q16_1
          replace q16_2 : (τ18.1 17) + (τ18.1 18) ≤ (τ18.1 0) := q16_2
          replace q16_3 : ¬ (τ_15.1 20) = 0 → (τ18.1 20) = (τ_15.1 20) := q16_3
          replace q16_4 : τ18.2.1 14 (τ18.1 22) + τ18.2.1 15 (τ18.1 22) = (τ18.1 6) := q16_4
          replace q16_5 : ca (τ18.2.1 12) ((τ18.1 3)) ≤ (τ18.1 4) := q16_5
          replace q16_6 : (τ18.1 20) = 0 → 1 ≤ τ18.2.1 15 (τ18.1 22) := q16_6
          replace q16_7 : (τ_15.1 16) ≤ (τ18.1 16) := q16_7
          replace q16_8 : m_ag τ_15 τ18 := q16_8
          replace q16_9 : (τ18.1 20) = 0 → n_N (τ18.2.1 14 (τ18.1 22)) (τ18.2.1 14 (τ18.1 22) + τ18.2.1 15 (τ18.1 22)) (τ_15.1 3) (τ_15.2.1 8) (τ_15.2.1 11) (τ18.2.1 12) (τ18.2.1 16) (τ18.2.1 17) := q16_9
          replace q16_10 : n_rl τ_15 τ18 := q16_10
          replace ag : m_ag σ τ18 := ag_t ag q16_8 rfl
          have w0_τ18 : τ18.1 0 = τ_15.1 0 := hf_τ18.1 0 (by decide)
          have w2_τ18 : τ18.1 2 = τ_15.1 2 := hf_τ18.1 2 (by decide)
          have w3_τ18 : τ18.1 3 = τ_15.1 3 := hf_τ18.1 3 (by decide)
          have w5_τ18 : τ18.1 5 = τ_15.1 5 := hf_τ18.1 5 (by decide)
          have w7_τ18 : τ18.1 7 = τ_15.1 7 := hf_τ18.1 7 (by decide)
          have w8_τ18 : τ18.1 8 = τ_15.1 8 := hf_τ18.1 8 (by decide)
          have w9_τ18 : τ18.1 9 = τ_15.1 9 := hf_τ18.1 9 (by decide)
          have w10_τ18 : τ18.1 10 = τ_15.1 10 := hf_τ18.1 10 (by decide)
          have w11_τ18 : τ18.1 11 = τ_15.1 11 := hf_τ18.1 11 (by decide)
          have w13_τ18 : τ18.1 13 = τ_15.1 13 := hf_τ18.1 13 (by decide)
          have w15_τ18 : τ18.1 15 = τ_15.1 15 := hf_τ18.1 15 (by decide)
          have w22_τ18 : τ18.1 22 = τ_15.1 22 := hf_τ18.1 22 (by decide)
          have g1_τ18 : τ18.2.1 1 = τ_15.2.1 1 := hf_τ18.2.1 1 (by decide)
          have g6_τ18 : τ18.2.1 6 = τ_15.2.1 6 := hf_τ18.2.1 6 (by decide)
          have g7_τ18 : τ18.2.1 7 = τ_15.2.1 7 := hf_τ18.2.1 7 (by decide)
          have g8_τ18 : τ18.2.1 8 = τ_15.2.1 8 := hf_τ18.2.1 8 (by decide)
          have g10_τ18 : τ18.2.1 10 = τ_15.2.1 10 := hf_τ18.2.1 10 (by decide)
          have g11_τ18 : τ18.2.1 11 = τ_15.2.1 11 := hf_τ18.2.1 11 (by decide)
          have g13_τ18 : τ18.2.1 13 = τ_15.2.1 13 := hf_τ18.2.1 13 (by decide)
          have g14_τ18 : τ18.2.1 14 = τ_15.2.1 14 := hf_τ18.2.1 14 (by decide)
          have g18_τ18 : τ18.2.1 18 = τ_15.2.1 18 := hf_τ18.2.1 18 (by decide)
          have g19_τ18 : τ18.2.1 19 = τ_15.2.1 19 := hf_τ18.2.1 19 (by decide)
          have g20_τ18 : τ18.2.1 20 = τ_15.2.1 20 := hf_τ18.2.1 20 (by decide)
          have g21_τ18 : τ18.2.1 21 = τ_15.2.1 21 := hf_τ18.2.1 21 (by decide)
          have g22_τ18 : τ18.2.1 22 = τ_15.2.1 22 := hf_τ18.2.1 22 (by decide)
          have g25_τ18 : τ18.2.1 25 = τ_15.2.1 25 := hf_τ18.2.1 25 (by decide)
          have g26_τ18 : τ18.2.1 26 = τ_15.2.1 26 := hf_τ18.2.1 26 (by decide)
          have g27_τ18 : τ18.2.1 27 = τ_15.2.1 27 := hf_τ18.2.1 27 (by decide)
          have g28_τ18 : τ18.2.1 28 = τ_15.2.1 28 := hf_τ18.2.1 28 (by decide)
          have g31_τ18 : τ18.2.1 31 = τ_15.2.1 31 := hf_τ18.2.1 31 (by decide)
          have g35_τ18 : τ18.2.1 35 = τ_15.2.1 35 := hf_τ18.2.1 35 (by decide)
          first | (have o6_τ18 := congrArg oc g6_τ18) | skip
          first | (have o7_τ18 := congrArg oc g7_τ18) | skip
          have W0 : τ18.1 0 = σ.1 0 := by first | exact w0_τ18.trans W0 | omega
          have W3 : τ18.1 3 = σ.1 3 := by first | exact w3_τ18.trans W3 | omega
          have W10 : τ18.1 10 = σ.1 10 := by first | exact w10_τ18.trans W10 | omega
          have W11 : τ18.1 11 = σ.1 11 := by first | exact w11_τ18.trans W11 | omega
          have W15 : τ18.1 15 = σ.1 15 := by first | exact w15_τ18.trans W15 | omega
          have G6 : τ18.2.1 6 = σ.2.1 6 := (g6_τ18).trans G6
          have G8 : τ18.2.1 8 = σ.2.1 8 := (g8_τ18).trans G8
          have G35 : τ18.2.1 35 = σ.2.1 35 := (g35_τ18).trans G35
          have y14_5_τ18 : τ18.2.1 14 (τ18.1 5) = (τ_15.2.1 14) (τ_15.1 5) := by rw [g14_τ18, w5_τ18]
          have y14_22_τ18 : τ18.2.1 14 (τ18.1 22) = (τ_15.2.1 14) (τ_15.1 22) := by rw [g14_τ18, w22_τ18]
          have y18_22_τ18 : τ18.2.1 18 (τ18.1 22) = (τ_15.2.1 18) (τ_15.1 22) := by rw [g18_τ18, w22_τ18]
          have y19_22_τ18 : τ18.2.1 19 (τ18.1 22) = (τ_15.2.1 19) (τ_15.1 22) := by rw [g19_τ18, w22_τ18]
          have y21_22_τ18 : τ18.2.1 21 (τ18.1 22) = (τ_15.2.1 21) (τ_15.1 22) := by rw [g21_τ18, w22_τ18]
          have y22_22_τ18 : τ18.2.1 22 (τ18.1 22) = (τ_15.2.1 22) (τ_15.1 22) := by rw [g22_τ18, w22_τ18]
          have y25_22_τ18 : τ18.2.1 25 (τ18.1 22) = (τ_15.2.1 25) (τ_15.1 22) := by rw [g25_τ18, w22_τ18]
          have y26_22_τ18 : τ18.2.1 26 (τ18.1 22) = (τ_15.2.1 26) (τ_15.1 22) := by rw [g26_τ18, w22_τ18]
          have Z1 : τ18.2.1 14 (τ18.1 22) + τ18.2.1 15 (τ18.1 22) = (τ18.1 6) := q16_4
          have Z2 : τ18.2.1 18 (τ18.1 22) + τ18.2.1 19 (τ18.1 22) = (τ18.1 7) := by rw [show (τ18.2.1 18 (τ18.1 22) + τ18.2.1 19 (τ18.1 22) = (τ18.1 7)) = (τ_15.2.1 18 (τ_15.1 22) + τ_15.2.1 19 (τ_15.1 22) = (τ_15.1 7)) from by rw [w7_τ18, w22_τ18, g18_τ18, g19_τ18]]; exact Z2
          have Z3 : τ18.2.1 21 (τ18.1 22) + τ18.2.1 22 (τ18.1 22) = (τ18.1 8) := by rw [show (τ18.2.1 21 (τ18.1 22) + τ18.2.1 22 (τ18.1 22) = (τ18.1 8)) = (τ_15.2.1 21 (τ_15.1 22) + τ_15.2.1 22 (τ_15.1 22) = (τ_15.1 8)) from by rw [w8_τ18, w22_τ18, g21_τ18, g22_τ18]]; exact Z3
          have Z4 : τ18.2.1 25 (τ18.1 22) + τ18.2.1 26 (τ18.1 22) = (τ18.1 9) := by rw [show (τ18.2.1 25 (τ18.1 22) + τ18.2.1 26 (τ18.1 22) = (τ18.1 9)) = (τ_15.2.1 25 (τ_15.1 22) + τ_15.2.1 26 (τ_15.1 22) = (τ_15.1 9)) from by rw [w9_τ18, w22_τ18, g25_τ18, g26_τ18]]; exact Z4
          have Y20 : ca (τ18.2.1 12) ((τ18.1 3)) ≤ (τ18.1 4) := q16_5
          have Y8 : j_eq ((σ.1 9)) (σ.2.1 28) (τ18.2.1 28) := by rw [show (j_eq ((σ.1 9)) (σ.2.1 28) (τ18.2.1 28)) = (j_eq ((σ.1 9)) (σ.2.1 28) (τ_15.2.1 28)) from by rw [g28_τ18]]; exact Y8
          have Y1 : j_l2 (τ18.2.1 6) (τ18.1 3) := by rw [show (j_l2 (τ18.2.1 6) (τ18.1 3)) = (j_l2 (τ_15.2.1 6) (τ_15.1 3)) from by rw [w3_τ18, g6_τ18]]; exact Y1
          have Y14 : ca (τ18.2.1 28) ((τ18.1 9)) ≤ ca (τ18.2.1 28) (τ18.2.1 25 (τ18.1 22)) + 300 := by rw [show (ca (τ18.2.1 28) ((τ18.1 9)) ≤ ca (τ18.2.1 28) (τ18.2.1 25 (τ18.1 22)) + 300) = (ca (τ_15.2.1 28) ((τ_15.1 9)) ≤ ca (τ_15.2.1 28) (τ_15.2.1 25 (τ_15.1 22)) + 300) from by rw [w9_τ18, w22_τ18, g25_τ18, g28_τ18]]; exact Y14
          have PA : J_pa (τ18.2.1 21) (τ18.2.1 22) := by rw [show (J_pa (τ18.2.1 21) (τ18.2.1 22)) = (J_pa (τ_15.2.1 21) (τ_15.2.1 22)) from by rw [g21_τ18, g22_τ18]]; exact PA
          have SYt : oc (τ18.2.1 6) ≤ (τ18.1 3) := by rw [show (oc (τ18.2.1 6) ≤ (τ18.1 3)) = (oc (τ_15.2.1 6) ≤ (τ_15.1 3)) from by rw [w3_τ18, g6_τ18]]; exact SYt
          have STt : j_l2 (τ18.2.1 6) (τ18.1 3) := by rw [show (j_l2 (τ18.2.1 6) (τ18.1 3)) = (j_l2 (τ_15.2.1 6) (τ_15.1 3)) from by rw [w3_τ18, g6_τ18]]; exact STt
          have A1 : ∀ j, 0 ≤ τ18.2.1 1 j ∧ τ18.2.1 1 j ≤ 255 := fun j => hT.2 1 j
          have A6 : ∀ j, (-1) ≤ τ18.2.1 6 j ∧ τ18.2.1 6 j ≤ 999 := fun j => hT.2 6 j
          have A7 : ∀ j, (-1) ≤ τ18.2.1 7 j ∧ τ18.2.1 7 j ≤ 1499 := fun j => hT.2 7 j
          have A8 : ∀ j, 0 ≤ τ18.2.1 8 j ∧ τ18.2.1 8 j ≤ 1 := fun j => hT.2 8 j
          have A10 : ∀ j, (-1) ≤ τ18.2.1 10 j ∧ τ18.2.1 10 j ≤ 999 := fun j => hT.2 10 j
          have A11 : ∀ j, (-1) ≤ τ18.2.1 11 j ∧ τ18.2.1 11 j ≤ 1499 := fun j => hT.2 11 j
          have A12 : ∀ j, 0 ≤ τ18.2.1 12 j ∧ τ18.2.1 12 j ≤ 1 := fun j => hT.2 12 j
          have A13 : ∀ j, 0 ≤ τ18.2.1 13 j ∧ τ18.2.1 13 j ≤ 4 := fun j => hT.2 13 j
          have A14 : ∀ j, 0 ≤ τ18.2.1 14 j ∧ τ18.2.1 14 j ≤ 30000 := fun j => hT.2 14 j
          have A15 : ∀ j, 0 ≤ τ18.2.1 15 j ∧ τ18.2.1 15 j ≤ 300 := fun j => hT.2 15 j
          have A16 : ∀ j, 0 ≤ τ18.2.1 16 j ∧ τ18.2.1 16 j ≤ 999 := fun j => hT.2 16 j
          have A17 : ∀ j, (-1) ≤ τ18.2.1 17 j ∧ τ18.2.1 17 j ≤ 1499 := fun j => hT.2 17 j
          have A18 : ∀ j, 0 ≤ τ18.2.1 18 j ∧ τ18.2.1 18 j ≤ 90000 := fun j => hT.2 18 j
          have A19 : ∀ j, 0 ≤ τ18.2.1 19 j ∧ τ18.2.1 19 j ≤ 60 := fun j => hT.2 19 j
          have A20 : ∀ j, 0 ≤ τ18.2.1 20 j ∧ τ18.2.1 20 j ≤ 1499 := fun j => hT.2 20 j
          have A21 : ∀ j, 0 ≤ τ18.2.1 21 j ∧ τ18.2.1 21 j ≤ 20000 := fun j => hT.2 21 j
          have A22 : ∀ j, 0 ≤ τ18.2.1 22 j ∧ τ18.2.1 22 j ≤ 20000 := fun j => hT.2 22 j
          have A25 : ∀ j, 0 ≤ τ18.2.1 25 j ∧ τ18.2.1 25 j ≤ 20000 := fun j => hT.2 25 j
          have A26 : ∀ j, 0 ≤ τ18.2.1 26 j ∧ τ18.2.1 26 j ≤ 20000 := fun j => hT.2 26 j
          have A27 : ∀ j, (-300) ≤ τ18.2.1 27 j ∧ τ18.2.1 27 j ≤ 1499 := fun j => hT.2 27 j
          have A28 : ∀ j, 0 ≤ τ18.2.1 28 j ∧ τ18.2.1 28 j ≤ 1 := fun j => hT.2 28 j
          have A31 : ∀ j, 0 ≤ τ18.2.1 31 j ∧ τ18.2.1 31 j ≤ 1499 := fun j => hT.2 31 j
          have A35 : ∀ j, 0 ≤ τ18.2.1 35 j ∧ τ18.2.1 35 j ≤ 1500 := fun j => hT.2 35 j
          have v0 : 0 ≤ τ18.1 0 ∧ τ18.1 0 ≤ 60000 := hT.1 0
          have v2 : 0 ≤ τ18.1 2 ∧ τ18.1 2 ≤ 30000 := hT.1 2
          have v3 : 0 ≤ τ18.1 3 ∧ τ18.1 3 ≤ 1000 := hT.1 3
          have v4 : 0 ≤ τ18.1 4 ∧ τ18.1 4 ≤ 100 := hT.1 4
          have v5 : 0 ≤ τ18.1 5 ∧ τ18.1 5 ≤ 1500 := hT.1 5
          have v6 : 0 ≤ τ18.1 6 ∧ τ18.1 6 ≤ 30000 := hT.1 6
          have v7 : 0 ≤ τ18.1 7 ∧ τ18.1 7 ≤ 90000 := hT.1 7
          have v8 : 0 ≤ τ18.1 8 ∧ τ18.1 8 ≤ 20000 := hT.1 8
          have v9 : 0 ≤ τ18.1 9 ∧ τ18.1 9 ≤ 20000 := hT.1 9
          have v10 : (-1) ≤ τ18.1 10 ∧ τ18.1 10 ≤ 999 := hT.1 10
          have v11 : (-1) ≤ τ18.1 11 ∧ τ18.1 11 ≤ 999 := hT.1 11
          have v13 : 0 ≤ τ18.1 13 ∧ τ18.1 13 ≤ 1500 := hT.1 13
          have v15 : 0 ≤ τ18.1 15 ∧ τ18.1 15 ≤ 50 := hT.1 15
          have v16 : 0 ≤ τ18.1 16 ∧ τ18.1 16 ≤ 60000 := hT.1 16
          have v17 : 0 ≤ τ18.1 17 ∧ τ18.1 17 ≤ 60000 := hT.1 17
          have v18 : 0 ≤ τ18.1 18 ∧ τ18.1 18 ≤ 60000 := hT.1 18
          have v19 : (-1) ≤ τ18.1 19 ∧ τ18.1 19 ≤ 125 := hT.1 19
          have v20 : 0 ≤ τ18.1 20 ∧ τ18.1 20 ≤ 19 := hT.1 20
          have v22 : 0 ≤ τ18.1 22 ∧ τ18.1 22 ≤ 1499 := hT.1 22
          have a14_5 : 0 ≤ τ18.2.1 14 (τ18.1 5) ∧ τ18.2.1 14 (τ18.1 5) ≤ 30000 := hT.2 14 _
          have a14_22 : 0 ≤ τ18.2.1 14 (τ18.1 22) ∧ τ18.2.1 14 (τ18.1 22) ≤ 30000 := hT.2 14 _
          have a15_5 : 0 ≤ τ18.2.1 15 (τ18.1 5) ∧ τ18.2.1 15 (τ18.1 5) ≤ 300 := hT.2 15 _
          have a15_22 : 0 ≤ τ18.2.1 15 (τ18.1 22) ∧ τ18.2.1 15 (τ18.1 22) ≤ 300 := hT.2 15 _
          have a18_22 : 0 ≤ τ18.2.1 18 (τ18.1 22) ∧ τ18.2.1 18 (τ18.1 22) ≤ 90000 := hT.2 18 _
          have a19_22 : 0 ≤ τ18.2.1 19 (τ18.1 22) ∧ τ18.2.1 19 (τ18.1 22) ≤ 60 := hT.2 19 _
          have a21_22 : 0 ≤ τ18.2.1 21 (τ18.1 22) ∧ τ18.2.1 21 (τ18.1 22) ≤ 20000 := hT.2 21 _
          have a22_22 : 0 ≤ τ18.2.1 22 (τ18.1 22) ∧ τ18.2.1 22 (τ18.1 22) ≤ 20000 := hT.2 22 _
          have a25_22 : 0 ≤ τ18.2.1 25 (τ18.1 22) ∧ τ18.2.1 25 (τ18.1 22) ≤ 20000 := hT.2 25 _
          have a26_22 : 0 ≤ τ18.2.1 26 (τ18.1 22) ∧ τ18.2.1 26 (τ18.1 22) ≤ 20000 := hT.2 26 _
          have av5 : σ.1 5 ≤ τ18.1 5 := ag.1 5 (by decide)
          have av6 : σ.1 6 ≤ τ18.1 6 := ag.1 6 (by decide)
          have av7 : σ.1 7 ≤ τ18.1 7 := ag.1 7 (by decide)
          have av8 : σ.1 8 ≤ τ18.1 8 := ag.1 8 (by decide)
          have av9 : σ.1 9 ≤ τ18.1 9 := ag.1 9 (by decide)
          refine ⟨fun c19 => ?_, fun c19 => ?_⟩
          ·
            exact ⟨hT, (show (τ18.1 16) ≤ (τ18.1 0) from by (first | omega | (simp only [st_s] <;> omega) | assumption | omega | fail)), (show (τ18.1 17) + (τ18.1 18) ≤ (τ18.1 0) from by (first | omega | (simp only [st_s] <;> omega) | assumption | omega | fail)), (show ¬ (σ.1 20) = 0 → (τ18.1 20) = (σ.1 20) from by (first | omega | (simp only [st_s] <;> omega) | assumption | omega | fail)), (show ca (τ18.2.1 12) ((τ18.1 3)) ≤ (τ18.1 4) from Y20), (show J_pa (τ18.2.1 21) (τ18.2.1 22) from PA), (show (τ18.1 13) ≤ (τ18.1 5) from by (first | omega | (simp only [st_s] <;> omega) | assumption | omega | fail)), (show oc (τ18.2.1 7) ≤ (σ.1 5) + 1 from by (first | omega | (simp only [st_s] <;> omega) | assumption | omega | fail)), (show (τ18.1 5) ≤ (σ.1 5) + 1 from by (first | omega | (simp only [st_s] <;> omega) | assumption | omega | fail)), (show (τ18.1 20) = 0 → (τ18.1 7) ≤ 60 * (τ18.1 5) from by (first | omega | (simp only [st_s] <;> omega) | assumption | omega | fail)), (show (τ18.1 20) = 0 → (τ18.1 5) = (σ.1 5) + 1 from by (first | omega | (simp only [st_s] <;> omega) | assumption | omega | fail)), (show j_eq ((σ.1 9)) (σ.2.1 28) (τ18.2.1 28) from Y8), (show (τ18.1 20) = 0 → m_J σ → m_J τ18 from by (first | (intro hf; exfalso; omega) | (intro hf hJ; have e5 : σ.1 5 = τ25.1 22 := (by omega); exact m_J_e hJ ag hT0 Y8 (by omega) (by rw [e5] <;> omega) (by rw [e5] <;> omega) (by rw [e5] <;> omega) (by rw [e5] <;> omega) (by rw [e5] <;> omega) (by rw [e5] <;> omega) (by rw [e5] <;> omega) (by rw [e5] <;> omega) (by rw [e5] <;> omega) (by omega) (by rw [e5]; exact Y14)) | (intro hf hJ; have e5 : σ.1 5 = τ28.1 22 := (by omega); exact m_J_e hJ ag hT0 Y8 (by omega) (by rw [e5] <;> omega) (by rw [e5] <;> omega) (by rw [e5] <;> omega) (by rw [e5] <;> omega) (by rw [e5] <;> omega) (by rw [e5] <;> omega) (by rw [e5] <;> omega) (by rw [e5] <;> omega) (by rw [e5] <;> omega) (by omega) (by rw [e5]; exact Y14)) | (intro hf hJ; have e5 : σ.1 5 = τ32.1 22 := (by omega); exact m_J_e hJ ag hT0 Y8 (by omega) (by rw [e5] <;> omega) (by rw [e5] <;> omega) (by rw [e5] <;> omega) (by rw [e5] <;> omega) (by rw [e5] <;> omega) (by rw [e5] <;> omega) (by rw [e5] <;> omega) (by rw [e5] <;> omega) (by rw [e5] <;> omega) (by omega) (by rw [e5]; exact Y14)) | fail)), (show (σ.1 16) ≤ (τ18.1 16) from by (first | omega | (simp only [st_s] <;> omega) | assumption | omega | fail)), ag, (show (τ18.1 20) = 0 → n_J τ18 ∧ n_S τ18 from by (first | (intro z; exfalso; omega) | exact fun _ => ⟨J25, s25⟩ | exact J28 | exact J32 | fail)), (show n_rl σ τ18 from by (first | exact n_rl_t rl15 rl25 | exact n_rl_t rl15 q26_12 | exact n_rl_t rl15 q30_18 | exact n_rl_t rl15 q16_10 | exact n_rl_r rl15 hf_τ15 rfl rfl | exact n_rl_g (by omega) (by omega) (by omega) i15_14 i15_15 | fail)), (show n_hk σ τ18 from by (first | exact n_hk_t hk15 hk25 | exact n_hk_t hk15 q26_13 | exact n_hk_r hk15 hf_τ32 rfl rfl | exact n_hk_r hk15 hf_τ18 rfl rfl | exact n_hk_r hk15 hf_τ15 rfl rfl | exact n_hk_g (by omega) (by omega) i15_17 G35 | fail)), (show n_rc σ τ18 from by (first | exact n_rc_r (n_rc_r (n_rc_r rc15 hf_τ18 rfl rfl) hf_τ22 rfl rfl) hf_τ25 rfl rfl | exact n_rc_r rc15 hf_τ28 rfl rfl | exact n_rc_r rc15 hf_τ32 rfl rfl | exact n_rc_r rc15 hf_τ18 rfl rfl | exact n_rc_r rc15 hf_τ15 rfl rfl | exact i15_18 | fail))⟩
          ·
            refine ⟨_, K3_X13_finish hT (show 0 ≤ (1 : Int) from by (first | omega | (simp only [st_s] <;> omega) | assumption | omega | fail)) (show (1 : Int) ≤ 4 from by (first | omega | (simp only [st_s] <;> omega) | assumption | omega | fail)) (show (τ18.1 5) < 1500 from by (first | omega | (simp only [st_s] <;> omega) | assumption | omega | fail)) (show (τ18.1 22) = (τ18.1 5) from by (first | omega | (simp only [st_s] <;> omega) | assumption | omega | fail)), ?_⟩
            intro τ22 hn_τ22 hf_τ22 hq
            obtain ⟨hT, q20_1, q20_2, q20_3⟩ := hq
            replace q20_1 : (τ22.1 5) = (τ18.1 5) + 1 := q20_1
            replace q20_2 : m_ag τ18 τ22 := q20_2
            replace q20_3 : τ22.2.1 13 = st (τ18.2.1 13) (τ18.1 22) (1 : Int) := q20_3
            replace ag : m_ag σ τ22 := ag_t ag q20_2 rfl
            have w0_τ22 : τ22.1 0 = τ18.1 0 := hf_τ22.1 0 (by decide)
            have w2_τ22 : τ22.1 2 = τ18.1 2 := hf_τ22.1 2 (by decide)
            have w3_τ22 : τ22.1 3 = τ18.1 3 := hf_τ22.1 3 (by decide)
            have w4_τ22 : τ22.1 4 = τ18.1 4 := hf_τ22.1 4 (by decide)
            have w6_τ22 : τ22.1 6 = τ18.1 6 := hf_τ22.1 6 (by decide)
            have w7_τ22 : τ22.1 7 = τ18.1 7 := hf_τ22.1 7 (by decide)
            have w8_τ22 : τ22.1 8 = τ18.1 8 := hf_τ22.1 8 (by decide)
            have w9_τ22 : τ22.1 9 = τ18.1 9 := hf_τ22.1 9 (by decide)
            have w10_τ22 : τ22.1 10 = τ18.1 10 := hf_τ22.1 10 (by decide)
            have w11_τ22 : τ22.1 11 = τ18.1 11 := hf_τ22.1 11 (by decide)
            have w13_τ22 : τ22.1 13 = τ18.1 13 := hf_τ22.1 13 (by decide)
            have w15_τ22 : τ22.1 15 = τ18.1 15 := hf_τ22.1 15 (by decide)
            have w16_τ22 : τ22.1 16 = τ18.1 16 := hf_τ22.1 16 (by decide)
            have w17_τ22 : τ22.1 17 = τ18.1 17 := hf_τ22.1 17 (by decide)
            have w18_τ22 : τ22.1 18 = τ18.1 18 := hf_τ22.1 18 (by decide)
            have w19_τ22 : τ22.1 19 = τ18.1 19 := hf_τ22.1 19 (by decide)
            have w20_τ22 : τ22.1 20 = τ18.1 20 := hf_τ22.1 20 (by decide)
            have w22_τ22 : τ22.1 22 = τ18.1 22 := hf_τ22.1 22 (by decide)
            have g1_τ22 : τ22.2.1 1 = τ18.2.1 1 := hf_τ22.2.1 1 (by decide)
            have g6_τ22 : τ22.2.1 6 = τ18.2.1 6 := hf_τ22.2.1 6 (by decide)
            have g7_τ22 : τ22.2.1 7 = τ18.2.1 7 := hf_τ22.2.1 7 (by decide)
            have g8_τ22 : τ22.2.1 8 = τ18.2.1 8 := hf_τ22.2.1 8 (by decide)
            have g10_τ22 : τ22.2.1 10 = τ18.2.1 10 := hf_τ22.2.1 10 (by decide)
            have g11_τ22 : τ22.2.1 11 = τ18.2.1 11 := hf_τ22.2.1 11 (by decide)
            have g12_τ22 : τ22.2.1 12 = τ18.2.1 12 := hf_τ22.2.1 12 (by decide)
            have g14_τ22 : τ22.2.1 14 = τ18.2.1 14 := hf_τ22.2.1 14 (by decide)
            have g15_τ22 : τ22.2.1 15 = τ18.2.1 15 := hf_τ22.2.1 15 (by decide)
            have g16_τ22 : τ22.2.1 16 = τ18.2.1 16 := hf_τ22.2.1 16 (by decide)
            have g17_τ22 : τ22.2.1 17 = τ18.2.1 17 := hf_τ22.2.1 17 (by decide)
            have g18_τ22 : τ22.2.1 18 = τ18.2.1 18 := hf_τ22.2.1 18 (by decide)
            have g19_τ22 : τ22.2.1 19 = τ18.2.1 19 := hf_τ22.2.1 19 (by decide)
            have g20_τ22 : τ22.2.1 20 = τ18.2.1 20 := hf_τ22.2.1 20 (by decide)
            have g21_τ22 : τ22.2.1 21 = τ18.2.1 21 := hf_τ22.2.1 21 (by decide)
            have g22_τ22 : τ22.2.1 22 = τ18.2.1 22 := hf_τ22.2.1 22 (by decide)
            have g25_τ22 : τ22.2.1 25 = τ18.2.1 25 := hf_τ22.2.1 25 (by decide)
            have g26_τ22 : τ22.2.1 26 = τ18.2.1 26 := hf_τ22.2.1 26 (by decide)
            have g27_τ22 : τ22.2.1 27 = τ18.2.1 27 := hf_τ22.2.1 27 (by decide)
            have g28_τ22 : τ22.2.1 28 = τ18.2.1 28 := hf_τ22.2.1 28 (by decide)
            have g31_τ22 : τ22.2.1 31 = τ18.2.1 31 := hf_τ22.2.1 31 (by decide)
            have g35_τ22 : τ22.2.1 35 = τ18.2.1 35 := hf_τ22.2.1 35 (by decide)
            first | (have o6_τ22 := congrArg oc g6_τ22) | skip
            first | (have o7_τ22 := congrArg oc g7_τ22) | skip
            have W0 : τ22.1 0 = σ.1 0 := by first | exact w0_τ22.trans W0 | omega
            have W3 : τ22.1 3 = σ.1 3 := by first | exact w3_τ22.trans W3 | omega
            have W10 : τ22.1 10 = σ.1 10 := by first | exact w10_τ22.trans W10 | omega
            have W11 : τ22.1 11 = σ.1 11 := by first | exact w11_τ22.trans W11 | omega
            have W15 : τ22.1 15 = σ.1 15 := by first | exact w15_τ22.trans W15 | omega
            have G6 : τ22.2.1 6 = σ.2.1 6 := (g6_τ22).trans G6
            have G8 : τ22.2.1 8 = σ.2.1 8 := (g8_τ22).trans G8
            have G35 : τ22.2.1 35 = σ.2.1 35 := (g35_τ22).trans G35
            have y14_22_τ22 : τ22.2.1 14 (τ22.1 22) = (τ18.2.1 14) (τ18.1 22) := by rw [g14_τ22, w22_τ22]
            have y15_22_τ22 : τ22.2.1 15 (τ22.1 22) = (τ18.2.1 15) (τ18.1 22) := by rw [g15_τ22, w22_τ22]
            have y18_22_τ22 : τ22.2.1 18 (τ22.1 22) = (τ18.2.1 18) (τ18.1 22) := by rw [g18_τ22, w22_τ22]
            have y19_22_τ22 : τ22.2.1 19 (τ22.1 22) = (τ18.2.1 19) (τ18.1 22) := by rw [g19_τ22, w22_τ22]
            have y21_22_τ22 : τ22.2.1 21 (τ22.1 22) = (τ18.2.1 21) (τ18.1 22) := by rw [g21_τ22, w22_τ22]
            have y22_22_τ22 : τ22.2.1 22 (τ22.1 22) = (τ18.2.1 22) (τ18.1 22) := by rw [g22_τ22, w22_τ22]
            have y25_22_τ22 : τ22.2.1 25 (τ22.1 22) = (τ18.2.1 25) (τ18.1 22) := by rw [g25_τ22, w22_τ22]
            have y26_22_τ22 : τ22.2.1 26 (τ22.1 22) = (τ18.2.1 26) (τ18.1 22) := by rw [g26_τ22, w22_τ22]
            have Z1 : τ22.2.1 14 (τ22.1 22) + τ22.2.1 15 (τ22.1 22) = (τ22.1 6) := by rw [show (τ22.2.1 14 (τ22.1 22) + τ22.2.1 15 (τ22.1 22) = (τ22.1 6)) = (τ18.2.1 14 (τ18.1 22) + τ18.2.1 15 (τ18.1 22) = (τ18.1 6)) from by rw [w6_τ22, w22_τ22, g14_τ22, g15_τ22]]; exact Z1
            have Z2 : τ22.2.1 18 (τ22.1 22) + τ22.2.1 19 (τ22.1 22) = (τ22.1 7) := by rw [show (τ22.2.1 18 (τ22.1 22) + τ22.2.1 19 (τ22.1 22) = (τ22.1 7)) = (τ18.2.1 18 (τ18.1 22) + τ18.2.1 19 (τ18.1 22) = (τ18.1 7)) from by rw [w7_τ22, w22_τ22, g18_τ22, g19_τ22]]; exact Z2
            have Z3 : τ22.2.1 21 (τ22.1 22) + τ22.2.1 22 (τ22.1 22) = (τ22.1 8) := by rw [show (τ22.2.1 21 (τ22.1 22) + τ22.2.1 22 (τ22.1 22) = (τ22.1 8)) = (τ18.2.1 21 (τ18.1 22) + τ18.2.1 22 (τ18.1 22) = (τ18.1 8)) from by rw [w8_τ22, w22_τ22, g21_τ22, g22_τ22]]; exact Z3
            have Z4 : τ22.2.1 25 (τ22.1 22) + τ22.2.1 26 (τ22.1 22) = (τ22.1 9) := by rw [show (τ22.2.1 25 (τ22.1 22) + τ22.2.1 26 (τ22.1 22) = (τ22.1 9)) = (τ18.2.1 25 (τ18.1 22) + τ18.2.1 26 (τ18.1 22) = (τ18.1 9)) from by rw [w9_τ22, w22_τ22, g25_τ22, g26_τ22]]; exact Z4
            have Y20 : ca (τ22.2.1 12) ((τ22.1 3)) ≤ (τ22.1 4) := by rw [show (ca (τ22.2.1 12) ((τ22.1 3)) ≤ (τ22.1 4)) = (ca (τ18.2.1 12) ((τ18.1 3)) ≤ (τ18.1 4)) from by rw [w3_τ22, w4_τ22, g12_τ22]]; exact Y20
            have Y8 : j_eq ((σ.1 9)) (σ.2.1 28) (τ22.2.1 28) := by rw [show (j_eq ((σ.1 9)) (σ.2.1 28) (τ22.2.1 28)) = (j_eq ((σ.1 9)) (σ.2.1 28) (τ18.2.1 28)) from by rw [g28_τ22]]; exact Y8
            have Y1 : j_l2 (τ22.2.1 6) (τ22.1 3) := by rw [show (j_l2 (τ22.2.1 6) (τ22.1 3)) = (j_l2 (τ18.2.1 6) (τ18.1 3)) from by rw [w3_τ22, g6_τ22]]; exact Y1
            have Y14 : ca (τ22.2.1 28) ((τ22.1 9)) ≤ ca (τ22.2.1 28) (τ22.2.1 25 (τ22.1 22)) + 300 := by rw [show (ca (τ22.2.1 28) ((τ22.1 9)) ≤ ca (τ22.2.1 28) (τ22.2.1 25 (τ22.1 22)) + 300) = (ca (τ18.2.1 28) ((τ18.1 9)) ≤ ca (τ18.2.1 28) (τ18.2.1 25 (τ18.1 22)) + 300) from by rw [w9_τ22, w22_τ22, g25_τ22, g28_τ22]]; exact Y14
            have PA : J_pa (τ22.2.1 21) (τ22.2.1 22) := by rw [show (J_pa (τ22.2.1 21) (τ22.2.1 22)) = (J_pa (τ18.2.1 21) (τ18.2.1 22)) from by rw [g21_τ22, g22_τ22]]; exact PA
            have SYt : oc (τ22.2.1 6) ≤ (τ22.1 3) := by rw [show (oc (τ22.2.1 6) ≤ (τ22.1 3)) = (oc (τ18.2.1 6) ≤ (τ18.1 3)) from by rw [w3_τ22, g6_τ22]]; exact SYt
            have STt : j_l2 (τ22.2.1 6) (τ22.1 3) := by rw [show (j_l2 (τ22.2.1 6) (τ22.1 3)) = (j_l2 (τ18.2.1 6) (τ18.1 3)) from by rw [w3_τ22, g6_τ22]]; exact STt
            have A1 : ∀ j, 0 ≤ τ22.2.1 1 j ∧ τ22.2.1 1 j ≤ 255 := fun j => hT.2 1 j
            have A6 : ∀ j, (-1) ≤ τ22.2.1 6 j ∧ τ22.2.1 6 j ≤ 999 := fun j => hT.2 6 j
            have A7 : ∀ j, (-1) ≤ τ22.2.1 7 j ∧ τ22.2.1 7 j ≤ 1499 := fun j => hT.2 7 j
            have A8 : ∀ j, 0 ≤ τ22.2.1 8 j ∧ τ22.2.1 8 j ≤ 1 := fun j => hT.2 8 j
            have A10 : ∀ j, (-1) ≤ τ22.2.1 10 j ∧ τ22.2.1 10 j ≤ 999 := fun j => hT.2 10 j
            have A11 : ∀ j, (-1) ≤ τ22.2.1 11 j ∧ τ22.2.1 11 j ≤ 1499 := fun j => hT.2 11 j
            have A12 : ∀ j, 0 ≤ τ22.2.1 12 j ∧ τ22.2.1 12 j ≤ 1 := fun j => hT.2 12 j
            have A13 : ∀ j, 0 ≤ τ22.2.1 13 j ∧ τ22.2.1 13 j ≤ 4 := fun j => hT.2 13 j
            have A14 : ∀ j, 0 ≤ τ22.2.1 14 j ∧ τ22.2.1 14 j ≤ 30000 := fun j => hT.2 14 j
            have A15 : ∀ j, 0 ≤ τ22.2.1 15 j ∧ τ22.2.1 15 j ≤ 300 := fun j => hT.2 15 j
            have A16 : ∀ j, 0 ≤ τ22.2.1 16 j ∧ τ22.2.1 16 j ≤ 999 := fun j => hT.2 16 j
            have A17 : ∀ j, (-1) ≤ τ22.2.1 17 j ∧ τ22.2.1 17 j ≤ 1499 := fun j => hT.2 17 j
            have A18 : ∀ j, 0 ≤ τ22.2.1 18 j ∧ τ22.2.1 18 j ≤ 90000 := fun j => hT.2 18 j
            have A19 : ∀ j, 0 ≤ τ22.2.1 19 j ∧ τ22.2.1 19 j ≤ 60 := fun j => hT.2 19 j
            have A20 : ∀ j, 0 ≤ τ22.2.1 20 j ∧ τ22.2.1 20 j ≤ 1499 := fun j => hT.2 20 j
            have A21 : ∀ j, 0 ≤ τ22.2.1 21 j ∧ τ22.2.1 21 j ≤ 20000 := fun j => hT.2 21 j
            have A22 : ∀ j, 0 ≤ τ22.2.1 22 j ∧ τ22.2.1 22 j ≤ 20000 := fun j => hT.2 22 j
            have A25 : ∀ j, 0 ≤ τ22.2.1 25 j ∧ τ22.2.1 25 j ≤ 20000 := fun j => hT.2 25 j
            have A26 : ∀ j, 0 ≤ τ22.2.1 26 j ∧ τ22.2.1 26 j ≤ 20000 := fun j => hT.2 26 j
            have A27 : ∀ j, (-300) ≤ τ22.2.1 27 j ∧ τ22.2.1 27 j ≤ 1499 := fun j => hT.2 27 j
            have A28 : ∀ j, 0 ≤ τ22.2.1 28 j ∧ τ22.2.1 28 j ≤ 1 := fun j => hT.2 28 j
            have A31 : ∀ j, 0 ≤ τ22.2.1 31 j ∧ τ22.2.1 31 j ≤ 1499 := fun j => hT.2 31 j
            have A35 : ∀ j, 0 ≤ τ22.2.1 35 j ∧ τ22.2.1 35 j ≤ 1500 := fun j => hT.2 35 j
            have v0 : 0 ≤ τ22.1 0 ∧ τ22.1 0 ≤ 60000 := hT.1 0
            have v2 : 0 ≤ τ22.1 2 ∧ τ22.1 2 ≤ 30000 := hT.1 2
            have v3 : 0 ≤ τ22.1 3 ∧ τ22.1 3 ≤ 1000 := hT.1 3
            have v4 : 0 ≤ τ22.1 4 ∧ τ22.1 4 ≤ 100 := hT.1 4
            have v5 : 0 ≤ τ22.1 5 ∧ τ22.1 5 ≤ 1500 := hT.1 5
            have v6 : 0 ≤ τ22.1 6 ∧ τ22.1 6 ≤ 30000 := hT.1 6
            have v7 : 0 ≤ τ22.1 7 ∧ τ22.1 7 ≤ 90000 := hT.1 7
            have v8 : 0 ≤ τ22.1 8 ∧ τ22.1 8 ≤ 20000 := hT.1 8
            have v9 : 0 ≤ τ22.1 9 ∧ τ22.1 9 ≤ 20000 := hT.1 9
            have v10 : (-1) ≤ τ22.1 10 ∧ τ22.1 10 ≤ 999 := hT.1 10
            have v11 : (-1) ≤ τ22.1 11 ∧ τ22.1 11 ≤ 999 := hT.1 11
            have v13 : 0 ≤ τ22.1 13 ∧ τ22.1 13 ≤ 1500 := hT.1 13
            have v15 : 0 ≤ τ22.1 15 ∧ τ22.1 15 ≤ 50 := hT.1 15
            have v16 : 0 ≤ τ22.1 16 ∧ τ22.1 16 ≤ 60000 := hT.1 16
            have v17 : 0 ≤ τ22.1 17 ∧ τ22.1 17 ≤ 60000 := hT.1 17
            have v18 : 0 ≤ τ22.1 18 ∧ τ22.1 18 ≤ 60000 := hT.1 18
            have v19 : (-1) ≤ τ22.1 19 ∧ τ22.1 19 ≤ 125 := hT.1 19
            have v20 : 0 ≤ τ22.1 20 ∧ τ22.1 20 ≤ 19 := hT.1 20
            have v22 : 0 ≤ τ22.1 22 ∧ τ22.1 22 ≤ 1499 := hT.1 22
            have a14_5 : 0 ≤ τ22.2.1 14 (τ22.1 5) ∧ τ22.2.1 14 (τ22.1 5) ≤ 30000 := hT.2 14 _
            have a14_22 : 0 ≤ τ22.2.1 14 (τ22.1 22) ∧ τ22.2.1 14 (τ22.1 22) ≤ 30000 := hT.2 14 _
            have a15_5 : 0 ≤ τ22.2.1 15 (τ22.1 5) ∧ τ22.2.1 15 (τ22.1 5) ≤ 300 := hT.2 15 _
            have a15_22 : 0 ≤ τ22.2.1 15 (τ22.1 22) ∧ τ22.2.1 15 (τ22.1 22) ≤ 300 := hT.2 15 _
            have a18_22 : 0 ≤ τ22.2.1 18 (τ22.1 22) ∧ τ22.2.1 18 (τ22.1 22) ≤ 90000 := hT.2 18 _
            have a19_22 : 0 ≤ τ22.2.1 19 (τ22.1 22) ∧ τ22.2.1 19 (τ22.1 22) ≤ 60 := hT.2 19 _
            have a21_22 : 0 ≤ τ22.2.1 21 (τ22.1 22) ∧ τ22.2.1 21 (τ22.1 22) ≤ 20000 := hT.2 21 _
            have a22_22 : 0 ≤ τ22.2.1 22 (τ22.1 22) ∧ τ22.2.1 22 (τ22.1 22) ≤ 20000 := hT.2 22 _
            have a25_22 : 0 ≤ τ22.2.1 25 (τ22.1 22) ∧ τ22.2.1 25 (τ22.1 22) ≤ 20000 := hT.2 25 _
            have a26_22 : 0 ≤ τ22.2.1 26 (τ22.1 22) ∧ τ22.2.1 26 (τ22.1 22) ≤ 20000 := hT.2 26 _
            have av5 : σ.1 5 ≤ τ22.1 5 := ag.1 5 (by decide)
            have av6 : σ.1 6 ≤ τ22.1 6 := ag.1 6 (by decide)
            have av7 : σ.1 7 ≤ τ22.1 7 := ag.1 7 (by decide)
            have av8 : σ.1 8 ≤ τ22.1 8 := ag.1 8 (by decide)
            have av9 : σ.1 9 ≤ τ22.1 9 := ag.1 9 (by decide)
            refine ⟨_, K3_X13_activate hT (show (τ22.1 13) < 1500 from by (first | omega | (simp only [st_s] <;> omega) | assumption | omega | fail)), ?_⟩
            intro τ25 hn_τ25 hf_τ25 hq
            obtain ⟨hT, q23_1, q23_2⟩ := hq
            replace q23_1 : (τ25.1 13) = (τ22.1 13) + 1 := q23_1
            replace q23_2 : τ25.2.1 31 = st (τ22.2.1 31) (τ22.1 13) (τ22.1 22) := q23_2
            replace ag : m_ag σ τ25 := ag_r ag hf_τ25 rfl rfl
            have w0_τ25 : τ25.1 0 = τ22.1 0 := hf_τ25.1 0 (by decide)
            have w2_τ25 : τ25.1 2 = τ22.1 2 := hf_τ25.1 2 (by decide)
            have w3_τ25 : τ25.1 3 = τ22.1 3 := hf_τ25.1 3 (by decide)
            have w4_τ25 : τ25.1 4 = τ22.1 4 := hf_τ25.1 4 (by decide)
            have w5_τ25 : τ25.1 5 = τ22.1 5 := hf_τ25.1 5 (by decide)
            have w6_τ25 : τ25.1 6 = τ22.1 6 := hf_τ25.1 6 (by decide)
            have w7_τ25 : τ25.1 7 = τ22.1 7 := hf_τ25.1 7 (by decide)
            have w8_τ25 : τ25.1 8 = τ22.1 8 := hf_τ25.1 8 (by decide)
            have w9_τ25 : τ25.1 9 = τ22.1 9 := hf_τ25.1 9 (by decide)
            have w10_τ25 : τ25.1 10 = τ22.1 10 := hf_τ25.1 10 (by decide)
            have w11_τ25 : τ25.1 11 = τ22.1 11 := hf_τ25.1 11 (by decide)
            have w15_τ25 : τ25.1 15 = τ22.1 15 := hf_τ25.1 15 (by decide)
            have w16_τ25 : τ25.1 16 = τ22.1 16 := hf_τ25.1 16 (by decide)
            have w17_τ25 : τ25.1 17 = τ22.1 17 := hf_τ25.1 17 (by decide)
            have w18_τ25 : τ25.1 18 = τ22.1 18 := hf_τ25.1 18 (by decide)
            have w19_τ25 : τ25.1 19 = τ22.1 19 := hf_τ25.1 19 (by decide)
            have w20_τ25 : τ25.1 20 = τ22.1 20 := hf_τ25.1 20 (by decide)
            have w22_τ25 : τ25.1 22 = τ22.1 22 := hf_τ25.1 22 (by decide)
            have g1_τ25 : τ25.2.1 1 = τ22.2.1 1 := hf_τ25.2.1 1 (by decide)
            have g6_τ25 : τ25.2.1 6 = τ22.2.1 6 := hf_τ25.2.1 6 (by decide)
            have g7_τ25 : τ25.2.1 7 = τ22.2.1 7 := hf_τ25.2.1 7 (by decide)
            have g8_τ25 : τ25.2.1 8 = τ22.2.1 8 := hf_τ25.2.1 8 (by decide)
            have g10_τ25 : τ25.2.1 10 = τ22.2.1 10 := hf_τ25.2.1 10 (by decide)
            have g11_τ25 : τ25.2.1 11 = τ22.2.1 11 := hf_τ25.2.1 11 (by decide)
            have g12_τ25 : τ25.2.1 12 = τ22.2.1 12 := hf_τ25.2.1 12 (by decide)
            have g13_τ25 : τ25.2.1 13 = τ22.2.1 13 := hf_τ25.2.1 13 (by decide)
            have g14_τ25 : τ25.2.1 14 = τ22.2.1 14 := hf_τ25.2.1 14 (by decide)
            have g15_τ25 : τ25.2.1 15 = τ22.2.1 15 := hf_τ25.2.1 15 (by decide)
            have g16_τ25 : τ25.2.1 16 = τ22.2.1 16 := hf_τ25.2.1 16 (by decide)
            have g17_τ25 : τ25.2.1 17 = τ22.2.1 17 := hf_τ25.2.1 17 (by decide)
            have g18_τ25 : τ25.2.1 18 = τ22.2.1 18 := hf_τ25.2.1 18 (by decide)
            have g19_τ25 : τ25.2.1 19 = τ22.2.1 19 := hf_τ25.2.1 19 (by decide)
            have g20_τ25 : τ25.2.1 20 = τ22.2.1 20 := hf_τ25.2.1 20 (by decide)
            have g21_τ25 : τ25.2.1 21 = τ22.2.1 21 := hf_τ25.2.1 21 (by decide)
            have g22_τ25 : τ25.2.1 22 = τ22.2.1 22 := hf_τ25.2.1 22 (by decide)
            have g25_τ25 : τ25.2.1 25 = τ22.2.1 25 := hf_τ25.2.1 25 (by decide)
            have g26_τ25 : τ25.2.1 26 = τ22.2.1 26 := hf_τ25.2.1 26 (by decide)
            have g27_τ25 : τ25.2.1 27 = τ22.2.1 27 := hf_τ25.2.1 27 (by decide)
            have g28_τ25 : τ25.2.1 28 = τ22.2.1 28 := hf_τ25.2.1 28 (by decide)
            have g35_τ25 : τ25.2.1 35 = τ22.2.1 35 := hf_τ25.2.1 35 (by decide)
            first | (have o6_τ25 := congrArg oc g6_τ25) | skip
            first | (have o7_τ25 := congrArg oc g7_τ25) | skip
            have W0 : τ25.1 0 = σ.1 0 := by first | exact w0_τ25.trans W0 | omega
            have W3 : τ25.1 3 = σ.1 3 := by first | exact w3_τ25.trans W3 | omega
            have W10 : τ25.1 10 = σ.1 10 := by first | exact w10_τ25.trans W10 | omega
            have W11 : τ25.1 11 = σ.1 11 := by first | exact w11_τ25.trans W11 | omega
            have W15 : τ25.1 15 = σ.1 15 := by first | exact w15_τ25.trans W15 | omega
            have G6 : τ25.2.1 6 = σ.2.1 6 := (g6_τ25).trans G6
            have G8 : τ25.2.1 8 = σ.2.1 8 := (g8_τ25).trans G8
            have G35 : τ25.2.1 35 = σ.2.1 35 := (g35_τ25).trans G35
            have y14_5_τ25 : τ25.2.1 14 (τ25.1 5) = (τ22.2.1 14) (τ22.1 5) := by rw [g14_τ25, w5_τ25]
            have y14_22_τ25 : τ25.2.1 14 (τ25.1 22) = (τ22.2.1 14) (τ22.1 22) := by rw [g14_τ25, w22_τ25]
            have y15_5_τ25 : τ25.2.1 15 (τ25.1 5) = (τ22.2.1 15) (τ22.1 5) := by rw [g15_τ25, w5_τ25]
            have y15_22_τ25 : τ25.2.1 15 (τ25.1 22) = (τ22.2.1 15) (τ22.1 22) := by rw [g15_τ25, w22_τ25]
            have y18_22_τ25 : τ25.2.1 18 (τ25.1 22) = (τ22.2.1 18) (τ22.1 22) := by rw [g18_τ25, w22_τ25]
            have y19_22_τ25 : τ25.2.1 19 (τ25.1 22) = (τ22.2.1 19) (τ22.1 22) := by rw [g19_τ25, w22_τ25]
            have y21_22_τ25 : τ25.2.1 21 (τ25.1 22) = (τ22.2.1 21) (τ22.1 22) := by rw [g21_τ25, w22_τ25]
            have y22_22_τ25 : τ25.2.1 22 (τ25.1 22) = (τ22.2.1 22) (τ22.1 22) := by rw [g22_τ25, w22_τ25]
            have y25_22_τ25 : τ25.2.1 25 (τ25.1 22) = (τ22.2.1 25) (τ22.1 22) := by rw [g25_τ25, w22_τ25]
            have y26_22_τ25 : τ25.2.1 26 (τ25.1 22) = (τ22.2.1 26) (τ22.1 22) := by rw [g26_τ25, w22_τ25]
            have Z1 : τ25.2.1 14 (τ25.1 22) + τ25.2.1 15 (τ25.1 22) = (τ25.1 6) := by rw [show (τ25.2.1 14 (τ25.1 22) + τ25.2.1 15 (τ25.1 22) = (τ25.1 6)) = (τ22.2.1 14 (τ22.1 22) + τ22.2.1 15 (τ22.1 22) = (τ22.1 6)) from by rw [w6_τ25, w22_τ25, g14_τ25, g15_τ25]]; exact Z1
            have Z2 : τ25.2.1 18 (τ25.1 22) + τ25.2.1 19 (τ25.1 22) = (τ25.1 7) := by rw [show (τ25.2.1 18 (τ25.1 22) + τ25.2.1 19 (τ25.1 22) = (τ25.1 7)) = (τ22.2.1 18 (τ22.1 22) + τ22.2.1 19 (τ22.1 22) = (τ22.1 7)) from by rw [w7_τ25, w22_τ25, g18_τ25, g19_τ25]]; exact Z2
            have Z3 : τ25.2.1 21 (τ25.1 22) + τ25.2.1 22 (τ25.1 22) = (τ25.1 8) := by rw [show (τ25.2.1 21 (τ25.1 22) + τ25.2.1 22 (τ25.1 22) = (τ25.1 8)) = (τ22.2.1 21 (τ22.1 22) + τ22.2.1 22 (τ22.1 22) = (τ22.1 8)) from by rw [w8_τ25, w22_τ25, g21_τ25, g22_τ25]]; exact Z3
            have Z4 : τ25.2.1 25 (τ25.1 22) + τ25.2.1 26 (τ25.1 22) = (τ25.1 9) := by rw [show (τ25.2.1 25 (τ25.1 22) + τ25.2.1 26 (τ25.1 22) = (τ25.1 9)) = (τ22.2.1 25 (τ22.1 22) + τ22.2.1 26 (τ22.1 22) = (τ22.1 9)) from by rw [w9_τ25, w22_τ25, g25_τ25, g26_τ25]]; exact Z4
            have Y20 : ca (τ25.2.1 12) ((τ25.1 3)) ≤ (τ25.1 4) := by rw [show (ca (τ25.2.1 12) ((τ25.1 3)) ≤ (τ25.1 4)) = (ca (τ22.2.1 12) ((τ22.1 3)) ≤ (τ22.1 4)) from by rw [w3_τ25, w4_τ25, g12_τ25]]; exact Y20
            have Y8 : j_eq ((σ.1 9)) (σ.2.1 28) (τ25.2.1 28) := by rw [show (j_eq ((σ.1 9)) (σ.2.1 28) (τ25.2.1 28)) = (j_eq ((σ.1 9)) (σ.2.1 28) (τ22.2.1 28)) from by rw [g28_τ25]]; exact Y8
            have Y1 : j_l2 (τ25.2.1 6) (τ25.1 3) := by rw [show (j_l2 (τ25.2.1 6) (τ25.1 3)) = (j_l2 (τ22.2.1 6) (τ22.1 3)) from by rw [w3_τ25, g6_τ25]]; exact Y1
            have Y14 : ca (τ25.2.1 28) ((τ25.1 9)) ≤ ca (τ25.2.1 28) (τ25.2.1 25 (τ25.1 22)) + 300 := by rw [show (ca (τ25.2.1 28) ((τ25.1 9)) ≤ ca (τ25.2.1 28) (τ25.2.1 25 (τ25.1 22)) + 300) = (ca (τ22.2.1 28) ((τ22.1 9)) ≤ ca (τ22.2.1 28) (τ22.2.1 25 (τ22.1 22)) + 300) from by rw [w9_τ25, w22_τ25, g25_τ25, g28_τ25]]; exact Y14
            have PA : J_pa (τ25.2.1 21) (τ25.2.1 22) := by rw [show (J_pa (τ25.2.1 21) (τ25.2.1 22)) = (J_pa (τ22.2.1 21) (τ22.2.1 22)) from by rw [g21_τ25, g22_τ25]]; exact PA
            have SYt : oc (τ25.2.1 6) ≤ (τ25.1 3) := by rw [show (oc (τ25.2.1 6) ≤ (τ25.1 3)) = (oc (τ22.2.1 6) ≤ (τ22.1 3)) from by rw [w3_τ25, g6_τ25]]; exact SYt
            have STt : j_l2 (τ25.2.1 6) (τ25.1 3) := by rw [show (j_l2 (τ25.2.1 6) (τ25.1 3)) = (j_l2 (τ22.2.1 6) (τ22.1 3)) from by rw [w3_τ25, g6_τ25]]; exact STt
            have A1 : ∀ j, 0 ≤ τ25.2.1 1 j ∧ τ25.2.1 1 j ≤ 255 := fun j => hT.2 1 j
            have A6 : ∀ j, (-1) ≤ τ25.2.1 6 j ∧ τ25.2.1 6 j ≤ 999 := fun j => hT.2 6 j
            have A7 : ∀ j, (-1) ≤ τ25.2.1 7 j ∧ τ25.2.1 7 j ≤ 1499 := fun j => hT.2 7 j
            have A8 : ∀ j, 0 ≤ τ25.2.1 8 j ∧ τ25.2.1 8 j ≤ 1 := fun j => hT.2 8 j
            have A10 : ∀ j, (-1) ≤ τ25.2.1 10 j ∧ τ25.2.1 10 j ≤ 999 := fun j => hT.2 10 j
            have A11 : ∀ j, (-1) ≤ τ25.2.1 11 j ∧ τ25.2.1 11 j ≤ 1499 := fun j => hT.2 11 j
            have A12 : ∀ j, 0 ≤ τ25.2.1 12 j ∧ τ25.2.1 12 j ≤ 1 := fun j => hT.2 12 j
            have A13 : ∀ j, 0 ≤ τ25.2.1 13 j ∧ τ25.2.1 13 j ≤ 4 := fun j => hT.2 13 j
            have A14 : ∀ j, 0 ≤ τ25.2.1 14 j ∧ τ25.2.1 14 j ≤ 30000 := fun j => hT.2 14 j
            have A15 : ∀ j, 0 ≤ τ25.2.1 15 j ∧ τ25.2.1 15 j ≤ 300 := fun j => hT.2 15 j
            have A16 : ∀ j, 0 ≤ τ25.2.1 16 j ∧ τ25.2.1 16 j ≤ 999 := fun j => hT.2 16 j
            have A17 : ∀ j, (-1) ≤ τ25.2.1 17 j ∧ τ25.2.1 17 j ≤ 1499 := fun j => hT.2 17 j
            have A18 : ∀ j, 0 ≤ τ25.2.1 18 j ∧ τ25.2.1 18 j ≤ 90000 := fun j => hT.2 18 j
            have A19 : ∀ j, 0 ≤ τ25.2.1 19 j ∧ τ25.2.1 19 j ≤ 60 := fun j => hT.2 19 j
            have A20 : ∀ j, 0 ≤ τ25.2.1 20 j ∧ τ25.2.1 20 j ≤ 1499 := fun j => hT.2 20 j
            have A21 : ∀ j, 0 ≤ τ25.2.1 21 j ∧ τ25.2.1 21 j ≤ 20000 := fun j => hT.2 21 j
            have A22 : ∀ j, 0 ≤ τ25.2.1 22 j ∧ τ25.2.1 22 j ≤ 20000 := fun j => hT.2 22 j
            have A25 : ∀ j, 0 ≤ τ25.2.1 25 j ∧ τ25.2.1 25 j ≤ 20000 := fun j => hT.2 25 j
            have A26 : ∀ j, 0 ≤ τ25.2.1 26 j ∧ τ25.2.1 26 j ≤ 20000 := fun j => hT.2 26 j
            have A27 : ∀ j, (-300) ≤ τ25.2.1 27 j ∧ τ25.2.1 27 j ≤ 1499 := fun j => hT.2 27 j
            have A28 : ∀ j, 0 ≤ τ25.2.1 28 j ∧ τ25.2.1 28 j ≤ 1 := fun j => hT.2 28 j
            have A31 : ∀ j, 0 ≤ τ25.2.1 31 j ∧ τ25.2.1 31 j ≤ 1499 := fun j => hT.2 31 j
            have A35 : ∀ j, 0 ≤ τ25.2.1 35 j ∧ τ25.2.1 35 j ≤ 1500 := fun j => hT.2 35 j
            have v0 : 0 ≤ τ25.1 0 ∧ τ25.1 0 ≤ 60000 := hT.1 0
            have v2 : 0 ≤ τ25.1 2 ∧ τ25.1 2 ≤ 30000 := hT.1 2
            have v3 : 0 ≤ τ25.1 3 ∧ τ25.1 3 ≤ 1000 := hT.1 3
            have v4 : 0 ≤ τ25.1 4 ∧ τ25.1 4 ≤ 100 := hT.1 4
            have v5 : 0 ≤ τ25.1 5 ∧ τ25.1 5 ≤ 1500 := hT.1 5
            have v6 : 0 ≤ τ25.1 6 ∧ τ25.1 6 ≤ 30000 := hT.1 6
            have v7 : 0 ≤ τ25.1 7 ∧ τ25.1 7 ≤ 90000 := hT.1 7
            have v8 : 0 ≤ τ25.1 8 ∧ τ25.1 8 ≤ 20000 := hT.1 8
            have v9 : 0 ≤ τ25.1 9 ∧ τ25.1 9 ≤ 20000 := hT.1 9
            have v10 : (-1) ≤ τ25.1 10 ∧ τ25.1 10 ≤ 999 := hT.1 10
            have v11 : (-1) ≤ τ25.1 11 ∧ τ25.1 11 ≤ 999 := hT.1 11
            have v13 : 0 ≤ τ25.1 13 ∧ τ25.1 13 ≤ 1500 := hT.1 13
            have v15 : 0 ≤ τ25.1 15 ∧ τ25.1 15 ≤ 50 := hT.1 15
            have v16 : 0 ≤ τ25.1 16 ∧ τ25.1 16 ≤ 60000 := hT.1 16
            have v17 : 0 ≤ τ25.1 17 ∧ τ25.1 17 ≤ 60000 := hT.1 17
            have v18 : 0 ≤ τ25.1 18 ∧ τ25.1 18 ≤ 60000 := hT.1 18
            have v19 : (-1) ≤ τ25.1 19 ∧ τ25.1 19 ≤ 125 := hT.1 19
            have v20 : 0 ≤ τ25.1 20 ∧ τ25.1 20 ≤ 19 := hT.1 20
            have v22 : 0 ≤ τ25.1 22 ∧ τ25.1 22 ≤ 1499 := hT.1 22
            have a14_5 : 0 ≤ τ25.2.1 14 (τ25.1 5) ∧ τ25.2.1 14 (τ25.1 5) ≤ 30000 := hT.2 14 _
            have a14_22 : 0 ≤ τ25.2.1 14 (τ25.1 22) ∧ τ25.2.1 14 (τ25.1 22) ≤ 30000 := hT.2 14 _
            have a15_5 : 0 ≤ τ25.2.1 15 (τ25.1 5) ∧ τ25.2.1 15 (τ25.1 5) ≤ 300 := hT.2 15 _
            have a15_22 : 0 ≤ τ25.2.1 15 (τ25.1 22) ∧ τ25.2.1 15 (τ25.1 22) ≤ 300 := hT.2 15 _
            have a18_22 : 0 ≤ τ25.2.1 18 (τ25.1 22) ∧ τ25.2.1 18 (τ25.1 22) ≤ 90000 := hT.2 18 _
            have a19_22 : 0 ≤ τ25.2.1 19 (τ25.1 22) ∧ τ25.2.1 19 (τ25.1 22) ≤ 60 := hT.2 19 _
            have a21_22 : 0 ≤ τ25.2.1 21 (τ25.1 22) ∧ τ25.2.1 21 (τ25.1 22) ≤ 20000 := hT.2 21 _
            have a22_22 : 0 ≤ τ25.2.1 22 (τ25.1 22) ∧ τ25.2.1 22 (τ25.1 22) ≤ 20000 := hT.2 22 _
            have a25_22 : 0 ≤ τ25.2.1 25 (τ25.1 22) ∧ τ25.2.1 25 (τ25.1 22) ≤ 20000 := hT.2 25 _
            have a26_22 : 0 ≤ τ25.2.1 26 (τ25.1 22) ∧ τ25.2.1 26 (τ25.1 22) ≤ 20000 := hT.2 26 _
            have av5 : σ.1 5 ≤ τ25.1 5 := ag.1 5 (by decide)
            have av6 : σ.1 6 ≤ τ25.1 6 := ag.1 6 (by decide)
            have av7 : σ.1 7 ≤ τ25.1 7 := ag.1 7 (by decide)
            have av8 : σ.1 8 ≤ τ25.1 8 := ag.1 8 (by decide)
            have av9 : σ.1 9 ≤ τ25.1 9 := ag.1 9 (by decide)
            have g22 : m_ag τ_15 τ22 := ag_t q16_8 q20_2 rfl
            have g25 : m_ag τ_15 τ25 := ag_r g22 hf_τ25 rfl rfl
            have kd25 : τ25.2.1 13 = st (τ_15.2.1 13) (τ_15.1 5) 1 := by (rw [g13_τ25, q20_3, g13_τ18, show τ18.1 22 = τ_15.1 5 from by omega])
            have nN25 : n_N (τ25.2.1 14 (τ_15.1 5)) (τ25.2.1 14 (τ_15.1 5) + τ25.2.1 15 (τ_15.1 5)) (τ_15.1 3) (τ_15.2.1 8) (τ_15.2.1 11) (τ25.2.1 12) (τ25.2.1 16) (τ25.2.1 17) := by (have w := q16_9 (by omega); rw [show τ18.1 22 = τ_15.1 5 from by omega, ← g14_τ22, ← g15_τ22, ← g12_τ22, ← g16_τ22, ← g17_τ22, ← g14_τ25, ← g15_τ25, ← g12_τ25, ← g16_τ25, ← g17_τ25] at w; exact w)
            have g14s : τ25.2.1 14 = τ_15.2.1 14 := by rw [g14_τ25, g14_τ22, g14_τ18]
            have g8s : τ25.2.1 8 = τ_15.2.1 8 := by rw [g8_τ25, g8_τ22, g8_τ18]
            have j25 : n_J1 (τ_15.1 5) τ25 := n_J1_e J15 M15 S15 hT15 hT g25 rfl (by omega) (by (rw [g14s, show τ_15.1 5 = τ_15.1 22 from by omega]; omega)) nN25 (by omega) g8s kd25 g14s (fun z => by exfalso; omega) (fun z => by exfalso; omega)
            have hT18 : True := trivial
            have S18 : n_S τ18 := n_S_ag S15 J15 M15 hT15 q16_8 (by omega) g31_τ18 (fun s _ _ => by rw [g11_τ18]) (fun s a b => by omega)
            have s25 : n_S τ25 := n_S_e S18 (by omega) (by omega) (by omega) (by (rw [kd25, g13_τ18, show τ18.1 5 = τ_15.1 5 from by omega])) (by rw [g14_τ25, g14_τ22]) (by rw [g16_τ25, g16_τ22]) (by rw [g11_τ25, g11_τ22]) (by (rw [q23_2, g31_τ22, show τ22.1 13 = τ18.1 13 from by omega, show τ22.1 22 = τ18.1 5 from by omega]))
            have rl25 : n_rl τ_15 τ25 := n_rl_r (n_rl_r q16_10 hf_τ22 rfl rfl) hf_τ25 rfl rfl
            have sv25 : j_eq (τ_15.1 9) (τ_15.2.1 28) (τ25.2.1 28) := by (rw [g28_τ25, g28_τ22, g28_τ18]; exact j_eq0 _ _)
            have J25 : n_J τ25 := n_J_n J15 M15 g25 rl25 sv25 hT15 j25 (by omega)
            have hk25 : n_hk τ_15 τ25 := n_hk_a (x := τ22.1 22) (by omega) (by omega) (by (rw [q23_2, g31_τ22, g31_τ18, show τ22.1 13 = τ_15.1 13 from by omega])) (by rw [g35_τ25, g35_τ22, g35_τ18])
            exact ⟨hT, (show (τ25.1 16) ≤ (τ25.1 0) from by (first | omega | (simp only [st_s] <;> omega) | assumption | omega | fail)), (show (τ25.1 17) + (τ25.1 18) ≤ (τ25.1 0) from by (first | omega | (simp only [st_s] <;> omega) | assumption | omega | fail)), (show ¬ (σ.1 20) = 0 → (τ25.1 20) = (σ.1 20) from by (first | omega | (simp only [st_s] <;> omega) | assumption | omega | fail)), (show ca (τ25.2.1 12) ((τ25.1 3)) ≤ (τ25.1 4) from Y20), (show J_pa (τ25.2.1 21) (τ25.2.1 22) from PA), (show (τ25.1 13) ≤ (τ25.1 5) from by (first | omega | (simp only [st_s] <;> omega) | assumption | omega | fail)), (show oc (τ25.2.1 7) ≤ (σ.1 5) + 1 from by (first | omega | (simp only [st_s] <;> omega) | assumption | omega | fail)), (show (τ25.1 5) ≤ (σ.1 5) + 1 from by (first | omega | (simp only [st_s] <;> omega) | assumption | omega | fail)), (show (τ25.1 20) = 0 → (τ25.1 7) ≤ 60 * (τ25.1 5) from by (first | omega | (simp only [st_s] <;> omega) | assumption | omega | fail)), (show (τ25.1 20) = 0 → (τ25.1 5) = (σ.1 5) + 1 from by (first | omega | (simp only [st_s] <;> omega) | assumption | omega | fail)), (show j_eq ((σ.1 9)) (σ.2.1 28) (τ25.2.1 28) from Y8), (show (τ25.1 20) = 0 → m_J σ → m_J τ25 from by (first | (intro hf; exfalso; omega) | (intro hf hJ; have e5 : σ.1 5 = τ25.1 22 := (by omega); exact m_J_e hJ ag hT0 Y8 (by omega) (by rw [e5] <;> omega) (by rw [e5] <;> omega) (by rw [e5] <;> omega) (by rw [e5] <;> omega) (by rw [e5] <;> omega) (by rw [e5] <;> omega) (by rw [e5] <;> omega) (by rw [e5] <;> omega) (by rw [e5] <;> omega) (by omega) (by rw [e5]; exact Y14)) | (intro hf hJ; have e5 : σ.1 5 = τ28.1 22 := (by omega); exact m_J_e hJ ag hT0 Y8 (by omega) (by rw [e5] <;> omega) (by rw [e5] <;> omega) (by rw [e5] <;> omega) (by rw [e5] <;> omega) (by rw [e5] <;> omega) (by rw [e5] <;> omega) (by rw [e5] <;> omega) (by rw [e5] <;> omega) (by rw [e5] <;> omega) (by omega) (by rw [e5]; exact Y14)) | (intro hf hJ; have e5 : σ.1 5 = τ32.1 22 := (by omega); exact m_J_e hJ ag hT0 Y8 (by omega) (by rw [e5] <;> omega) (by rw [e5] <;> omega) (by rw [e5] <;> omega) (by rw [e5] <;> omega) (by rw [e5] <;> omega) (by rw [e5] <;> omega) (by rw [e5] <;> omega) (by rw [e5] <;> omega) (by rw [e5] <;> omega) (by omega) (by rw [e5]; exact Y14)) | fail)), (show (σ.1 16) ≤ (τ25.1 16) from by (first | omega | (simp only [st_s] <;> omega) | assumption | omega | fail)), ag, (show (τ25.1 20) = 0 → n_J τ25 ∧ n_S τ25 from by (first | (intro z; exfalso; omega) | exact fun _ => ⟨J25, s25⟩ | exact J28 | exact J32 | fail)), (show n_rl σ τ25 from by (first | exact n_rl_t rl15 rl25 | exact n_rl_t rl15 q26_12 | exact n_rl_t rl15 q30_18 | exact n_rl_t rl15 q16_10 | exact n_rl_r rl15 hf_τ15 rfl rfl | exact n_rl_g (by omega) (by omega) (by omega) i15_14 i15_15 | fail)), (show n_hk σ τ25 from by (first | exact n_hk_t hk15 hk25 | exact n_hk_t hk15 q26_13 | exact n_hk_r hk15 hf_τ32 rfl rfl | exact n_hk_r hk15 hf_τ18 rfl rfl | exact n_hk_r hk15 hf_τ15 rfl rfl | exact n_hk_g (by omega) (by omega) i15_17 G35 | fail)), (show n_rc σ τ25 from by (first | exact n_rc_r (n_rc_r (n_rc_r rc15 hf_τ18 rfl rfl) hf_τ22 rfl rfl) hf_τ25 rfl rfl | exact n_rc_r rc15 hf_τ28 rfl rfl | exact n_rc_r rc15 hf_τ32 rfl rfl | exact n_rc_r rc15 hf_τ18 rfl rfl | exact n_rc_r rc15 hf_τ15 rfl rfl | exact i15_18 | fail))⟩
      ·
        have w3 := i15_8 (by omega)
        have w4 := i15_9 (by omega)
        obtain ⟨n1, n2, n3, n4, n5, n6⟩ := w3
        obtain ⟨n7, n8, n9, n10⟩ := w4
        have Z1 : τ_15.2.1 14 (τ_15.1 22) + τ_15.2.1 15 (τ_15.1 22) = τ_15.1 6 := by omega
        have Z2 : τ_15.2.1 18 (τ_15.1 22) + τ_15.2.1 19 (τ_15.1 22) = τ_15.1 7 := by omega
        have Z3 : τ_15.2.1 21 (τ_15.1 22) + τ_15.2.1 22 (τ_15.1 22) = τ_15.1 8 := by omega
        have Z4 : τ_15.2.1 25 (τ_15.1 22) + τ_15.2.1 26 (τ_15.1 22) = τ_15.1 9 := by omega
        have Y14 : ca (τ_15.2.1 28) (τ_15.1 9) ≤ ca (τ_15.2.1 28) (τ_15.2.1 25 (τ_15.1 22)) + 300 := by rw [show τ_15.2.1 25 (τ_15.1 22) = τ_15.1 9 from by omega]; omega
        have hT15 := hT
        have ag15 := ag
        have G28_15 := i15_12
        have rl15 : n_rl σ τ_15 := n_rl_g (by omega) (by omega) (by omega) i15_14 i15_15
        have rc15 := i15_18
        have S15 : n_S τ_15 := n_S_ag p12 p13 p14 hT0 ag15 (by omega) i15_17 (fun s _ _ => by rw [i15_16]) (fun s a b => by omega)
        have J15 : n_J τ_15 := by (have w := n_J_ag p13 p14 ag15 rl15 i15_12 hT0; rw [show σ.1 5 = τ_15.1 5 from by omega] at w; exact w)
        have M15 : m_J τ_15 := m_J_x p14 ag15 i15_12 hT0 (by omega)
        have hk15 : n_hk σ τ_15 := n_hk_g (by omega) (by omega) i15_17 G35
        refine ⟨_, K3_X13_readFloating hT (show (τ_15.1 16) ≤ (τ_15.1 0) from by (first | omega | (simp only [st_s] <;> omega) | assumption | omega | fail)) (show (τ_15.1 17) + (τ_15.1 18) ≤ (τ_15.1 0) from by (first | omega | (simp only [st_s] <;> omega) | assumption | omega | fail)) (show oc (τ_15.2.1 6) < 4096 from by (first | omega | (simp only [st_s] <;> omega) | assumption | omega | fail)) (show oc (τ_15.2.1 7) < 4096 from by (first | omega | (simp only [st_s] <;> omega) | assumption | omega | fail)) (show τ_15.2.1 15 (τ_15.1 22) = 0 from by (first | omega | (simp only [st_s] <;> omega) | assumption | omega | fail)) (show (τ_15.1 22) = (τ_15.1 5) from by (first | omega | (simp only [st_s] <;> omega) | assumption | omega | fail)) (show τ_15.2.1 14 (τ_15.1 22) + τ_15.2.1 15 (τ_15.1 22) = (τ_15.1 6) from Z1) (show ca (τ_15.2.1 12) ((τ_15.1 3)) ≤ (τ_15.1 4) from Y20) (show (τ_15.1 5) < 1500 from by (first | omega | (simp only [st_s] <;> omega) | assumption | omega | fail)) (show (τ_15.1 13) ≤ (τ_15.1 5) from by (first | omega | (simp only [st_s] <;> omega) | assumption | omega | fail)) (show j_l2 (τ_15.2.1 6) (τ_15.1 3) from Y1) (show n_S τ_15 from by exact S15) (show n_J τ_15 from by exact J15) (show m_J τ_15 from by exact M15), ?_⟩
        intro τ28 hn_τ28 hf_τ28 hq
        obtain ⟨hT, q26_1, q26_2, q26_3, q26_4, q26_5, q26_6, q26_7, q26_8, q26_9, q26_10, q26_11, q26_12, q26_13⟩ := hq
        replace q26_1 : (τ28.1 16) ≤ (τ28.1 0) := q26_1
        replace q26_2 : (τ28.1 17) + (τ28.1 18) ≤ (τ28.1 0) := q26_2
        replace q26_3 : ¬ (τ_15.1 20) = 0 → (τ28.1 20) = (τ_15.1 20) := q26_3
        replace q26_4 : τ28.2.1 14 (τ28.1 22) + τ28.2.1 15 (τ28.1 22) = (τ28.1 6) := q26_4
        replace q26_5 : ca (τ28.2.1 12) ((τ28.1 3)) ≤ (τ28.1 4) := q26_5
        replace q26_6 : (τ28.1 13) ≤ (τ28.1 5) := q26_6
        replace q26_7 : (τ28.1 20) = 0 → (τ28.1 5) = (τ_15.1 5) + 1 ∧ 2 ≤ τ28.2.1 15 (τ28.1 22) := q26_7
        replace q26_8 : (τ28.1 5) ≤ (τ_15.1 5) + 1 := q26_8
        replace q26_9 : (τ_15.1 16) ≤ (τ28.1 16) := q26_9
        replace q26_10 : m_ag τ_15 τ28 := q26_10
        replace q26_11 : (τ28.1 20) = 0 → n_J1 (τ_15.1 5) τ28 ∧ n_S τ28 := q26_11
        replace q26_12 : n_rl τ_15 τ28 := q26_12
        replace q26_13 : n_hk τ_15 τ28 := q26_13
        replace ag : m_ag σ τ28 := ag_t ag q26_10 rfl
        have w0_τ28 : τ28.1 0 = τ_15.1 0 := hf_τ28.1 0 (by decide)
        have w2_τ28 : τ28.1 2 = τ_15.1 2 := hf_τ28.1 2 (by decide)
        have w3_τ28 : τ28.1 3 = τ_15.1 3 := hf_τ28.1 3 (by decide)
        have w7_τ28 : τ28.1 7 = τ_15.1 7 := hf_τ28.1 7 (by decide)
        have w8_τ28 : τ28.1 8 = τ_15.1 8 := hf_τ28.1 8 (by decide)
        have w9_τ28 : τ28.1 9 = τ_15.1 9 := hf_τ28.1 9 (by decide)
        have w10_τ28 : τ28.1 10 = τ_15.1 10 := hf_τ28.1 10 (by decide)
        have w11_τ28 : τ28.1 11 = τ_15.1 11 := hf_τ28.1 11 (by decide)
        have w15_τ28 : τ28.1 15 = τ_15.1 15 := hf_τ28.1 15 (by decide)
        have w22_τ28 : τ28.1 22 = τ_15.1 22 := hf_τ28.1 22 (by decide)
        have g1_τ28 : τ28.2.1 1 = τ_15.2.1 1 := hf_τ28.2.1 1 (by decide)
        have g6_τ28 : τ28.2.1 6 = τ_15.2.1 6 := hf_τ28.2.1 6 (by decide)
        have g7_τ28 : τ28.2.1 7 = τ_15.2.1 7 := hf_τ28.2.1 7 (by decide)
        have g8_τ28 : τ28.2.1 8 = τ_15.2.1 8 := hf_τ28.2.1 8 (by decide)
        have g14_τ28 : τ28.2.1 14 = τ_15.2.1 14 := hf_τ28.2.1 14 (by decide)
        have g18_τ28 : τ28.2.1 18 = τ_15.2.1 18 := hf_τ28.2.1 18 (by decide)
        have g19_τ28 : τ28.2.1 19 = τ_15.2.1 19 := hf_τ28.2.1 19 (by decide)
        have g20_τ28 : τ28.2.1 20 = τ_15.2.1 20 := hf_τ28.2.1 20 (by decide)
        have g21_τ28 : τ28.2.1 21 = τ_15.2.1 21 := hf_τ28.2.1 21 (by decide)
        have g22_τ28 : τ28.2.1 22 = τ_15.2.1 22 := hf_τ28.2.1 22 (by decide)
        have g25_τ28 : τ28.2.1 25 = τ_15.2.1 25 := hf_τ28.2.1 25 (by decide)
        have g26_τ28 : τ28.2.1 26 = τ_15.2.1 26 := hf_τ28.2.1 26 (by decide)
        have g27_τ28 : τ28.2.1 27 = τ_15.2.1 27 := hf_τ28.2.1 27 (by decide)
        have g28_τ28 : τ28.2.1 28 = τ_15.2.1 28 := hf_τ28.2.1 28 (by decide)
        have g35_τ28 : τ28.2.1 35 = τ_15.2.1 35 := hf_τ28.2.1 35 (by decide)
        first | (have o6_τ28 := congrArg oc g6_τ28) | skip
        first | (have o7_τ28 := congrArg oc g7_τ28) | skip
        have W0 : τ28.1 0 = σ.1 0 := by first | exact w0_τ28.trans W0 | omega
        have W3 : τ28.1 3 = σ.1 3 := by first | exact w3_τ28.trans W3 | omega
        have W10 : τ28.1 10 = σ.1 10 := by first | exact w10_τ28.trans W10 | omega
        have W11 : τ28.1 11 = σ.1 11 := by first | exact w11_τ28.trans W11 | omega
        have W15 : τ28.1 15 = σ.1 15 := by first | exact w15_τ28.trans W15 | omega
        have G6 : τ28.2.1 6 = σ.2.1 6 := (g6_τ28).trans G6
        have G8 : τ28.2.1 8 = σ.2.1 8 := (g8_τ28).trans G8
        have G35 : τ28.2.1 35 = σ.2.1 35 := (g35_τ28).trans G35
        have y14_22_τ28 : τ28.2.1 14 (τ28.1 22) = (τ_15.2.1 14) (τ_15.1 22) := by rw [g14_τ28, w22_τ28]
        have y18_22_τ28 : τ28.2.1 18 (τ28.1 22) = (τ_15.2.1 18) (τ_15.1 22) := by rw [g18_τ28, w22_τ28]
        have y19_22_τ28 : τ28.2.1 19 (τ28.1 22) = (τ_15.2.1 19) (τ_15.1 22) := by rw [g19_τ28, w22_τ28]
        have y21_22_τ28 : τ28.2.1 21 (τ28.1 22) = (τ_15.2.1 21) (τ_15.1 22) := by rw [g21_τ28, w22_τ28]
        have y22_22_τ28 : τ28.2.1 22 (τ28.1 22) = (τ_15.2.1 22) (τ_15.1 22) := by rw [g22_τ28, w22_τ28]
        have y25_22_τ28 : τ28.2.1 25 (τ28.1 22) = (τ_15.2.1 25) (τ_15.1 22) := by rw [g25_τ28, w22_τ28]
        have y26_22_τ28 : τ28.2.1 26 (τ28.1 22) = (τ_15.2.1 26) (τ_15.1 22) := by rw [g26_τ28, w22_τ28]
        have Z1 : τ28.2.1 14 (τ28.1 22) + τ28.2.1 15 (τ28.1 22) = (τ28.1 6) := q26_4
        have Z2 : τ28.2.1 18 (τ28.1 22) + τ28.2.1 19 (τ28.1 22) = (τ28.1 7) := by rw [show (τ28.2.1 18 (τ28.1 22) + τ28.2.1 19 (τ28.1 22) = (τ28.1 7)) = (τ_15.2.1 18 (τ_15.1 22) + τ_15.2.1 19 (τ_15.1 22) = (τ_15.1 7)) from by rw [w7_τ28, w22_τ28, g18_τ28, g19_τ28]]; exact Z2
        have Z3 : τ28.2.1 21 (τ28.1 22) + τ28.2.1 22 (τ28.1 22) = (τ28.1 8) := by rw [show (τ28.2.1 21 (τ28.1 22) + τ28.2.1 22 (τ28.1 22) = (τ28.1 8)) = (τ_15.2.1 21 (τ_15.1 22) + τ_15.2.1 22 (τ_15.1 22) = (τ_15.1 8)) from by rw [w8_τ28, w22_τ28, g21_τ28, g22_τ28]]; exact Z3
        have Z4 : τ28.2.1 25 (τ28.1 22) + τ28.2.1 26 (τ28.1 22) = (τ28.1 9) := by rw [show (τ28.2.1 25 (τ28.1 22) + τ28.2.1 26 (τ28.1 22) = (τ28.1 9)) = (τ_15.2.1 25 (τ_15.1 22) + τ_15.2.1 26 (τ_15.1 22) = (τ_15.1 9)) from by rw [w9_τ28, w22_τ28, g25_τ28, g26_τ28]]; exact Z4
        have Y20 : ca (τ28.2.1 12) ((τ28.1 3)) ≤ (τ28.1 4) := q26_5
        have Y8 : j_eq ((σ.1 9)) (σ.2.1 28) (τ28.2.1 28) := by rw [show (j_eq ((σ.1 9)) (σ.2.1 28) (τ28.2.1 28)) = (j_eq ((σ.1 9)) (σ.2.1 28) (τ_15.2.1 28)) from by rw [g28_τ28]]; exact Y8
        have Y1 : j_l2 (τ28.2.1 6) (τ28.1 3) := by rw [show (j_l2 (τ28.2.1 6) (τ28.1 3)) = (j_l2 (τ_15.2.1 6) (τ_15.1 3)) from by rw [w3_τ28, g6_τ28]]; exact Y1
        have Y14 : ca (τ28.2.1 28) ((τ28.1 9)) ≤ ca (τ28.2.1 28) (τ28.2.1 25 (τ28.1 22)) + 300 := by rw [show (ca (τ28.2.1 28) ((τ28.1 9)) ≤ ca (τ28.2.1 28) (τ28.2.1 25 (τ28.1 22)) + 300) = (ca (τ_15.2.1 28) ((τ_15.1 9)) ≤ ca (τ_15.2.1 28) (τ_15.2.1 25 (τ_15.1 22)) + 300) from by rw [w9_τ28, w22_τ28, g25_τ28, g28_τ28]]; exact Y14
        have PA : J_pa (τ28.2.1 21) (τ28.2.1 22) := by rw [show (J_pa (τ28.2.1 21) (τ28.2.1 22)) = (J_pa (τ_15.2.1 21) (τ_15.2.1 22)) from by rw [g21_τ28, g22_τ28]]; exact PA
        have SYt : oc (τ28.2.1 6) ≤ (τ28.1 3) := by rw [show (oc (τ28.2.1 6) ≤ (τ28.1 3)) = (oc (τ_15.2.1 6) ≤ (τ_15.1 3)) from by rw [w3_τ28, g6_τ28]]; exact SYt
        have STt : j_l2 (τ28.2.1 6) (τ28.1 3) := by rw [show (j_l2 (τ28.2.1 6) (τ28.1 3)) = (j_l2 (τ_15.2.1 6) (τ_15.1 3)) from by rw [w3_τ28, g6_τ28]]; exact STt
        have A1 : ∀ j, 0 ≤ τ28.2.1 1 j ∧ τ28.2.1 1 j ≤ 255 := fun j => hT.2 1 j
        have A6 : ∀ j, (-1) ≤ τ28.2.1 6 j ∧ τ28.2.1 6 j ≤ 999 := fun j => hT.2 6 j
        have A7 : ∀ j, (-1) ≤ τ28.2.1 7 j ∧ τ28.2.1 7 j ≤ 1499 := fun j => hT.2 7 j
        have A8 : ∀ j, 0 ≤ τ28.2.1 8 j ∧ τ28.2.1 8 j ≤ 1 := fun j => hT.2 8 j
        have A10 : ∀ j, (-1) ≤ τ28.2.1 10 j ∧ τ28.2.1 10 j ≤ 999 := fun j => hT.2 10 j
        have A11 : ∀ j, (-1) ≤ τ28.2.1 11 j ∧ τ28.2.1 11 j ≤ 1499 := fun j => hT.2 11 j
        have A12 : ∀ j, 0 ≤ τ28.2.1 12 j ∧ τ28.2.1 12 j ≤ 1 := fun j => hT.2 12 j
        have A13 : ∀ j, 0 ≤ τ28.2.1 13 j ∧ τ28.2.1 13 j ≤ 4 := fun j => hT.2 13 j
        have A14 : ∀ j, 0 ≤ τ28.2.1 14 j ∧ τ28.2.1 14 j ≤ 30000 := fun j => hT.2 14 j
        have A15 : ∀ j, 0 ≤ τ28.2.1 15 j ∧ τ28.2.1 15 j ≤ 300 := fun j => hT.2 15 j
        have A16 : ∀ j, 0 ≤ τ28.2.1 16 j ∧ τ28.2.1 16 j ≤ 999 := fun j => hT.2 16 j
        have A17 : ∀ j, (-1) ≤ τ28.2.1 17 j ∧ τ28.2.1 17 j ≤ 1499 := fun j => hT.2 17 j
        have A18 : ∀ j, 0 ≤ τ28.2.1 18 j ∧ τ28.2.1 18 j ≤ 90000 := fun j => hT.2 18 j
        have A19 : ∀ j, 0 ≤ τ28.2.1 19 j ∧ τ28.2.1 19 j ≤ 60 := fun j => hT.2 19 j
        have A20 : ∀ j, 0 ≤ τ28.2.1 20 j ∧ τ28.2.1 20 j ≤ 1499 := fun j => hT.2 20 j
        have A21 : ∀ j, 0 ≤ τ28.2.1 21 j ∧ τ28.2.1 21 j ≤ 20000 := fun j => hT.2 21 j
        have A22 : ∀ j, 0 ≤ τ28.2.1 22 j ∧ τ28.2.1 22 j ≤ 20000 := fun j => hT.2 22 j
        have A25 : ∀ j, 0 ≤ τ28.2.1 25 j ∧ τ28.2.1 25 j ≤ 20000 := fun j => hT.2 25 j
        have A26 : ∀ j, 0 ≤ τ28.2.1 26 j ∧ τ28.2.1 26 j ≤ 20000 := fun j => hT.2 26 j
        have A27 : ∀ j, (-300) ≤ τ28.2.1 27 j ∧ τ28.2.1 27 j ≤ 1499 := fun j => hT.2 27 j
        have A28 : ∀ j, 0 ≤ τ28.2.1 28 j ∧ τ28.2.1 28 j ≤ 1 := fun j => hT.2 28 j
        have A31 : ∀ j, 0 ≤ τ28.2.1 31 j ∧ τ28.2.1 31 j ≤ 1499 := fun j => hT.2 31 j
        have A35 : ∀ j, 0 ≤ τ28.2.1 35 j ∧ τ28.2.1 35 j ≤ 1500 := fun j => hT.2 35 j
        have v0 : 0 ≤ τ28.1 0 ∧ τ28.1 0 ≤ 60000 := hT.1 0
        have v2 : 0 ≤ τ28.1 2 ∧ τ28.1 2 ≤ 30000 := hT.1 2
        have v3 : 0 ≤ τ28.1 3 ∧ τ28.1 3 ≤ 1000 := hT.1 3
        have v4 : 0 ≤ τ28.1 4 ∧ τ28.1 4 ≤ 100 := hT.1 4
        have v5 : 0 ≤ τ28.1 5 ∧ τ28.1 5 ≤ 1500 := hT.1 5
        have v6 : 0 ≤ τ28.1 6 ∧ τ28.1 6 ≤ 30000 := hT.1 6
        have v7 : 0 ≤ τ28.1 7 ∧ τ28.1 7 ≤ 90000 := hT.1 7
        have v8 : 0 ≤ τ28.1 8 ∧ τ28.1 8 ≤ 20000 := hT.1 8
        have v9 : 0 ≤ τ28.1 9 ∧ τ28.1 9 ≤ 20000 := hT.1 9
        have v10 : (-1) ≤ τ28.1 10 ∧ τ28.1 10 ≤ 999 := hT.1 10
        have v11 : (-1) ≤ τ28.1 11 ∧ τ28.1 11 ≤ 999 := hT.1 11
        have v13 : 0 ≤ τ28.1 13 ∧ τ28.1 13 ≤ 1500 := hT.1 13
        have v15 : 0 ≤ τ28.1 15 ∧ τ28.1 15 ≤ 50 := hT.1 15
        have v16 : 0 ≤ τ28.1 16 ∧ τ28.1 16 ≤ 60000 := hT.1 16
        have v17 : 0 ≤ τ28.1 17 ∧ τ28.1 17 ≤ 60000 := hT.1 17
        have v18 : 0 ≤ τ28.1 18 ∧ τ28.1 18 ≤ 60000 := hT.1 18
        have v19 : (-1) ≤ τ28.1 19 ∧ τ28.1 19 ≤ 125 := hT.1 19
        have v20 : 0 ≤ τ28.1 20 ∧ τ28.1 20 ≤ 19 := hT.1 20
        have v22 : 0 ≤ τ28.1 22 ∧ τ28.1 22 ≤ 1499 := hT.1 22
        have a14_5 : 0 ≤ τ28.2.1 14 (τ28.1 5) ∧ τ28.2.1 14 (τ28.1 5) ≤ 30000 := hT.2 14 _
        have a14_22 : 0 ≤ τ28.2.1 14 (τ28.1 22) ∧ τ28.2.1 14 (τ28.1 22) ≤ 30000 := hT.2 14 _
        have a15_5 : 0 ≤ τ28.2.1 15 (τ28.1 5) ∧ τ28.2.1 15 (τ28.1 5) ≤ 300 := hT.2 15 _
        have a15_22 : 0 ≤ τ28.2.1 15 (τ28.1 22) ∧ τ28.2.1 15 (τ28.1 22) ≤ 300 := hT.2 15 _
        have a18_22 : 0 ≤ τ28.2.1 18 (τ28.1 22) ∧ τ28.2.1 18 (τ28.1 22) ≤ 90000 := hT.2 18 _
        have a19_22 : 0 ≤ τ28.2.1 19 (τ28.1 22) ∧ τ28.2.1 19 (τ28.1 22) ≤ 60 := hT.2 19 _
        have a21_22 : 0 ≤ τ28.2.1 21 (τ28.1 22) ∧ τ28.2.1 21 (τ28.1 22) ≤ 20000 := hT.2 21 _
        have a22_22 : 0 ≤ τ28.2.1 22 (τ28.1 22) ∧ τ28.2.1 22 (τ28.1 22) ≤ 20000 := hT.2 22 _
        have a25_22 : 0 ≤ τ28.2.1 25 (τ28.1 22) ∧ τ28.2.1 25 (τ28.1 22) ≤ 20000 := hT.2 25 _
        have a26_22 : 0 ≤ τ28.2.1 26 (τ28.1 22) ∧ τ28.2.1 26 (τ28.1 22) ≤ 20000 := hT.2 26 _
        have av5 : σ.1 5 ≤ τ28.1 5 := ag.1 5 (by decide)
        have av6 : σ.1 6 ≤ τ28.1 6 := ag.1 6 (by decide)
        have av7 : σ.1 7 ≤ τ28.1 7 := ag.1 7 (by decide)
        have av8 : σ.1 8 ≤ τ28.1 8 := ag.1 8 (by decide)
        have av9 : σ.1 9 ≤ τ28.1 9 := ag.1 9 (by decide)
        have J28 : τ28.1 20 = 0 → n_J τ28 ∧ n_S τ28 := fun z => ⟨n_J_n J15 M15 q26_10 q26_12 (by (rw [g28_τ28]; exact j_eq0 _ _)) hT15 (q26_11 z).1 (q26_7 z).1, (q26_11 z).2⟩
        exact ⟨hT, (show (τ28.1 16) ≤ (τ28.1 0) from by (first | omega | (simp only [st_s] <;> omega) | assumption | omega | fail)), (show (τ28.1 17) + (τ28.1 18) ≤ (τ28.1 0) from by (first | omega | (simp only [st_s] <;> omega) | assumption | omega | fail)), (show ¬ (σ.1 20) = 0 → (τ28.1 20) = (σ.1 20) from by (first | omega | (simp only [st_s] <;> omega) | assumption | omega | fail)), (show ca (τ28.2.1 12) ((τ28.1 3)) ≤ (τ28.1 4) from Y20), (show J_pa (τ28.2.1 21) (τ28.2.1 22) from PA), (show (τ28.1 13) ≤ (τ28.1 5) from by (first | omega | (simp only [st_s] <;> omega) | assumption | omega | fail)), (show oc (τ28.2.1 7) ≤ (σ.1 5) + 1 from by (first | omega | (simp only [st_s] <;> omega) | assumption | omega | fail)), (show (τ28.1 5) ≤ (σ.1 5) + 1 from by (first | omega | (simp only [st_s] <;> omega) | assumption | omega | fail)), (show (τ28.1 20) = 0 → (τ28.1 7) ≤ 60 * (τ28.1 5) from by (first | omega | (simp only [st_s] <;> omega) | assumption | omega | fail)), (show (τ28.1 20) = 0 → (τ28.1 5) = (σ.1 5) + 1 from by (first | omega | (simp only [st_s] <;> omega) | assumption | omega | fail)), (show j_eq ((σ.1 9)) (σ.2.1 28) (τ28.2.1 28) from Y8), (show (τ28.1 20) = 0 → m_J σ → m_J τ28 from by (first | (intro hf; exfalso; omega) | (intro hf hJ; have e5 : σ.1 5 = τ25.1 22 := (by omega); exact m_J_e hJ ag hT0 Y8 (by omega) (by rw [e5] <;> omega) (by rw [e5] <;> omega) (by rw [e5] <;> omega) (by rw [e5] <;> omega) (by rw [e5] <;> omega) (by rw [e5] <;> omega) (by rw [e5] <;> omega) (by rw [e5] <;> omega) (by rw [e5] <;> omega) (by omega) (by rw [e5]; exact Y14)) | (intro hf hJ; have e5 : σ.1 5 = τ28.1 22 := (by omega); exact m_J_e hJ ag hT0 Y8 (by omega) (by rw [e5] <;> omega) (by rw [e5] <;> omega) (by rw [e5] <;> omega) (by rw [e5] <;> omega) (by rw [e5] <;> omega) (by rw [e5] <;> omega) (by rw [e5] <;> omega) (by rw [e5] <;> omega) (by rw [e5] <;> omega) (by omega) (by rw [e5]; exact Y14)) | (intro hf hJ; have e5 : σ.1 5 = τ32.1 22 := (by omega); exact m_J_e hJ ag hT0 Y8 (by omega) (by rw [e5] <;> omega) (by rw [e5] <;> omega) (by rw [e5] <;> omega) (by rw [e5] <;> omega) (by rw [e5] <;> omega) (by rw [e5] <;> omega) (by rw [e5] <;> omega) (by rw [e5] <;> omega) (by rw [e5] <;> omega) (by omega) (by rw [e5]; exact Y14)) | fail)), (show (σ.1 16) ≤ (τ28.1 16) from by (first | omega | (simp only [st_s] <;> omega) | assumption | omega | fail)), ag, (show (τ28.1 20) = 0 → n_J τ28 ∧ n_S τ28 from by (first | (intro z; exfalso; omega) | exact fun _ => ⟨J25, s25⟩ | exact J28 | exact J32 | fail)), (show n_rl σ τ28 from by (first | exact n_rl_t rl15 rl25 | exact n_rl_t rl15 q26_12 | exact n_rl_t rl15 q30_18 | exact n_rl_t rl15 q16_10 | exact n_rl_r rl15 hf_τ15 rfl rfl | exact n_rl_g (by omega) (by omega) (by omega) i15_14 i15_15 | fail)), (show n_hk σ τ28 from by (first | exact n_hk_t hk15 hk25 | exact n_hk_t hk15 q26_13 | exact n_hk_r hk15 hf_τ32 rfl rfl | exact n_hk_r hk15 hf_τ18 rfl rfl | exact n_hk_r hk15 hf_τ15 rfl rfl | exact n_hk_g (by omega) (by omega) i15_17 G35 | fail)), (show n_rc σ τ28 from by (first | exact n_rc_r (n_rc_r (n_rc_r rc15 hf_τ18 rfl rfl) hf_τ22 rfl rfl) hf_τ25 rfl rfl | exact n_rc_r rc15 hf_τ28 rfl rfl | exact n_rc_r rc15 hf_τ32 rfl rfl | exact n_rc_r rc15 hf_τ18 rfl rfl | exact n_rc_r rc15 hf_τ15 rfl rfl | exact i15_18 | fail))⟩
    ·
      exact ⟨hT, (show (τ_15.1 16) ≤ (τ_15.1 0) from by (first | omega | (simp only [st_s] <;> omega) | assumption | omega | fail)), (show (τ_15.1 17) + (τ_15.1 18) ≤ (τ_15.1 0) from by (first | omega | (simp only [st_s] <;> omega) | assumption | omega | fail)), (show ¬ (σ.1 20) = 0 → (τ_15.1 20) = (σ.1 20) from by (first | omega | (simp only [st_s] <;> omega) | assumption | omega | fail)), (show ca (τ_15.2.1 12) ((τ_15.1 3)) ≤ (τ_15.1 4) from Y20), (show J_pa (τ_15.2.1 21) (τ_15.2.1 22) from PA), (show (τ_15.1 13) ≤ (τ_15.1 5) from by (first | omega | (simp only [st_s] <;> omega) | assumption | omega | fail)), (show oc (τ_15.2.1 7) ≤ (σ.1 5) + 1 from by (first | omega | (simp only [st_s] <;> omega) | assumption | omega | fail)), (show (τ_15.1 5) ≤ (σ.1 5) + 1 from by (first | omega | (simp only [st_s] <;> omega) | assumption | omega | fail)), (show (τ_15.1 20) = 0 → (τ_15.1 7) ≤ 60 * (τ_15.1 5) from by (first | omega | (simp only [st_s] <;> omega) | assumption | omega | fail)), (show (τ_15.1 20) = 0 → (τ_15.1 5) = (σ.1 5) + 1 from by (first | omega | (simp only [st_s] <;> omega) | assumption | omega | fail)), (show j_eq ((σ.1 9)) (σ.2.1 28) (τ_15.2.1 28) from Y8), (show (τ_15.1 20) = 0 → m_J σ → m_J τ_15 from by (first | (intro hf; exfalso; omega) | (intro hf hJ; have e5 : σ.1 5 = τ25.1 22 := (by omega); exact m_J_e hJ ag hT0 Y8 (by omega) (by rw [e5] <;> omega) (by rw [e5] <;> omega) (by rw [e5] <;> omega) (by rw [e5] <;> omega) (by rw [e5] <;> omega) (by rw [e5] <;> omega) (by rw [e5] <;> omega) (by rw [e5] <;> omega) (by rw [e5] <;> omega) (by omega) (by rw [e5]; exact Y14)) | (intro hf hJ; have e5 : σ.1 5 = τ28.1 22 := (by omega); exact m_J_e hJ ag hT0 Y8 (by omega) (by rw [e5] <;> omega) (by rw [e5] <;> omega) (by rw [e5] <;> omega) (by rw [e5] <;> omega) (by rw [e5] <;> omega) (by rw [e5] <;> omega) (by rw [e5] <;> omega) (by rw [e5] <;> omega) (by rw [e5] <;> omega) (by omega) (by rw [e5]; exact Y14)) | (intro hf hJ; have e5 : σ.1 5 = τ32.1 22 := (by omega); exact m_J_e hJ ag hT0 Y8 (by omega) (by rw [e5] <;> omega) (by rw [e5] <;> omega) (by rw [e5] <;> omega) (by rw [e5] <;> omega) (by rw [e5] <;> omega) (by rw [e5] <;> omega) (by rw [e5] <;> omega) (by rw [e5] <;> omega) (by rw [e5] <;> omega) (by omega) (by rw [e5]; exact Y14)) | fail)), (show (σ.1 16) ≤ (τ_15.1 16) from by (first | omega | (simp only [st_s] <;> omega) | assumption | omega | fail)), ag, (show (τ_15.1 20) = 0 → n_J τ_15 ∧ n_S τ_15 from by (first | (intro z; exfalso; omega) | exact fun _ => ⟨J25, s25⟩ | exact J28 | exact J32 | fail)), (show n_rl σ τ_15 from by (first | exact n_rl_t rl15 rl25 | exact n_rl_t rl15 q26_12 | exact n_rl_t rl15 q30_18 | exact n_rl_t rl15 q16_10 | exact n_rl_r rl15 hf_τ15 rfl rfl | exact n_rl_g (by omega) (by omega) (by omega) i15_14 i15_15 | fail)), (show n_hk σ τ_15 from by (first | exact n_hk_t hk15 hk25 | exact n_hk_t hk15 q26_13 | exact n_hk_r hk15 hf_τ32 rfl rfl | exact n_hk_r hk15 hf_τ18 rfl rfl | exact n_hk_r hk15 hf_τ15 rfl rfl | exact n_hk_g (by omega) (by omega) i15_17 G35 | fail)), (show n_rc σ τ_15 from by (first | exact n_rc_r (n_rc_r (n_rc_r rc15 hf_τ18 rfl rfl) hf_τ22 rfl rfl) hf_τ25 rfl rfl | exact n_rc_r rc15 hf_τ28 rfl rfl | exact n_rc_r rc15 hf_τ32 rfl rfl | exact n_rc_r rc15 hf_τ18 rfl rfl | exact n_rc_r rc15 hf_τ15 rfl rfl | exact i15_18 | fail))⟩
  refine ⟨_, K3_X13_readLabel hT (show (σ.1 17) + (σ.1 18) ≤ (σ.1 0) from by (first | omega | (simp only [st_s] <;> omega) | assumption | omega | fail)) (show oc (σ.2.1 6) ≤ (σ.1 3) from SYt) (show oc (σ.2.1 7) ≤ (σ.1 5) from LAt) (show J_pa (σ.2.1 21) (σ.2.1 22) from PA), ?_⟩
  intro τ3 hn_τ3 hf_τ3 hq
  obtain ⟨hT, q1_1, q1_2, q1_3, q1_4, q1_5, q1_6, q1_7⟩ := hq
  replace q1_1 : (τ3.1 20) = 0 → (τ3.1 22) = (σ.1 5) ∧ τ3.2.1 15 (τ3.1 22) = 0 ∧ τ3.2.1 19 (τ3.1 22) = 0 ∧ τ3.2.1 22 (τ3.1 22) = 0 ∧ τ3.2.1 26 (τ3.1 22) = 0 ∧ (σ.1 5) < 1500 := q1_1
  replace q1_2 : (τ3.1 20) = 0 → τ3.2.1 14 (τ3.1 22) = (σ.1 6) ∧ τ3.2.1 18 (τ3.1 22) = (σ.1 7) ∧ τ3.2.1 21 (τ3.1 22) = (σ.1 8) ∧ τ3.2.1 25 (τ3.1 22) = (σ.1 9) := q1_2
  replace q1_3 : oc (τ3.2.1 7) ≤ (σ.1 5) + 1 := q1_3
  replace q1_4 : ¬ (σ.1 20) = 0 → (τ3.1 20) = (σ.1 20) := q1_4
  replace q1_5 : J_pa (τ3.2.1 21) (τ3.2.1 22) := q1_5
  replace q1_6 : m_ag σ τ3 := q1_6
  replace q1_7 : n_rc σ τ3 := q1_7
  replace ag : m_ag σ τ3 := ag_t ag q1_6 rfl
  have w0_τ3 : τ3.1 0 = σ.1 0 := hf_τ3.1 0 (by decide)
  have w3_τ3 : τ3.1 3 = σ.1 3 := hf_τ3.1 3 (by decide)
  have w4_τ3 : τ3.1 4 = σ.1 4 := hf_τ3.1 4 (by decide)
  have w5_τ3 : τ3.1 5 = σ.1 5 := hf_τ3.1 5 (by decide)
  have w6_τ3 : τ3.1 6 = σ.1 6 := hf_τ3.1 6 (by decide)
  have w7_τ3 : τ3.1 7 = σ.1 7 := hf_τ3.1 7 (by decide)
  have w8_τ3 : τ3.1 8 = σ.1 8 := hf_τ3.1 8 (by decide)
  have w9_τ3 : τ3.1 9 = σ.1 9 := hf_τ3.1 9 (by decide)
  have w10_τ3 : τ3.1 10 = σ.1 10 := hf_τ3.1 10 (by decide)
  have w11_τ3 : τ3.1 11 = σ.1 11 := hf_τ3.1 11 (by decide)
  have w13_τ3 : τ3.1 13 = σ.1 13 := hf_τ3.1 13 (by decide)
  have w15_τ3 : τ3.1 15 = σ.1 15 := hf_τ3.1 15 (by decide)
  have w16_τ3 : τ3.1 16 = σ.1 16 := hf_τ3.1 16 (by decide)
  have w17_τ3 : τ3.1 17 = σ.1 17 := hf_τ3.1 17 (by decide)
  have w18_τ3 : τ3.1 18 = σ.1 18 := hf_τ3.1 18 (by decide)
  have w19_τ3 : τ3.1 19 = σ.1 19 := hf_τ3.1 19 (by decide)
  have g6_τ3 : τ3.2.1 6 = σ.2.1 6 := hf_τ3.2.1 6 (by decide)
  have g8_τ3 : τ3.2.1 8 = σ.2.1 8 := hf_τ3.2.1 8 (by decide)
  have g10_τ3 : τ3.2.1 10 = σ.2.1 10 := hf_τ3.2.1 10 (by decide)
  have g11_τ3 : τ3.2.1 11 = σ.2.1 11 := hf_τ3.2.1 11 (by decide)
  have g12_τ3 : τ3.2.1 12 = σ.2.1 12 := hf_τ3.2.1 12 (by decide)
  have g13_τ3 : τ3.2.1 13 = σ.2.1 13 := hf_τ3.2.1 13 (by decide)
  have g16_τ3 : τ3.2.1 16 = σ.2.1 16 := hf_τ3.2.1 16 (by decide)
  have g17_τ3 : τ3.2.1 17 = σ.2.1 17 := hf_τ3.2.1 17 (by decide)
  have g20_τ3 : τ3.2.1 20 = σ.2.1 20 := hf_τ3.2.1 20 (by decide)
  have g27_τ3 : τ3.2.1 27 = σ.2.1 27 := hf_τ3.2.1 27 (by decide)
  have g28_τ3 : τ3.2.1 28 = σ.2.1 28 := hf_τ3.2.1 28 (by decide)
  have g31_τ3 : τ3.2.1 31 = σ.2.1 31 := hf_τ3.2.1 31 (by decide)
  have g35_τ3 : τ3.2.1 35 = σ.2.1 35 := hf_τ3.2.1 35 (by decide)
  first | (have o6_τ3 := congrArg oc g6_τ3) | skip
  first | (have o7_τ3 := congrArg oc g7_τ3) | skip
  have W0 : τ3.1 0 = σ.1 0 := by first | exact w0_τ3.trans W0 | omega
  have W3 : τ3.1 3 = σ.1 3 := by first | exact w3_τ3.trans W3 | omega
  have W10 : τ3.1 10 = σ.1 10 := by first | exact w10_τ3.trans W10 | omega
  have W11 : τ3.1 11 = σ.1 11 := by first | exact w11_τ3.trans W11 | omega
  have W15 : τ3.1 15 = σ.1 15 := by first | exact w15_τ3.trans W15 | omega
  have G6 : τ3.2.1 6 = σ.2.1 6 := (g6_τ3).trans G6
  have G8 : τ3.2.1 8 = σ.2.1 8 := (g8_τ3).trans G8
  have G35 : τ3.2.1 35 = σ.2.1 35 := (g35_τ3).trans G35
  have Y20 : ca (τ3.2.1 12) ((τ3.1 3)) ≤ (τ3.1 4) := by rw [show (ca (τ3.2.1 12) ((τ3.1 3)) ≤ (τ3.1 4)) = (ca (σ.2.1 12) ((σ.1 3)) ≤ (σ.1 4)) from by rw [w3_τ3, w4_τ3, g12_τ3]]; exact Y20
  have Y8 : j_eq ((σ.1 9)) (σ.2.1 28) (τ3.2.1 28) := by rw [show (j_eq ((σ.1 9)) (σ.2.1 28) (τ3.2.1 28)) = (j_eq ((σ.1 9)) (σ.2.1 28) (σ.2.1 28)) from by rw [g28_τ3]]; exact Y8
  have Y1 : j_l2 (τ3.2.1 6) (τ3.1 3) := by rw [show (j_l2 (τ3.2.1 6) (τ3.1 3)) = (j_l2 (σ.2.1 6) (σ.1 3)) from by rw [w3_τ3, g6_τ3]]; exact Y1
  have PA : J_pa (τ3.2.1 21) (τ3.2.1 22) := q1_5
  have SYt : oc (τ3.2.1 6) ≤ (τ3.1 3) := by rw [show (oc (τ3.2.1 6) ≤ (τ3.1 3)) = (oc (σ.2.1 6) ≤ (σ.1 3)) from by rw [w3_τ3, g6_τ3]]; exact SYt
  have STt : j_l2 (τ3.2.1 6) (τ3.1 3) := by rw [show (j_l2 (τ3.2.1 6) (τ3.1 3)) = (j_l2 (σ.2.1 6) (σ.1 3)) from by rw [w3_τ3, g6_τ3]]; exact STt
  have A1 : ∀ j, 0 ≤ τ3.2.1 1 j ∧ τ3.2.1 1 j ≤ 255 := fun j => hT.2 1 j
  have A6 : ∀ j, (-1) ≤ τ3.2.1 6 j ∧ τ3.2.1 6 j ≤ 999 := fun j => hT.2 6 j
  have A7 : ∀ j, (-1) ≤ τ3.2.1 7 j ∧ τ3.2.1 7 j ≤ 1499 := fun j => hT.2 7 j
  have A8 : ∀ j, 0 ≤ τ3.2.1 8 j ∧ τ3.2.1 8 j ≤ 1 := fun j => hT.2 8 j
  have A10 : ∀ j, (-1) ≤ τ3.2.1 10 j ∧ τ3.2.1 10 j ≤ 999 := fun j => hT.2 10 j
  have A11 : ∀ j, (-1) ≤ τ3.2.1 11 j ∧ τ3.2.1 11 j ≤ 1499 := fun j => hT.2 11 j
  have A12 : ∀ j, 0 ≤ τ3.2.1 12 j ∧ τ3.2.1 12 j ≤ 1 := fun j => hT.2 12 j
  have A13 : ∀ j, 0 ≤ τ3.2.1 13 j ∧ τ3.2.1 13 j ≤ 4 := fun j => hT.2 13 j
  have A14 : ∀ j, 0 ≤ τ3.2.1 14 j ∧ τ3.2.1 14 j ≤ 30000 := fun j => hT.2 14 j
  have A15 : ∀ j, 0 ≤ τ3.2.1 15 j ∧ τ3.2.1 15 j ≤ 300 := fun j => hT.2 15 j
  have A16 : ∀ j, 0 ≤ τ3.2.1 16 j ∧ τ3.2.1 16 j ≤ 999 := fun j => hT.2 16 j
  have A17 : ∀ j, (-1) ≤ τ3.2.1 17 j ∧ τ3.2.1 17 j ≤ 1499 := fun j => hT.2 17 j
  have A18 : ∀ j, 0 ≤ τ3.2.1 18 j ∧ τ3.2.1 18 j ≤ 90000 := fun j => hT.2 18 j
  have A19 : ∀ j, 0 ≤ τ3.2.1 19 j ∧ τ3.2.1 19 j ≤ 60 := fun j => hT.2 19 j
  have A20 : ∀ j, 0 ≤ τ3.2.1 20 j ∧ τ3.2.1 20 j ≤ 1499 := fun j => hT.2 20 j
  have A21 : ∀ j, 0 ≤ τ3.2.1 21 j ∧ τ3.2.1 21 j ≤ 20000 := fun j => hT.2 21 j
  have A22 : ∀ j, 0 ≤ τ3.2.1 22 j ∧ τ3.2.1 22 j ≤ 20000 := fun j => hT.2 22 j
  have A25 : ∀ j, 0 ≤ τ3.2.1 25 j ∧ τ3.2.1 25 j ≤ 20000 := fun j => hT.2 25 j
  have A26 : ∀ j, 0 ≤ τ3.2.1 26 j ∧ τ3.2.1 26 j ≤ 20000 := fun j => hT.2 26 j
  have A27 : ∀ j, (-300) ≤ τ3.2.1 27 j ∧ τ3.2.1 27 j ≤ 1499 := fun j => hT.2 27 j
  have A28 : ∀ j, 0 ≤ τ3.2.1 28 j ∧ τ3.2.1 28 j ≤ 1 := fun j => hT.2 28 j
  have A31 : ∀ j, 0 ≤ τ3.2.1 31 j ∧ τ3.2.1 31 j ≤ 1499 := fun j => hT.2 31 j
  have A35 : ∀ j, 0 ≤ τ3.2.1 35 j ∧ τ3.2.1 35 j ≤ 1500 := fun j => hT.2 35 j
  have v0 : 0 ≤ τ3.1 0 ∧ τ3.1 0 ≤ 60000 := hT.1 0
  have v2 : 0 ≤ τ3.1 2 ∧ τ3.1 2 ≤ 30000 := hT.1 2
  have v3 : 0 ≤ τ3.1 3 ∧ τ3.1 3 ≤ 1000 := hT.1 3
  have v4 : 0 ≤ τ3.1 4 ∧ τ3.1 4 ≤ 100 := hT.1 4
  have v5 : 0 ≤ τ3.1 5 ∧ τ3.1 5 ≤ 1500 := hT.1 5
  have v6 : 0 ≤ τ3.1 6 ∧ τ3.1 6 ≤ 30000 := hT.1 6
  have v7 : 0 ≤ τ3.1 7 ∧ τ3.1 7 ≤ 90000 := hT.1 7
  have v8 : 0 ≤ τ3.1 8 ∧ τ3.1 8 ≤ 20000 := hT.1 8
  have v9 : 0 ≤ τ3.1 9 ∧ τ3.1 9 ≤ 20000 := hT.1 9
  have v10 : (-1) ≤ τ3.1 10 ∧ τ3.1 10 ≤ 999 := hT.1 10
  have v11 : (-1) ≤ τ3.1 11 ∧ τ3.1 11 ≤ 999 := hT.1 11
  have v13 : 0 ≤ τ3.1 13 ∧ τ3.1 13 ≤ 1500 := hT.1 13
  have v15 : 0 ≤ τ3.1 15 ∧ τ3.1 15 ≤ 50 := hT.1 15
  have v16 : 0 ≤ τ3.1 16 ∧ τ3.1 16 ≤ 60000 := hT.1 16
  have v17 : 0 ≤ τ3.1 17 ∧ τ3.1 17 ≤ 60000 := hT.1 17
  have v18 : 0 ≤ τ3.1 18 ∧ τ3.1 18 ≤ 60000 := hT.1 18
  have v19 : (-1) ≤ τ3.1 19 ∧ τ3.1 19 ≤ 125 := hT.1 19
  have v20 : 0 ≤ τ3.1 20 ∧ τ3.1 20 ≤ 19 := hT.1 20
  have v22 : 0 ≤ τ3.1 22 ∧ τ3.1 22 ≤ 1499 := hT.1 22
  have a14_5 : 0 ≤ τ3.2.1 14 (τ3.1 5) ∧ τ3.2.1 14 (τ3.1 5) ≤ 30000 := hT.2 14 _
  have a14_22 : 0 ≤ τ3.2.1 14 (τ3.1 22) ∧ τ3.2.1 14 (τ3.1 22) ≤ 30000 := hT.2 14 _
  have a15_5 : 0 ≤ τ3.2.1 15 (τ3.1 5) ∧ τ3.2.1 15 (τ3.1 5) ≤ 300 := hT.2 15 _
  have a15_22 : 0 ≤ τ3.2.1 15 (τ3.1 22) ∧ τ3.2.1 15 (τ3.1 22) ≤ 300 := hT.2 15 _
  have a18_22 : 0 ≤ τ3.2.1 18 (τ3.1 22) ∧ τ3.2.1 18 (τ3.1 22) ≤ 90000 := hT.2 18 _
  have a19_22 : 0 ≤ τ3.2.1 19 (τ3.1 22) ∧ τ3.2.1 19 (τ3.1 22) ≤ 60 := hT.2 19 _
  have a21_22 : 0 ≤ τ3.2.1 21 (τ3.1 22) ∧ τ3.2.1 21 (τ3.1 22) ≤ 20000 := hT.2 21 _
  have a22_22 : 0 ≤ τ3.2.1 22 (τ3.1 22) ∧ τ3.2.1 22 (τ3.1 22) ≤ 20000 := hT.2 22 _
  have a25_22 : 0 ≤ τ3.2.1 25 (τ3.1 22) ∧ τ3.2.1 25 (τ3.1 22) ≤ 20000 := hT.2 25 _
  have a26_22 : 0 ≤ τ3.2.1 26 (τ3.1 22) ∧ τ3.2.1 26 (τ3.1 22) ≤ 20000 := hT.2 26 _
  have av5 : σ.1 5 ≤ τ3.1 5 := ag.1 5 (by decide)
  have av6 : σ.1 6 ≤ τ3.1 6 := ag.1 6 (by decide)
  have av7 : σ.1 7 ≤ τ3.1 7 := ag.1 7 (by decide)
  have av8 : σ.1 8 ≤ τ3.1 8 := ag.1 8 (by decide)
  have av9 : σ.1 9 ≤ τ3.1 9 := ag.1 9 (by decide)
  refine ⟨fun c4 => ?_, fun c4 => ?_⟩
  ·
    exact l_15 _ hT ag (show τ3.1 0 = σ.1 0 from by first | exact W0 | omega) (show τ3.1 3 = σ.1 3 from by first | exact W3 | omega) (show τ3.1 10 = σ.1 10 from by first | exact W10 | omega) (show τ3.1 11 = σ.1 11 from by first | exact W11 | omega) (show τ3.1 15 = σ.1 15 from by first | exact W15 | omega) G6 G8 G35 (show (τ3.1 16) ≤ (τ3.1 0) from by (first | omega | (simp only [st_s] <;> omega) | assumption | omega | fail)) (show (τ3.1 17) + (τ3.1 18) ≤ (τ3.1 0) from by (first | omega | (simp only [st_s] <;> omega) | assumption | omega | fail)) (show oc (τ3.2.1 6) < 4096 from by (first | omega | (simp only [st_s] <;> omega) | assumption | omega | fail)) (show oc (τ3.2.1 7) ≤ (σ.1 5) + 1 from by (first | omega | (simp only [st_s] <;> omega) | assumption | omega | fail)) (show ¬ (σ.1 20) = 0 → (τ3.1 20) = (σ.1 20) from by (first | omega | (simp only [st_s] <;> omega) | assumption | omega | fail)) (show ca (τ3.2.1 12) ((τ3.1 3)) ≤ (τ3.1 4) from Y20) (show J_pa (τ3.2.1 21) (τ3.2.1 22) from PA) (show (τ3.1 20) = 0 → (τ3.1 22) = (τ3.1 5) ∧ τ3.2.1 15 (τ3.1 22) = 0 ∧ τ3.2.1 19 (τ3.1 22) = 0 ∧ τ3.2.1 22 (τ3.1 22) = 0 ∧ τ3.2.1 26 (τ3.1 22) = 0 ∧ (τ3.1 5) < 1500 from by (first | omega | (simp only [st_s] <;> omega) | assumption | omega | fail)) (show (τ3.1 20) = 0 → τ3.2.1 14 (τ3.1 22) = (τ3.1 6) ∧ τ3.2.1 18 (τ3.1 22) = (τ3.1 7) ∧ τ3.2.1 21 (τ3.1 22) = (τ3.1 8) ∧ τ3.2.1 25 (τ3.1 22) = (τ3.1 9) from by (first | omega | (simp only [st_s] <;> omega) | assumption | omega | fail)) (show (τ3.1 5) = (σ.1 5) from by (first | omega | (simp only [st_s] <;> omega) | assumption | omega | fail)) (show (τ3.1 6) = (σ.1 6) ∧ (τ3.1 7) = (σ.1 7) ∧ (τ3.1 8) = (σ.1 8) ∧ (τ3.1 9) = (σ.1 9) ∧ (τ3.1 13) = (σ.1 13) from by (first | omega | (simp only [st_s] <;> omega) | assumption | omega | fail)) (show j_eq ((σ.1 9)) (σ.2.1 28) (τ3.2.1 28) from Y8) (show (σ.1 16) ≤ (τ3.1 16) from by (first | omega | (simp only [st_s] <;> omega) | assumption | omega | fail)) (show τ3.2.1 10 = σ.2.1 10 from by (first | exact g10_τ3 | (rw [g10_τ7, g10_τ3]) | fail)) (show τ3.2.1 12 = σ.2.1 12 from by (first | exact g12_τ3 | (rw [g12_τ7, g12_τ3]) | fail)) (show τ3.2.1 11 = σ.2.1 11 from by (first | exact g11_τ3 | (rw [g11_τ7, g11_τ3]) | fail)) (show τ3.2.1 31 = σ.2.1 31 from by (first | exact g31_τ3 | (rw [g31_τ7, g31_τ3]) | fail)) (show n_rc σ τ3 from by (first | exact q1_7 | exact n_rc_r q1_7 hf_τ7 rfl rfl | fail))
  ·
    refine ⟨_, K_X13_next hT (show (τ3.1 16) ≤ (τ3.1 0) from by (first | omega | (simp only [st_s] <;> omega) | assumption | omega | fail)), ?_⟩
    intro τ7 hn_τ7 hf_τ7 hq
    obtain ⟨hT, q5_1, q5_2, q5_3, q5_4, q5_5⟩ := hq
    replace q5_1 : (τ7.1 16) ≤ (τ7.1 0) := q5_1
    replace q5_2 : (τ7.1 17) + (τ7.1 18) ≤ (τ7.1 0) := q5_2
    replace q5_3 : (τ3.1 16) ≤ (τ7.1 16) := q5_3
    replace q5_4 : ¬ (τ3.1 20) = 0 → (τ7.1 20) = (τ3.1 20) := q5_4
    replace q5_5 : (τ7.1 20) = 0 → ¬ (τ7.1 19) = 0 → (τ3.1 16) < (τ7.1 16) ∧ 0 < (τ7.1 18) := q5_5
    replace ag : m_ag σ τ7 := ag_r ag hf_τ7 rfl rfl
    have w0_τ7 : τ7.1 0 = τ3.1 0 := hf_τ7.1 0 (by decide)
    have w2_τ7 : τ7.1 2 = τ3.1 2 := hf_τ7.1 2 (by decide)
    have w3_τ7 : τ7.1 3 = τ3.1 3 := hf_τ7.1 3 (by decide)
    have w4_τ7 : τ7.1 4 = τ3.1 4 := hf_τ7.1 4 (by decide)
    have w5_τ7 : τ7.1 5 = τ3.1 5 := hf_τ7.1 5 (by decide)
    have w6_τ7 : τ7.1 6 = τ3.1 6 := hf_τ7.1 6 (by decide)
    have w7_τ7 : τ7.1 7 = τ3.1 7 := hf_τ7.1 7 (by decide)
    have w8_τ7 : τ7.1 8 = τ3.1 8 := hf_τ7.1 8 (by decide)
    have w9_τ7 : τ7.1 9 = τ3.1 9 := hf_τ7.1 9 (by decide)
    have w10_τ7 : τ7.1 10 = τ3.1 10 := hf_τ7.1 10 (by decide)
    have w11_τ7 : τ7.1 11 = τ3.1 11 := hf_τ7.1 11 (by decide)
    have w13_τ7 : τ7.1 13 = τ3.1 13 := hf_τ7.1 13 (by decide)
    have w15_τ7 : τ7.1 15 = τ3.1 15 := hf_τ7.1 15 (by decide)
    have w22_τ7 : τ7.1 22 = τ3.1 22 := hf_τ7.1 22 (by decide)
    have g1_τ7 : τ7.2.1 1 = τ3.2.1 1 := hf_τ7.2.1 1 (by decide)
    have g6_τ7 : τ7.2.1 6 = τ3.2.1 6 := hf_τ7.2.1 6 (by decide)
    have g7_τ7 : τ7.2.1 7 = τ3.2.1 7 := hf_τ7.2.1 7 (by decide)
    have g8_τ7 : τ7.2.1 8 = τ3.2.1 8 := hf_τ7.2.1 8 (by decide)
    have g10_τ7 : τ7.2.1 10 = τ3.2.1 10 := hf_τ7.2.1 10 (by decide)
    have g11_τ7 : τ7.2.1 11 = τ3.2.1 11 := hf_τ7.2.1 11 (by decide)
    have g12_τ7 : τ7.2.1 12 = τ3.2.1 12 := hf_τ7.2.1 12 (by decide)
    have g13_τ7 : τ7.2.1 13 = τ3.2.1 13 := hf_τ7.2.1 13 (by decide)
    have g14_τ7 : τ7.2.1 14 = τ3.2.1 14 := hf_τ7.2.1 14 (by decide)
    have g15_τ7 : τ7.2.1 15 = τ3.2.1 15 := hf_τ7.2.1 15 (by decide)
    have g16_τ7 : τ7.2.1 16 = τ3.2.1 16 := hf_τ7.2.1 16 (by decide)
    have g17_τ7 : τ7.2.1 17 = τ3.2.1 17 := hf_τ7.2.1 17 (by decide)
    have g18_τ7 : τ7.2.1 18 = τ3.2.1 18 := hf_τ7.2.1 18 (by decide)
    have g19_τ7 : τ7.2.1 19 = τ3.2.1 19 := hf_τ7.2.1 19 (by decide)
    have g20_τ7 : τ7.2.1 20 = τ3.2.1 20 := hf_τ7.2.1 20 (by decide)
    have g21_τ7 : τ7.2.1 21 = τ3.2.1 21 := hf_τ7.2.1 21 (by decide)
    have g22_τ7 : τ7.2.1 22 = τ3.2.1 22 := hf_τ7.2.1 22 (by decide)
    have g25_τ7 : τ7.2.1 25 = τ3.2.1 25 := hf_τ7.2.1 25 (by decide)
    have g26_τ7 : τ7.2.1 26 = τ3.2.1 26 := hf_τ7.2.1 26 (by decide)
    have g27_τ7 : τ7.2.1 27 = τ3.2.1 27 := hf_τ7.2.1 27 (by decide)
    have g28_τ7 : τ7.2.1 28 = τ3.2.1 28 := hf_τ7.2.1 28 (by decide)
    have g31_τ7 : τ7.2.1 31 = τ3.2.1 31 := hf_τ7.2.1 31 (by decide)
    have g35_τ7 : τ7.2.1 35 = τ3.2.1 35 := hf_τ7.2.1 35 (by decide)
    first | (have o6_τ7 := congrArg oc g6_τ7) | skip
    first | (have o7_τ7 := congrArg oc g7_τ7) | skip
    have W0 : τ7.1 0 = σ.1 0 := by first | exact w0_τ7.trans W0 | omega
    have W3 : τ7.1 3 = σ.1 3 := by first | exact w3_τ7.trans W3 | omega
    have W10 : τ7.1 10 = σ.1 10 := by first | exact w10_τ7.trans W10 | omega
    have W11 : τ7.1 11 = σ.1 11 := by first | exact w11_τ7.trans W11 | omega
    have W15 : τ7.1 15 = σ.1 15 := by first | exact w15_τ7.trans W15 | omega
    have G6 : τ7.2.1 6 = σ.2.1 6 := (g6_τ7).trans G6
    have G8 : τ7.2.1 8 = σ.2.1 8 := (g8_τ7).trans G8
    have G35 : τ7.2.1 35 = σ.2.1 35 := (g35_τ7).trans G35
    have y14_5_τ7 : τ7.2.1 14 (τ7.1 5) = (τ3.2.1 14) (τ3.1 5) := by rw [g14_τ7, w5_τ7]
    have y14_22_τ7 : τ7.2.1 14 (τ7.1 22) = (τ3.2.1 14) (τ3.1 22) := by rw [g14_τ7, w22_τ7]
    have y15_5_τ7 : τ7.2.1 15 (τ7.1 5) = (τ3.2.1 15) (τ3.1 5) := by rw [g15_τ7, w5_τ7]
    have y15_22_τ7 : τ7.2.1 15 (τ7.1 22) = (τ3.2.1 15) (τ3.1 22) := by rw [g15_τ7, w22_τ7]
    have y18_22_τ7 : τ7.2.1 18 (τ7.1 22) = (τ3.2.1 18) (τ3.1 22) := by rw [g18_τ7, w22_τ7]
    have y19_22_τ7 : τ7.2.1 19 (τ7.1 22) = (τ3.2.1 19) (τ3.1 22) := by rw [g19_τ7, w22_τ7]
    have y21_22_τ7 : τ7.2.1 21 (τ7.1 22) = (τ3.2.1 21) (τ3.1 22) := by rw [g21_τ7, w22_τ7]
    have y22_22_τ7 : τ7.2.1 22 (τ7.1 22) = (τ3.2.1 22) (τ3.1 22) := by rw [g22_τ7, w22_τ7]
    have y25_22_τ7 : τ7.2.1 25 (τ7.1 22) = (τ3.2.1 25) (τ3.1 22) := by rw [g25_τ7, w22_τ7]
    have y26_22_τ7 : τ7.2.1 26 (τ7.1 22) = (τ3.2.1 26) (τ3.1 22) := by rw [g26_τ7, w22_τ7]
    have Y20 : ca (τ7.2.1 12) ((τ7.1 3)) ≤ (τ7.1 4) := by rw [show (ca (τ7.2.1 12) ((τ7.1 3)) ≤ (τ7.1 4)) = (ca (τ3.2.1 12) ((τ3.1 3)) ≤ (τ3.1 4)) from by rw [w3_τ7, w4_τ7, g12_τ7]]; exact Y20
    have Y8 : j_eq ((σ.1 9)) (σ.2.1 28) (τ7.2.1 28) := by rw [show (j_eq ((σ.1 9)) (σ.2.1 28) (τ7.2.1 28)) = (j_eq ((σ.1 9)) (σ.2.1 28) (τ3.2.1 28)) from by rw [g28_τ7]]; exact Y8
    have Y1 : j_l2 (τ7.2.1 6) (τ7.1 3) := by rw [show (j_l2 (τ7.2.1 6) (τ7.1 3)) = (j_l2 (τ3.2.1 6) (τ3.1 3)) from by rw [w3_τ7, g6_τ7]]; exact Y1
    have PA : J_pa (τ7.2.1 21) (τ7.2.1 22) := by rw [show (J_pa (τ7.2.1 21) (τ7.2.1 22)) = (J_pa (τ3.2.1 21) (τ3.2.1 22)) from by rw [g21_τ7, g22_τ7]]; exact PA
    have SYt : oc (τ7.2.1 6) ≤ (τ7.1 3) := by rw [show (oc (τ7.2.1 6) ≤ (τ7.1 3)) = (oc (τ3.2.1 6) ≤ (τ3.1 3)) from by rw [w3_τ7, g6_τ7]]; exact SYt
    have STt : j_l2 (τ7.2.1 6) (τ7.1 3) := by rw [show (j_l2 (τ7.2.1 6) (τ7.1 3)) = (j_l2 (τ3.2.1 6) (τ3.1 3)) from by rw [w3_τ7, g6_τ7]]; exact STt
    have A1 : ∀ j, 0 ≤ τ7.2.1 1 j ∧ τ7.2.1 1 j ≤ 255 := fun j => hT.2 1 j
    have A6 : ∀ j, (-1) ≤ τ7.2.1 6 j ∧ τ7.2.1 6 j ≤ 999 := fun j => hT.2 6 j
    have A7 : ∀ j, (-1) ≤ τ7.2.1 7 j ∧ τ7.2.1 7 j ≤ 1499 := fun j => hT.2 7 j
    have A8 : ∀ j, 0 ≤ τ7.2.1 8 j ∧ τ7.2.1 8 j ≤ 1 := fun j => hT.2 8 j
    have A10 : ∀ j, (-1) ≤ τ7.2.1 10 j ∧ τ7.2.1 10 j ≤ 999 := fun j => hT.2 10 j
    have A11 : ∀ j, (-1) ≤ τ7.2.1 11 j ∧ τ7.2.1 11 j ≤ 1499 := fun j => hT.2 11 j
    have A12 : ∀ j, 0 ≤ τ7.2.1 12 j ∧ τ7.2.1 12 j ≤ 1 := fun j => hT.2 12 j
    have A13 : ∀ j, 0 ≤ τ7.2.1 13 j ∧ τ7.2.1 13 j ≤ 4 := fun j => hT.2 13 j
    have A14 : ∀ j, 0 ≤ τ7.2.1 14 j ∧ τ7.2.1 14 j ≤ 30000 := fun j => hT.2 14 j
    have A15 : ∀ j, 0 ≤ τ7.2.1 15 j ∧ τ7.2.1 15 j ≤ 300 := fun j => hT.2 15 j
    have A16 : ∀ j, 0 ≤ τ7.2.1 16 j ∧ τ7.2.1 16 j ≤ 999 := fun j => hT.2 16 j
    have A17 : ∀ j, (-1) ≤ τ7.2.1 17 j ∧ τ7.2.1 17 j ≤ 1499 := fun j => hT.2 17 j
    have A18 : ∀ j, 0 ≤ τ7.2.1 18 j ∧ τ7.2.1 18 j ≤ 90000 := fun j => hT.2 18 j
    have A19 : ∀ j, 0 ≤ τ7.2.1 19 j ∧ τ7.2.1 19 j ≤ 60 := fun j => hT.2 19 j
    have A20 : ∀ j, 0 ≤ τ7.2.1 20 j ∧ τ7.2.1 20 j ≤ 1499 := fun j => hT.2 20 j
    have A21 : ∀ j, 0 ≤ τ7.2.1 21 j ∧ τ7.2.1 21 j ≤ 20000 := fun j => hT.2 21 j
    have A22 : ∀ j, 0 ≤ τ7.2.1 22 j ∧ τ7.2.1 22 j ≤ 20000 := fun j => hT.2 22 j
    have A25 : ∀ j, 0 ≤ τ7.2.1 25 j ∧ τ7.2.1 25 j ≤ 20000 := fun j => hT.2 25 j
    have A26 : ∀ j, 0 ≤ τ7.2.1 26 j ∧ τ7.2.1 26 j ≤ 20000 := fun j => hT.2 26 j
    have A27 : ∀ j, (-300) ≤ τ7.2.1 27 j ∧ τ7.2.1 27 j ≤ 1499 := fun j => hT.2 27 j
    have A28 : ∀ j, 0 ≤ τ7.2.1 28 j ∧ τ7.2.1 28 j ≤ 1 := fun j => hT.2 28 j
    have A31 : ∀ j, 0 ≤ τ7.2.1 31 j ∧ τ7.2.1 31 j ≤ 1499 := fun j => hT.2 31 j
    have A35 : ∀ j, 0 ≤ τ7.2.1 35 j ∧ τ7.2.1 35 j ≤ 1500 := fun j => hT.2 35 j
    have v0 : 0 ≤ τ7.1 0 ∧ τ7.1 0 ≤ 60000 := hT.1 0
    have v2 : 0 ≤ τ7.1 2 ∧ τ7.1 2 ≤ 30000 := hT.1 2
    have v3 : 0 ≤ τ7.1 3 ∧ τ7.1 3 ≤ 1000 := hT.1 3
    have v4 : 0 ≤ τ7.1 4 ∧ τ7.1 4 ≤ 100 := hT.1 4
    have v5 : 0 ≤ τ7.1 5 ∧ τ7.1 5 ≤ 1500 := hT.1 5
    have v6 : 0 ≤ τ7.1 6 ∧ τ7.1 6 ≤ 30000 := hT.1 6
    have v7 : 0 ≤ τ7.1 7 ∧ τ7.1 7 ≤ 90000 := hT.1 7
    have v8 : 0 ≤ τ7.1 8 ∧ τ7.1 8 ≤ 20000 := hT.1 8
    have v9 : 0 ≤ τ7.1 9 ∧ τ7.1 9 ≤ 20000 := hT.1 9
    have v10 : (-1) ≤ τ7.1 10 ∧ τ7.1 10 ≤ 999 := hT.1 10
    have v11 : (-1) ≤ τ7.1 11 ∧ τ7.1 11 ≤ 999 := hT.1 11
    have v13 : 0 ≤ τ7.1 13 ∧ τ7.1 13 ≤ 1500 := hT.1 13
    have v15 : 0 ≤ τ7.1 15 ∧ τ7.1 15 ≤ 50 := hT.1 15
    have v16 : 0 ≤ τ7.1 16 ∧ τ7.1 16 ≤ 60000 := hT.1 16
    have v17 : 0 ≤ τ7.1 17 ∧ τ7.1 17 ≤ 60000 := hT.1 17
    have v18 : 0 ≤ τ7.1 18 ∧ τ7.1 18 ≤ 60000 := hT.1 18
    have v19 : (-1) ≤ τ7.1 19 ∧ τ7.1 19 ≤ 125 := hT.1 19
    have v20 : 0 ≤ τ7.1 20 ∧ τ7.1 20 ≤ 19 := hT.1 20
    have v22 : 0 ≤ τ7.1 22 ∧ τ7.1 22 ≤ 1499 := hT.1 22
    have a14_5 : 0 ≤ τ7.2.1 14 (τ7.1 5) ∧ τ7.2.1 14 (τ7.1 5) ≤ 30000 := hT.2 14 _
    have a14_22 : 0 ≤ τ7.2.1 14 (τ7.1 22) ∧ τ7.2.1 14 (τ7.1 22) ≤ 30000 := hT.2 14 _
    have a15_5 : 0 ≤ τ7.2.1 15 (τ7.1 5) ∧ τ7.2.1 15 (τ7.1 5) ≤ 300 := hT.2 15 _
    have a15_22 : 0 ≤ τ7.2.1 15 (τ7.1 22) ∧ τ7.2.1 15 (τ7.1 22) ≤ 300 := hT.2 15 _
    have a18_22 : 0 ≤ τ7.2.1 18 (τ7.1 22) ∧ τ7.2.1 18 (τ7.1 22) ≤ 90000 := hT.2 18 _
    have a19_22 : 0 ≤ τ7.2.1 19 (τ7.1 22) ∧ τ7.2.1 19 (τ7.1 22) ≤ 60 := hT.2 19 _
    have a21_22 : 0 ≤ τ7.2.1 21 (τ7.1 22) ∧ τ7.2.1 21 (τ7.1 22) ≤ 20000 := hT.2 21 _
    have a22_22 : 0 ≤ τ7.2.1 22 (τ7.1 22) ∧ τ7.2.1 22 (τ7.1 22) ≤ 20000 := hT.2 22 _
    have a25_22 : 0 ≤ τ7.2.1 25 (τ7.1 22) ∧ τ7.2.1 25 (τ7.1 22) ≤ 20000 := hT.2 25 _
    have a26_22 : 0 ≤ τ7.2.1 26 (τ7.1 22) ∧ τ7.2.1 26 (τ7.1 22) ≤ 20000 := hT.2 26 _
    have av5 : σ.1 5 ≤ τ7.1 5 := ag.1 5 (by decide)
    have av6 : σ.1 6 ≤ τ7.1 6 := ag.1 6 (by decide)
    have av7 : σ.1 7 ≤ τ7.1 7 := ag.1 7 (by decide)
    have av8 : σ.1 8 ≤ τ7.1 8 := ag.1 8 (by decide)
    have av9 : σ.1 9 ≤ τ7.1 9 := ag.1 9 (by decide)
    exact l_15 _ hT ag (show τ7.1 0 = σ.1 0 from by first | exact W0 | omega) (show τ7.1 3 = σ.1 3 from by first | exact W3 | omega) (show τ7.1 10 = σ.1 10 from by first | exact W10 | omega) (show τ7.1 11 = σ.1 11 from by first | exact W11 | omega) (show τ7.1 15 = σ.1 15 from by first | exact W15 | omega) G6 G8 G35 (show (τ7.1 16) ≤ (τ7.1 0) from by (first | omega | (simp only [st_s] <;> omega) | assumption | omega | fail)) (show (τ7.1 17) + (τ7.1 18) ≤ (τ7.1 0) from by (first | omega | (simp only [st_s] <;> omega) | assumption | omega | fail)) (show oc (τ7.2.1 6) < 4096 from by (first | omega | (simp only [st_s] <;> omega) | assumption | omega | fail)) (show oc (τ7.2.1 7) ≤ (σ.1 5) + 1 from by (first | omega | (simp only [st_s] <;> omega) | assumption | omega | fail)) (show ¬ (σ.1 20) = 0 → (τ7.1 20) = (σ.1 20) from by (first | omega | (simp only [st_s] <;> omega) | assumption | omega | fail)) (show ca (τ7.2.1 12) ((τ7.1 3)) ≤ (τ7.1 4) from Y20) (show J_pa (τ7.2.1 21) (τ7.2.1 22) from PA) (show (τ7.1 20) = 0 → (τ7.1 22) = (τ7.1 5) ∧ τ7.2.1 15 (τ7.1 22) = 0 ∧ τ7.2.1 19 (τ7.1 22) = 0 ∧ τ7.2.1 22 (τ7.1 22) = 0 ∧ τ7.2.1 26 (τ7.1 22) = 0 ∧ (τ7.1 5) < 1500 from by (first | omega | (simp only [st_s] <;> omega) | assumption | omega | fail)) (show (τ7.1 20) = 0 → τ7.2.1 14 (τ7.1 22) = (τ7.1 6) ∧ τ7.2.1 18 (τ7.1 22) = (τ7.1 7) ∧ τ7.2.1 21 (τ7.1 22) = (τ7.1 8) ∧ τ7.2.1 25 (τ7.1 22) = (τ7.1 9) from by (first | omega | (simp only [st_s] <;> omega) | assumption | omega | fail)) (show (τ7.1 5) = (σ.1 5) from by (first | omega | (simp only [st_s] <;> omega) | assumption | omega | fail)) (show (τ7.1 6) = (σ.1 6) ∧ (τ7.1 7) = (σ.1 7) ∧ (τ7.1 8) = (σ.1 8) ∧ (τ7.1 9) = (σ.1 9) ∧ (τ7.1 13) = (σ.1 13) from by (first | omega | (simp only [st_s] <;> omega) | assumption | omega | fail)) (show j_eq ((σ.1 9)) (σ.2.1 28) (τ7.2.1 28) from Y8) (show (σ.1 16) ≤ (τ7.1 16) from by (first | omega | (simp only [st_s] <;> omega) | assumption | omega | fail)) (show τ7.2.1 10 = σ.2.1 10 from by (first | exact g10_τ3 | (rw [g10_τ7, g10_τ3]) | fail)) (show τ7.2.1 12 = σ.2.1 12 from by (first | exact g12_τ3 | (rw [g12_τ7, g12_τ3]) | fail)) (show τ7.2.1 11 = σ.2.1 11 from by (first | exact g11_τ3 | (rw [g11_τ7, g11_τ3]) | fail)) (show τ7.2.1 31 = σ.2.1 31 from by (first | exact g31_τ3 | (rw [g31_τ7, g31_τ3]) | fail)) (show n_rc σ τ7 from by (first | exact q1_7 | exact n_rc_r q1_7 hf_τ7 rfl rfl | fail))
