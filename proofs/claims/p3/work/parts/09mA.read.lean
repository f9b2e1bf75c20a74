-- pure: the model reads a text
theorem u_of {σ τ : S0} {wv wa wb : List Nat} (hf : f_r wv wa wb σ τ) (L : List Nat) (d : L.all (fun k => !wa.contains k) = true) : ∀ k, k ∈ L → τ.2.1 k = σ.2.1 k := fun k hk => hf.2.1 k (by have := List.all_eq_true.mp d k hk; simpa using this)
set_option maxHeartbeats 8000000 in
theorem K_X13_read {σ : S0} (hT : m_T σ) (p1 : oc (σ.2.1 6) ≤ (σ.1 3)) (p2 : oc (σ.2.1 7) ≤ (σ.1 5)) (p3 : (σ.1 12) ≤ ca (σ.2.1 9) (σ.1 3)) (p4 : j_l2 (σ.2.1 6) (σ.1 3)) (p5 : ca (σ.2.1 12) ((σ.1 3)) ≤ (σ.1 4)) (p6 : J_pa (σ.2.1 21) (σ.2.1 22)) (p7 : (σ.1 7) ≤ 60 * (σ.1 5)) (p8 : (σ.1 13) ≤ (σ.1 5)) (p9 : m_J σ) : W_X13_read σ (fun (x : Int) (τ : S0) => (m_T τ) ∧ (oc (τ.2.1 6) ≤ (τ.1 3)) ∧ (oc (τ.2.1 7) ≤ (τ.1 5)) ∧ ((τ.1 12) ≤ ca (τ.2.1 9) (τ.1 3)) ∧ (j_l2 (τ.2.1 6) (τ.1 3)) ∧ (ca (τ.2.1 12) ((τ.1 3)) ≤ (τ.1 4)) ∧ (J_pa (τ.2.1 21) (τ.2.1 22)) ∧ ((τ.1 7) ≤ 60 * (τ.1 5)) ∧ ((τ.1 13) ≤ (τ.1 5)) ∧ (m_J τ) ∧ ((τ.1 0) = 0) ∧ ((τ.1 1) = 0)) := by
  have A6 : ∀ j, (-1) ≤ σ.2.1 6 j ∧ σ.2.1 6 j ≤ 999 := fun j => hT.2 6 j
  have A7 : ∀ j, (-1) ≤ σ.2.1 7 j ∧ σ.2.1 7 j ≤ 1499 := fun j => hT.2 7 j
  have A8 : ∀ j, 0 ≤ σ.2.1 8 j ∧ σ.2.1 8 j ≤ 1 := fun j => hT.2 8 j
  have A9 : ∀ j, 0 ≤ σ.2.1 9 j ∧ σ.2.1 9 j ≤ 1 := fun j => hT.2 9 j
  have A10 : ∀ j, (-1) ≤ σ.2.1 10 j ∧ σ.2.1 10 j ≤ 999 := fun j => hT.2 10 j
  have A11 : ∀ j, (-1) ≤ σ.2.1 11 j ∧ σ.2.1 11 j ≤ 1499 := fun j => hT.2 11 j
  have A12 : ∀ j, 0 ≤ σ.2.1 12 j ∧ σ.2.1 12 j ≤ 1 := fun j => hT.2 12 j
  have A14 : ∀ j, 0 ≤ σ.2.1 14 j ∧ σ.2.1 14 j ≤ 30000 := fun j => hT.2 14 j
  have A15 : ∀ j, 0 ≤ σ.2.1 15 j ∧ σ.2.1 15 j ≤ 300 := fun j => hT.2 15 j
  have A18 : ∀ j, 0 ≤ σ.2.1 18 j ∧ σ.2.1 18 j ≤ 90000 := fun j => hT.2 18 j
  have A19 : ∀ j, 0 ≤ σ.2.1 19 j ∧ σ.2.1 19 j ≤ 60 := fun j => hT.2 19 j
  have A21 : ∀ j, 0 ≤ σ.2.1 21 j ∧ σ.2.1 21 j ≤ 20000 := fun j => hT.2 21 j
  have A22 : ∀ j, 0 ≤ σ.2.1 22 j ∧ σ.2.1 22 j ≤ 20000 := fun j => hT.2 22 j
  have A25 : ∀ j, 0 ≤ σ.2.1 25 j ∧ σ.2.1 25 j ≤ 20000 := fun j => hT.2 25 j
  have A26 : ∀ j, 0 ≤ σ.2.1 26 j ∧ σ.2.1 26 j ≤ 20000 := fun j => hT.2 26 j
  have A28 : ∀ j, 0 ≤ σ.2.1 28 j ∧ σ.2.1 28 j ≤ 1 := fun j => hT.2 28 j
  have A51 : ∀ j, 0 ≤ σ.2.1 51 j ∧ σ.2.1 51 j ≤ 1 := fun j => hT.2 51 j
  have A52 : ∀ j, 0 ≤ σ.2.1 52 j ∧ σ.2.1 52 j ≤ 1 := fun j => hT.2 52 j
  have A53 : ∀ j, 0 ≤ σ.2.1 53 j ∧ σ.2.1 53 j ≤ 1 := fun j => hT.2 53 j
  have A54 : ∀ j, (-1) ≤ σ.2.1 54 j ∧ σ.2.1 54 j ≤ 999 := fun j => hT.2 54 j
  have A55 : ∀ j, (-1) ≤ σ.2.1 55 j ∧ σ.2.1 55 j ≤ 1499 := fun j => hT.2 55 j
  have v0 : 0 ≤ σ.1 0 ∧ σ.1 0 ≤ 60000 := hT.1 0
  have v1 : 0 ≤ σ.1 1 ∧ σ.1 1 ≤ 1 := hT.1 1
  have v2 : 0 ≤ σ.1 2 ∧ σ.1 2 ≤ 30000 := hT.1 2
  have v3 : 0 ≤ σ.1 3 ∧ σ.1 3 ≤ 1000 := hT.1 3
  have v4 : 0 ≤ σ.1 4 ∧ σ.1 4 ≤ 100 := hT.1 4
  have v5 : 0 ≤ σ.1 5 ∧ σ.1 5 ≤ 1500 := hT.1 5
  have v6 : 0 ≤ σ.1 6 ∧ σ.1 6 ≤ 30000 := hT.1 6
  have v7 : 0 ≤ σ.1 7 ∧ σ.1 7 ≤ 90000 := hT.1 7
  have v8 : 0 ≤ σ.1 8 ∧ σ.1 8 ≤ 20000 := hT.1 8
  have v9 : 0 ≤ σ.1 9 ∧ σ.1 9 ≤ 20000 := hT.1 9
  have v12 : 0 ≤ σ.1 12 ∧ σ.1 12 ≤ 1000 := hT.1 12
  have v13 : 0 ≤ σ.1 13 ∧ σ.1 13 ≤ 1500 := hT.1 13
  have v14 : 0 ≤ σ.1 14 ∧ σ.1 14 ≤ 1000 := hT.1 14
  have v15 : 0 ≤ σ.1 15 ∧ σ.1 15 ≤ 50 := hT.1 15
  have v16 : 0 ≤ σ.1 16 ∧ σ.1 16 ≤ 60000 := hT.1 16
  have v17 : 0 ≤ σ.1 17 ∧ σ.1 17 ≤ 60000 := hT.1 17
  have v18 : 0 ≤ σ.1 18 ∧ σ.1 18 ≤ 60000 := hT.1 18
  have v19 : (-1) ≤ σ.1 19 ∧ σ.1 19 ≤ 125 := hT.1 19
  have v20 : 0 ≤ σ.1 20 ∧ σ.1 20 ≤ 19 := hT.1 20
  have v38 : 0 ≤ σ.1 38 ∧ σ.1 38 ≤ 1500 := hT.1 38
  have v49 : 0 ≤ σ.1 49 ∧ σ.1 49 ≤ 1 := hT.1 49
  have ag : m_ag σ σ := ag_0 σ
  intro P61 P93 P116 P136 h61 h93 h116 h136
  have hT0 := hT
  have Y8 := j_eq0 (σ.1 9) (σ.2.1 28)
  have Y20 : ca (σ.2.1 12) ((σ.1 3)) ≤ (σ.1 4) := p5
  have Y1 : j_l2 (σ.2.1 6) (σ.1 3) := p4
  have PA : J_pa (σ.2.1 21) (σ.2.1 22) := p6
  have SYt : oc (σ.2.1 6) ≤ (σ.1 3) := p1
  have LAt : oc (σ.2.1 7) ≤ (σ.1 5) := p2
  have AVt : (σ.1 12) ≤ ca (σ.2.1 9) (σ.1 3) := p3
  have STt : j_l2 (σ.2.1 6) (σ.1 3) := p4
  have AVt_0 := AVt
  have LAt_0 := LAt
  have PA_0 := PA
  have STt_0 := STt
  have SYt_0 := SYt
  have Y1_0 := Y1
  have Y20_0 := Y20
  have Y8_0 := Y8
  have l_61 : ∀ (m_61 : Nat) (τ_61 : S0), 3 * ((τ_61.1 0) - (τ_61.1 16)) + z_0 ((τ_61.1 20)) + 1 - z_0 ((τ_61.1 19)) < (m_61 : Int) → (m_T τ_61) → (m_ag σ τ_61) → ((τ_61.1 16) ≤ (τ_61.1 0)) → ((τ_61.1 17) + (τ_61.1 18) ≤ (τ_61.1 0)) → (oc (τ_61.2.1 6) ≤ (τ_61.1 3)) → ((τ_61.1 12) ≤ ca (τ_61.2.1 9) (τ_61.1 3)) → (j_l2 (τ_61.2.1 6) (τ_61.1 3)) → (ca (τ_61.2.1 12) ((τ_61.1 3)) ≤ (τ_61.1 4)) → (J_pa (τ_61.2.1 21) (τ_61.2.1 22)) → ((τ_61.1 13) ≤ (τ_61.1 5)) → ((τ_61.1 20) = 0 → oc (τ_61.2.1 7) ≤ (τ_61.1 5)) → ((τ_61.1 20) = 0 → (τ_61.1 7) ≤ 60 * (τ_61.1 5)) → (j_eq ((σ.1 9)) (σ.2.1 28) (τ_61.2.1 28)) → ((τ_61.1 20) = 0 → m_J τ_61) → ((σ.1 5) ≤ (τ_61.1 5)) → (j_e0 (σ.1 3) (σ.2.1 8) (τ_61.2.1 51)) → (j_e0 (σ.1 3) (σ.2.1 9) (τ_61.2.1 52)) → (j_e0 (σ.1 3) (σ.2.1 12) (τ_61.2.1 53)) → (j_e0 (σ.1 3) (σ.2.1 10) (τ_61.2.1 54)) → (j_e0 (σ.1 3) (σ.2.1 11) (τ_61.2.1 55)) → P61 (σ.1 3) (σ.1 5) (σ.1 2) (σ.1 12) (σ.1 13) (σ.1 14) τ_61 := by
    intro m_61
    induction m_61 with
    | zero =>
      intro τ_61 hm hT ag i61_1 i61_2 i61_3 i61_4 i61_5 i61_6 i61_7 i61_8 i61_9 i61_10 i61_11 i61_12 i61_13 i61_14 i61_15 i61_16 i61_17 i61_18
      have A6 : ∀ j, (-1) ≤ τ_61.2.1 6 j ∧ τ_61.2.1 6 j ≤ 999 := fun j => hT.2 6 j
      have A7 : ∀ j, (-1) ≤ τ_61.2.1 7 j ∧ τ_61.2.1 7 j ≤ 1499 := fun j => hT.2 7 j
      have A8 : ∀ j, 0 ≤ τ_61.2.1 8 j ∧ τ_61.2.1 8 j ≤ 1 := fun j => hT.2 8 j
      have A9 : ∀ j, 0 ≤ τ_61.2.1 9 j ∧ τ_61.2.1 9 j ≤ 1 := fun j => hT.2 9 j
      have A10 : ∀ j, (-1) ≤ τ_61.2.1 10 j ∧ τ_61.2.1 10 j ≤ 999 := fun j => hT.2 10 j
      have A11 : ∀ j, (-1) ≤ τ_61.2.1 11 j ∧ τ_61.2.1 11 j ≤ 1499 := fun j => hT.2 11 j
      have A12 : ∀ j, 0 ≤ τ_61.2.1 12 j ∧ τ_61.2.1 12 j ≤ 1 := fun j => hT.2 12 j
      have A14 : ∀ j, 0 ≤ τ_61.2.1 14 j ∧ τ_61.2.1 14 j ≤ 30000 := fun j => hT.2 14 j
      have A15 : ∀ j, 0 ≤ τ_61.2.1 15 j ∧ τ_61.2.1 15 j ≤ 300 := fun j => hT.2 15 j
      have A18 : ∀ j, 0 ≤ τ_61.2.1 18 j ∧ τ_61.2.1 18 j ≤ 90000 := fun j => hT.2 18 j
      have A19 : ∀ j, 0 ≤ τ_61.2.1 19 j ∧ τ_61.2.1 19 j ≤ 60 := fun j => hT.2 19 j
      have A21 : ∀ j, 0 ≤ τ_61.2.1 21 j ∧ τ_61.2.1 21 j ≤ 20000 := fun j => hT.2 21 j
      have A22 : ∀ j, 0 ≤ τ_61.2.1 22 j ∧ τ_61.2.1 22 j ≤ 20000 := fun j => hT.2 22 j
      have A25 : ∀ j, 0 ≤ τ_61.2.1 25 j ∧ τ_61.2.1 25 j ≤ 20000 := fun j => hT.2 25 j
      have A26 : ∀ j, 0 ≤ τ_61.2.1 26 j ∧ τ_61.2.1 26 j ≤ 20000 := fun j => hT.2 26 j
      have A28 : ∀ j, 0 ≤ τ_61.2.1 28 j ∧ τ_61.2.1 28 j ≤ 1 := fun j => hT.2 28 j
      have A51 : ∀ j, 0 ≤ τ_61.2.1 51 j ∧ τ_61.2.1 51 j ≤ 1 := fun j => hT.2 51 j
      have A52 : ∀ j, 0 ≤ τ_61.2.1 52 j ∧ τ_61.2.1 52 j ≤ 1 := fun j => hT.2 52 j
      have A53 : ∀ j, 0 ≤ τ_61.2.1 53 j ∧ τ_61.2.1 53 j ≤ 1 := fun j => hT.2 53 j
      have A54 : ∀ j, (-1) ≤ τ_61.2.1 54 j ∧ τ_61.2.1 54 j ≤ 999 := fun j => hT.2 54 j
      have A55 : ∀ j, (-1) ≤ τ_61.2.1 55 j ∧ τ_61.2.1 55 j ≤ 1499 := fun j => hT.2 55 j
      have v0 : 0 ≤ τ_61.1 0 ∧ τ_61.1 0 ≤ 60000 := hT.1 0
      have v1 : 0 ≤ τ_61.1 1 ∧ τ_61.1 1 ≤ 1 := hT.1 1
      have v2 : 0 ≤ τ_61.1 2 ∧ τ_61.1 2 ≤ 30000 := hT.1 2
      have v3 : 0 ≤ τ_61.1 3 ∧ τ_61.1 3 ≤ 1000 := hT.1 3
      have v4 : 0 ≤ τ_61.1 4 ∧ τ_61.1 4 ≤ 100 := hT.1 4
      have v5 : 0 ≤ τ_61.1 5 ∧ τ_61.1 5 ≤ 1500 := hT.1 5
      have v6 : 0 ≤ τ_61.1 6 ∧ τ_61.1 6 ≤ 30000 := hT.1 6
      have v7 : 0 ≤ τ_61.1 7 ∧ τ_61.1 7 ≤ 90000 := hT.1 7
      have v8 : 0 ≤ τ_61.1 8 ∧ τ_61.1 8 ≤ 20000 := hT.1 8
      have v9 : 0 ≤ τ_61.1 9 ∧ τ_61.1 9 ≤ 20000 := hT.1 9
      have v12 : 0 ≤ τ_61.1 12 ∧ τ_61.1 12 ≤ 1000 := hT.1 12
      have v13 : 0 ≤ τ_61.1 13 ∧ τ_61.1 13 ≤ 1500 := hT.1 13
      have v14 : 0 ≤ τ_61.1 14 ∧ τ_61.1 14 ≤ 1000 := hT.1 14
      have v15 : 0 ≤ τ_61.1 15 ∧ τ_61.1 15 ≤ 50 := hT.1 15
      have v16 : 0 ≤ τ_61.1 16 ∧ τ_61.1 16 ≤ 60000 := hT.1 16
      have v17 : 0 ≤ τ_61.1 17 ∧ τ_61.1 17 ≤ 60000 := hT.1 17
      have v18 : 0 ≤ τ_61.1 18 ∧ τ_61.1 18 ≤ 60000 := hT.1 18
      have v19 : (-1) ≤ τ_61.1 19 ∧ τ_61.1 19 ≤ 125 := hT.1 19
      have v20 : 0 ≤ τ_61.1 20 ∧ τ_61.1 20 ≤ 19 := hT.1 20
      have v38 : 0 ≤ τ_61.1 38 ∧ τ_61.1 38 ≤ 1500 := hT.1 38
      have v49 : 0 ≤ τ_61.1 49 ∧ τ_61.1 49 ≤ 1 := hT.1 49
      have av3 : σ.1 3 ≤ τ_61.1 3 := ag.1 3 (by decide)
      have av5 : σ.1 5 ≤ τ_61.1 5 := ag.1 5 (by decide)
      have av6 : σ.1 6 ≤ τ_61.1 6 := ag.1 6 (by decide)
      have av7 : σ.1 7 ≤ τ_61.1 7 := ag.1 7 (by decide)
      have av8 : σ.1 8 ≤ τ_61.1 8 := ag.1 8 (by decide)
      have av9 : σ.1 9 ≤ τ_61.1 9 := ag.1 9 (by decide)
      have zz0 := z_e ((τ_61.1 20))
      have zz1 := z_e ((τ_61.1 19))
      exfalso; (first | omega | (simp only [st_s] <;> omega) | assumption | omega)
    | succ m_61 ih_61 =>
      intro τ_61 hm_61 hT ag i61_1 i61_2 i61_3 i61_4 i61_5 i61_6 i61_7 i61_8 i61_9 i61_10 i61_11 i61_12 i61_13 i61_14 i61_15 i61_16 i61_17 i61_18
      have A6 : ∀ j, (-1) ≤ τ_61.2.1 6 j ∧ τ_61.2.1 6 j ≤ 999 := fun j => hT.2 6 j
      have A7 : ∀ j, (-1) ≤ τ_61.2.1 7 j ∧ τ_61.2.1 7 j ≤ 1499 := fun j => hT.2 7 j
      have A8 : ∀ j, 0 ≤ τ_61.2.1 8 j ∧ τ_61.2.1 8 j ≤ 1 := fun j => hT.2 8 j
      have A9 : ∀ j, 0 ≤ τ_61.2.1 9 j ∧ τ_61.2.1 9 j ≤ 1 := fun j => hT.2 9 j
      have A10 : ∀ j, (-1) ≤ τ_61.2.1 10 j ∧ τ_61.2.1 10 j ≤ 999 := fun j => hT.2 10 j
      have A11 : ∀ j, (-1) ≤ τ_61.2.1 11 j ∧ τ_61.2.1 11 j ≤ 1499 := fun j => hT.2 11 j
      have A12 : ∀ j, 0 ≤ τ_61.2.1 12 j ∧ τ_61.2.1 12 j ≤ 1 := fun j => hT.2 12 j
      have A14 : ∀ j, 0 ≤ τ_61.2.1 14 j ∧ τ_61.2.1 14 j ≤ 30000 := fun j => hT.2 14 j
      have A15 : ∀ j, 0 ≤ τ_61.2.1 15 j ∧ τ_61.2.1 15 j ≤ 300 := fun j => hT.2 15 j
      have A18 : ∀ j, 0 ≤ τ_61.2.1 18 j ∧ τ_61.2.1 18 j ≤ 90000 := fun j => hT.2 18 j
      have A19 : ∀ j, 0 ≤ τ_61.2.1 19 j ∧ τ_61.2.1 19 j ≤ 60 := fun j => hT.2 19 j
      have A21 : ∀ j, 0 ≤ τ_61.2.1 21 j ∧ τ_61.2.1 21 j ≤ 20000 := fun j => hT.2 21 j
      have A22 : ∀ j, 0 ≤ τ_61.2.1 22 j ∧ τ_61.2.1 22 j ≤ 20000 := fun j => hT.2 22 j
      have A25 : ∀ j, 0 ≤ τ_61.2.1 25 j ∧ τ_61.2.1 25 j ≤ 20000 := fun j => hT.2 25 j
      have A26 : ∀ j, 0 ≤ τ_61.2.1 26 j ∧ τ_61.2.1 26 j ≤ 20000 := fun j => hT.2 26 j
      have A28 : ∀ j, 0 ≤ τ_61.2.1 28 j ∧ τ_61.2.1 28 j ≤ 1 := fun j => hT.2 28 j
      have A51 : ∀ j, 0 ≤ τ_61.2.1 51 j ∧ τ_61.2.1 51 j ≤ 1 := fun j => hT.2 51 j
      have A52 : ∀ j, 0 ≤ τ_61.2.1 52 j ∧ τ_61.2.1 52 j ≤ 1 := fun j => hT.2 52 j
      have A53 : ∀ j, 0 ≤ τ_61.2.1 53 j ∧ τ_61.2.1 53 j ≤ 1 := fun j => hT.2 53 j
      have A54 : ∀ j, (-1) ≤ τ_61.2.1 54 j ∧ τ_61.2.1 54 j ≤ 999 := fun j => hT.2 54 j
      have A55 : ∀ j, (-1) ≤ τ_61.2.1 55 j ∧ τ_61.2.1 55 j ≤ 1499 := fun j => hT.2 55 j
      have v0 : 0 ≤ τ_61.1 0 ∧ τ_61.1 0 ≤ 60000 := hT.1 0
      have v1 : 0 ≤ τ_61.1 1 ∧ τ_61.1 1 ≤ 1 := hT.1 1
      have v2 : 0 ≤ τ_61.1 2 ∧ τ_61.1 2 ≤ 30000 := hT.1 2
      have v3 : 0 ≤ τ_61.1 3 ∧ τ_61.1 3 ≤ 1000 := hT.1 3
      have v4 : 0 ≤ τ_61.1 4 ∧ τ_61.1 4 ≤ 100 := hT.1 4
      have v5 : 0 ≤ τ_61.1 5 ∧ τ_61.1 5 ≤ 1500 := hT.1 5
      have v6 : 0 ≤ τ_61.1 6 ∧ τ_61.1 6 ≤ 30000 := hT.1 6
      have v7 : 0 ≤ τ_61.1 7 ∧ τ_61.1 7 ≤ 90000 := hT.1 7
      have v8 : 0 ≤ τ_61.1 8 ∧ τ_61.1 8 ≤ 20000 := hT.1 8
      have v9 : 0 ≤ τ_61.1 9 ∧ τ_61.1 9 ≤ 20000 := hT.1 9
      have v12 : 0 ≤ τ_61.1 12 ∧ τ_61.1 12 ≤ 1000 := hT.1 12
      have v13 : 0 ≤ τ_61.1 13 ∧ τ_61.1 13 ≤ 1500 := hT.1 13
      have v14 : 0 ≤ τ_61.1 14 ∧ τ_61.1 14 ≤ 1000 := hT.1 14
      have v15 : 0 ≤ τ_61.1 15 ∧ τ_61.1 15 ≤ 50 := hT.1 15
      have v16 : 0 ≤ τ_61.1 16 ∧ τ_61.1 16 ≤ 60000 := hT.1 16
      have v17 : 0 ≤ τ_61.1 17 ∧ τ_61.1 17 ≤ 60000 := hT.1 17
      have v18 : 0 ≤ τ_61.1 18 ∧ τ_61.1 18 ≤ 60000 := hT.1 18
      have v19 : (-1) ≤ τ_61.1 19 ∧ τ_61.1 19 ≤ 125 := hT.1 19
      have v20 : 0 ≤ τ_61.1 20 ∧ τ_61.1 20 ≤ 19 := hT.1 20
      have v38 : 0 ≤ τ_61.1 38 ∧ τ_61.1 38 ≤ 1500 := hT.1 38
      have v49 : 0 ≤ τ_61.1 49 ∧ τ_61.1 49 ≤ 1 := hT.1 49
      have av3 : σ.1 3 ≤ τ_61.1 3 := ag.1 3 (by decide)
      have av5 : σ.1 5 ≤ τ_61.1 5 := ag.1 5 (by decide)
      have av6 : σ.1 6 ≤ τ_61.1 6 := ag.1 6 (by decide)
      have av7 : σ.1 7 ≤ τ_61.1 7 := ag.1 7 (by decide)
      have av8 : σ.1 8 ≤ τ_61.1 8 := ag.1 8 (by decide)
      have av9 : σ.1 9 ≤ τ_61.1 9 := ag.1 9 (by decide)
      have zy61_0 := z_e ((τ_61.1 20))
      have zy61_1 := z_e ((τ_61.1 19))
      have Y20 : ca (τ_61.2.1 12) ((τ_61.1 3)) ≤ (τ_61.1 4) := i61_6
      have Y8 : j_eq ((σ.1 9)) (σ.2.1 28) (τ_61.2.1 28) := i61_11
      have Y1 : j_l2 (τ_61.2.1 6) (τ_61.1 3) := i61_5
      have PA : J_pa (τ_61.2.1 21) (τ_61.2.1 22) := i61_7
      have W0_ : j_e0 (σ.1 3) (σ.2.1 8) (τ_61.2.1 51) := i61_14
      have W1_ : j_e0 (σ.1 3) (σ.2.1 9) (τ_61.2.1 52) := i61_15
      have W2_ : j_e0 (σ.1 3) (σ.2.1 12) (τ_61.2.1 53) := i61_16
      have W3_ : j_e0 (σ.1 3) (σ.2.1 10) (τ_61.2.1 54) := i61_17
      have W4_ : j_e0 (σ.1 3) (σ.2.1 11) (τ_61.2.1 55) := i61_18
      have SYt : oc (τ_61.2.1 6) ≤ (τ_61.1 3) := i61_3
      have AVt : (τ_61.1 12) ≤ ca (τ_61.2.1 9) (τ_61.1 3) := i61_4
      have STt : j_l2 (τ_61.2.1 6) (τ_61.1 3) := i61_5
      refine h61 (σ.1 3) (σ.1 5) (σ.1 2) (σ.1 12) (σ.1 13) (σ.1 14) τ_61 ?_
      refine ⟨fun c13 => ?_, fun c13 => ?_⟩
      ·
        refine h93 _ _ _ _ _ _ _ ?_
        refine ⟨fun c22 => ?_, fun c22 => ?_⟩
        ·
          refine h116 _ _ _ _ _ _ _ ?_
          refine ⟨fun c27 => ?_, fun c27 => ?_⟩
          ·
            refine h136 _ _ ?_
            replace ag := ag_v (i := 0) (x := 0) ag (Or.inl rfl)
            replace hT := mT_v (i := 0) hT (show (0 : Int) ≤ 0 ∧ 0 ≤ 60000 from by (first | omega | (simp only [st_s] <;> omega) | assumption | omega))
            replace ag := ag_v (i := 1) (x := 0) ag (Or.inl rfl)
            replace hT := mT_v (i := 1) hT (show (0 : Int) ≤ 0 ∧ 0 ≤ 1 from by (first | omega | (simp only [st_s] <;> omega) | assumption | omega))
            refine ⟨_, K_X13_forgetTrees hT (show 0 ≤ (σ.1 5) from by (first | omega | (simp only [st_s] <;> omega) | assumption | omega)) (show (σ.1 5) ≤ 1500 from by (first | omega | (simp only [st_s] <;> omega) | assumption | omega)), ?_⟩
            intro τ33 hn_τ33 hf_τ33 hq
            obtain ⟨hT, q31_1, q31_2⟩ := hq
            replace q31_1 : (τ33.1 38) = 0 := q31_1
            replace q31_2 : (τ33.1 49) = 0 := q31_2
            replace ag : m_ag σ τ33 := ag_r ag hf_τ33 rfl rfl
            have w0_τ33 : τ33.1 0 = 0 := hf_τ33.1 0 (by decide)
            have w1_τ33 : τ33.1 1 = 0 := hf_τ33.1 1 (by decide)
            have w2_τ33 : τ33.1 2 = τ_61.1 2 := hf_τ33.1 2 (by decide)
            have w3_τ33 : τ33.1 3 = τ_61.1 3 := hf_τ33.1 3 (by decide)
            have w4_τ33 : τ33.1 4 = τ_61.1 4 := hf_τ33.1 4 (by decide)
            have w5_τ33 : τ33.1 5 = τ_61.1 5 := hf_τ33.1 5 (by decide)
            have w6_τ33 : τ33.1 6 = τ_61.1 6 := hf_τ33.1 6 (by decide)
            have w7_τ33 : τ33.1 7 = τ_61.1 7 := hf_τ33.1 7 (by decide)
            have w8_τ33 : τ33.1 8 = τ_61.1 8 := hf_τ33.1 8 (by decide)
            have w9_τ33 : τ33.1 9 = τ_61.1 9 := hf_τ33.1 9 (by decide)
            have w12_τ33 : τ33.1 12 = τ_61.1 12 := hf_τ33.1 12 (by decide)
            have w13_τ33 : τ33.1 13 = τ_61.1 13 := hf_τ33.1 13 (by decide)
            have w14_τ33 : τ33.1 14 = τ_61.1 14 := hf_τ33.1 14 (by decide)
            have w15_τ33 : τ33.1 15 = τ_61.1 15 := hf_τ33.1 15 (by decide)
            have w16_τ33 : τ33.1 16 = τ_61.1 16 := hf_τ33.1 16 (by decide)
            have w17_τ33 : τ33.1 17 = τ_61.1 17 := hf_τ33.1 17 (by decide)
            have w18_τ33 : τ33.1 18 = τ_61.1 18 := hf_τ33.1 18 (by decide)
            have w19_τ33 : τ33.1 19 = τ_61.1 19 := hf_τ33.1 19 (by decide)
            have w20_τ33 : τ33.1 20 = τ_61.1 20 := hf_τ33.1 20 (by decide)
            have g6_τ33 : τ33.2.1 6 = τ_61.2.1 6 := hf_τ33.2.1 6 (by decide)
            have g7_τ33 : τ33.2.1 7 = τ_61.2.1 7 := hf_τ33.2.1 7 (by decide)
            have g8_τ33 : τ33.2.1 8 = τ_61.2.1 8 := hf_τ33.2.1 8 (by decide)
            have g9_τ33 : τ33.2.1 9 = τ_61.2.1 9 := hf_τ33.2.1 9 (by decide)
            have g10_τ33 : τ33.2.1 10 = τ_61.2.1 10 := hf_τ33.2.1 10 (by decide)
            have g11_τ33 : τ33.2.1 11 = τ_61.2.1 11 := hf_τ33.2.1 11 (by decide)
            have g12_τ33 : τ33.2.1 12 = τ_61.2.1 12 := hf_τ33.2.1 12 (by decide)
            have g14_τ33 : τ33.2.1 14 = τ_61.2.1 14 := hf_τ33.2.1 14 (by decide)
            have g15_τ33 : τ33.2.1 15 = τ_61.2.1 15 := hf_τ33.2.1 15 (by decide)
            have g18_τ33 : τ33.2.1 18 = τ_61.2.1 18 := hf_τ33.2.1 18 (by decide)
            have g19_τ33 : τ33.2.1 19 = τ_61.2.1 19 := hf_τ33.2.1 19 (by decide)
            have g21_τ33 : τ33.2.1 21 = τ_61.2.1 21 := hf_τ33.2.1 21 (by decide)
            have g22_τ33 : τ33.2.1 22 = τ_61.2.1 22 := hf_τ33.2.1 22 (by decide)
            have g25_τ33 : τ33.2.1 25 = τ_61.2.1 25 := hf_τ33.2.1 25 (by decide)
            have g26_τ33 : τ33.2.1 26 = τ_61.2.1 26 := hf_τ33.2.1 26 (by decide)
            have g28_τ33 : τ33.2.1 28 = τ_61.2.1 28 := hf_τ33.2.1 28 (by decide)
            have g51_τ33 : τ33.2.1 51 = τ_61.2.1 51 := hf_τ33.2.1 51 (by decide)
            have g52_τ33 : τ33.2.1 52 = τ_61.2.1 52 := hf_τ33.2.1 52 (by decide)
            have g53_τ33 : τ33.2.1 53 = τ_61.2.1 53 := hf_τ33.2.1 53 (by decide)
            have g54_τ33 : τ33.2.1 54 = τ_61.2.1 54 := hf_τ33.2.1 54 (by decide)
            have g55_τ33 : τ33.2.1 55 = τ_61.2.1 55 := hf_τ33.2.1 55 (by decide)
            first | (have ca_τ33 := congr (congrArg ca g9_τ33) w3_τ33) | skip
            first | (have o6_τ33 := congrArg oc g6_τ33) | skip
            first | (have o7_τ33 := congrArg oc g7_τ33) | skip
            have Y20 : ca (τ33.2.1 12) ((τ33.1 3)) ≤ (τ33.1 4) := by rw [show (ca (τ33.2.1 12) ((τ33.1 3)) ≤ (τ33.1 4)) = (ca (τ_61.2.1 12) ((τ_61.1 3)) ≤ (τ_61.1 4)) from by rw [w3_τ33, w4_τ33, g12_τ33]]; exact Y20
            have Y8 : j_eq ((σ.1 9)) (σ.2.1 28) (τ33.2.1 28) := by rw [show (j_eq ((σ.1 9)) (σ.2.1 28) (τ33.2.1 28)) = (j_eq ((σ.1 9)) (σ.2.1 28) (τ_61.2.1 28)) from by rw [g28_τ33]]; exact Y8
            have Y1 : j_l2 (τ33.2.1 6) (τ33.1 3) := by rw [show (j_l2 (τ33.2.1 6) (τ33.1 3)) = (j_l2 (τ_61.2.1 6) (τ_61.1 3)) from by rw [w3_τ33, g6_τ33]]; exact Y1
            have PA : J_pa (τ33.2.1 21) (τ33.2.1 22) := by rw [show (J_pa (τ33.2.1 21) (τ33.2.1 22)) = (J_pa (τ_61.2.1 21) (τ_61.2.1 22)) from by rw [g21_τ33, g22_τ33]]; exact PA
            have W0_ : j_e0 (σ.1 3) (σ.2.1 8) (τ33.2.1 51) := by rw [show (j_e0 (σ.1 3) (σ.2.1 8) (τ33.2.1 51)) = (j_e0 (σ.1 3) (σ.2.1 8) (τ_61.2.1 51)) from by rw [g51_τ33]]; exact W0_
            have W1_ : j_e0 (σ.1 3) (σ.2.1 9) (τ33.2.1 52) := by rw [show (j_e0 (σ.1 3) (σ.2.1 9) (τ33.2.1 52)) = (j_e0 (σ.1 3) (σ.2.1 9) (τ_61.2.1 52)) from by rw [g52_τ33]]; exact W1_
            have W2_ : j_e0 (σ.1 3) (σ.2.1 12) (τ33.2.1 53) := by rw [show (j_e0 (σ.1 3) (σ.2.1 12) (τ33.2.1 53)) = (j_e0 (σ.1 3) (σ.2.1 12) (τ_61.2.1 53)) from by rw [g53_τ33]]; exact W2_
            have W3_ : j_e0 (σ.1 3) (σ.2.1 10) (τ33.2.1 54) := by rw [show (j_e0 (σ.1 3) (σ.2.1 10) (τ33.2.1 54)) = (j_e0 (σ.1 3) (σ.2.1 10) (τ_61.2.1 54)) from by rw [g54_τ33]]; exact W3_
            have W4_ : j_e0 (σ.1 3) (σ.2.1 11) (τ33.2.1 55) := by rw [show (j_e0 (σ.1 3) (σ.2.1 11) (τ33.2.1 55)) = (j_e0 (σ.1 3) (σ.2.1 11) (τ_61.2.1 55)) from by rw [g55_τ33]]; exact W4_
            have SYt : oc (τ33.2.1 6) ≤ (τ33.1 3) := by rw [show (oc (τ33.2.1 6) ≤ (τ33.1 3)) = (oc (τ_61.2.1 6) ≤ (τ_61.1 3)) from by rw [w3_τ33, g6_τ33]]; exact SYt
            have AVt : (τ33.1 12) ≤ ca (τ33.2.1 9) (τ33.1 3) := by rw [show ((τ33.1 12) ≤ ca (τ33.2.1 9) (τ33.1 3)) = ((τ_61.1 12) ≤ ca (τ_61.2.1 9) (τ_61.1 3)) from by rw [w3_τ33, w12_τ33, g9_τ33]]; exact AVt
            have STt : j_l2 (τ33.2.1 6) (τ33.1 3) := by rw [show (j_l2 (τ33.2.1 6) (τ33.1 3)) = (j_l2 (τ_61.2.1 6) (τ_61.1 3)) from by rw [w3_τ33, g6_τ33]]; exact STt
            have A6 : ∀ j, (-1) ≤ τ33.2.1 6 j ∧ τ33.2.1 6 j ≤ 999 := fun j => hT.2 6 j
            have A7 : ∀ j, (-1) ≤ τ33.2.1 7 j ∧ τ33.2.1 7 j ≤ 1499 := fun j => hT.2 7 j
            have A8 : ∀ j, 0 ≤ τ33.2.1 8 j ∧ τ33.2.1 8 j ≤ 1 := fun j => hT.2 8 j
            have A9 : ∀ j, 0 ≤ τ33.2.1 9 j ∧ τ33.2.1 9 j ≤ 1 := fun j => hT.2 9 j
            have A10 : ∀ j, (-1) ≤ τ33.2.1 10 j ∧ τ33.2.1 10 j ≤ 999 := fun j => hT.2 10 j
            have A11 : ∀ j, (-1) ≤ τ33.2.1 11 j ∧ τ33.2.1 11 j ≤ 1499 := fun j => hT.2 11 j
            have A12 : ∀ j, 0 ≤ τ33.2.1 12 j ∧ τ33.2.1 12 j ≤ 1 := fun j => hT.2 12 j
            have A14 : ∀ j, 0 ≤ τ33.2.1 14 j ∧ τ33.2.1 14 j ≤ 30000 := fun j => hT.2 14 j
            have A15 : ∀ j, 0 ≤ τ33.2.1 15 j ∧ τ33.2.1 15 j ≤ 300 := fun j => hT.2 15 j
            have A18 : ∀ j, 0 ≤ τ33.2.1 18 j ∧ τ33.2.1 18 j ≤ 90000 := fun j => hT.2 18 j
            have A19 : ∀ j, 0 ≤ τ33.2.1 19 j ∧ τ33.2.1 19 j ≤ 60 := fun j => hT.2 19 j
            have A21 : ∀ j, 0 ≤ τ33.2.1 21 j ∧ τ33.2.1 21 j ≤ 20000 := fun j => hT.2 21 j
            have A22 : ∀ j, 0 ≤ τ33.2.1 22 j ∧ τ33.2.1 22 j ≤ 20000 := fun j => hT.2 22 j
            have A25 : ∀ j, 0 ≤ τ33.2.1 25 j ∧ τ33.2.1 25 j ≤ 20000 := fun j => hT.2 25 j
            have A26 : ∀ j, 0 ≤ τ33.2.1 26 j ∧ τ33.2.1 26 j ≤ 20000 := fun j => hT.2 26 j
            have A28 : ∀ j, 0 ≤ τ33.2.1 28 j ∧ τ33.2.1 28 j ≤ 1 := fun j => hT.2 28 j
            have A51 : ∀ j, 0 ≤ τ33.2.1 51 j ∧ τ33.2.1 51 j ≤ 1 := fun j => hT.2 51 j
            have A52 : ∀ j, 0 ≤ τ33.2.1 52 j ∧ τ33.2.1 52 j ≤ 1 := fun j => hT.2 52 j
            have A53 : ∀ j, 0 ≤ τ33.2.1 53 j ∧ τ33.2.1 53 j ≤ 1 := fun j => hT.2 53 j
            have A54 : ∀ j, (-1) ≤ τ33.2.1 54 j ∧ τ33.2.1 54 j ≤ 999 := fun j => hT.2 54 j
            have A55 : ∀ j, (-1) ≤ τ33.2.1 55 j ∧ τ33.2.1 55 j ≤ 1499 := fun j => hT.2 55 j
            have v0 : 0 ≤ τ33.1 0 ∧ τ33.1 0 ≤ 60000 := hT.1 0
            have v1 : 0 ≤ τ33.1 1 ∧ τ33.1 1 ≤ 1 := hT.1 1
            have v2 : 0 ≤ τ33.1 2 ∧ τ33.1 2 ≤ 30000 := hT.1 2
            have v3 : 0 ≤ τ33.1 3 ∧ τ33.1 3 ≤ 1000 := hT.1 3
            have v4 : 0 ≤ τ33.1 4 ∧ τ33.1 4 ≤ 100 := hT.1 4
            have v5 : 0 ≤ τ33.1 5 ∧ τ33.1 5 ≤ 1500 := hT.1 5
            have v6 : 0 ≤ τ33.1 6 ∧ τ33.1 6 ≤ 30000 := hT.1 6
            have v7 : 0 ≤ τ33.1 7 ∧ τ33.1 7 ≤ 90000 := hT.1 7
            have v8 : 0 ≤ τ33.1 8 ∧ τ33.1 8 ≤ 20000 := hT.1 8
            have v9 : 0 ≤ τ33.1 9 ∧ τ33.1 9 ≤ 20000 := hT.1 9
            have v12 : 0 ≤ τ33.1 12 ∧ τ33.1 12 ≤ 1000 := hT.1 12
            have v13 : 0 ≤ τ33.1 13 ∧ τ33.1 13 ≤ 1500 := hT.1 13
            have v14 : 0 ≤ τ33.1 14 ∧ τ33.1 14 ≤ 1000 := hT.1 14
            have v15 : 0 ≤ τ33.1 15 ∧ τ33.1 15 ≤ 50 := hT.1 15
            have v16 : 0 ≤ τ33.1 16 ∧ τ33.1 16 ≤ 60000 := hT.1 16
            have v17 : 0 ≤ τ33.1 17 ∧ τ33.1 17 ≤ 60000 := hT.1 17
            have v18 : 0 ≤ τ33.1 18 ∧ τ33.1 18 ≤ 60000 := hT.1 18
            have v19 : (-1) ≤ τ33.1 19 ∧ τ33.1 19 ≤ 125 := hT.1 19
            have v20 : 0 ≤ τ33.1 20 ∧ τ33.1 20 ≤ 19 := hT.1 20
            have v38 : 0 ≤ τ33.1 38 ∧ τ33.1 38 ≤ 1500 := hT.1 38
            have v49 : 0 ≤ τ33.1 49 ∧ τ33.1 49 ≤ 1 := hT.1 49
            have av3 : σ.1 3 ≤ τ33.1 3 := ag.1 3 (by decide)
            have av5 : σ.1 5 ≤ τ33.1 5 := ag.1 5 (by decide)
            have av6 : σ.1 6 ≤ τ33.1 6 := ag.1 6 (by decide)
            have av7 : σ.1 7 ≤ τ33.1 7 := ag.1 7 (by decide)
            have av8 : σ.1 8 ≤ τ33.1 8 := ag.1 8 (by decide)
            have av9 : σ.1 9 ≤ τ33.1 9 := ag.1 9 (by decide)
            exact ⟨hT, (show oc (τ33.2.1 6) ≤ (τ33.1 3) from SYt), (show oc (τ33.2.1 7) ≤ (τ33.1 5) from by (first | omega | (simp only [st_s] <;> omega) | assumption | omega)), (show (τ33.1 12) ≤ ca (τ33.2.1 9) (τ33.1 3) from AVt), (show j_l2 (τ33.2.1 6) (τ33.1 3) from Y1), (show ca (τ33.2.1 12) ((τ33.1 3)) ≤ (τ33.1 4) from Y20), (show J_pa (τ33.2.1 21) (τ33.2.1 22) from PA), (show (τ33.1 7) ≤ 60 * (τ33.1 5) from by (first | omega | (simp only [st_s] <;> omega) | assumption | omega)), (show (τ33.1 13) ≤ (τ33.1 5) from by (first | omega | (simp only [st_s] <;> omega) | assumption | omega)), (show m_J τ33 from by (first | (exfalso; omega) | exact m_J_f (by exact i61_12 (by omega)) hf_τ33 rfl rfl | exact m_J_f (by exact (show m_J τ30 from m_J_b p9 agk hT0 Y8k (by omega) (u_of hf_τ30 [14, 15, 18, 19, 21, 22, 25, 26, 28] rfl) (by by_cases z : σ.1 5 = 0; exact Or.inl z; exact Or.inr ⟨by omega, by omega, by omega, by omega⟩))) hf_τ33 rfl rfl)), (show (τ33.1 0) = 0 from by (first | omega | (simp only [st_s] <;> omega) | assumption | omega)), (show (τ33.1 1) = 0 from by (first | omega | (simp only [st_s] <;> omega) | assumption | omega))⟩
          ·
            have hz : ¬ σ.1 5 = 0 → τ_61.2.1 14 (σ.1 5 - 1) + τ_61.2.1 15 (σ.1 5 - 1) ≤ 30000 ∧ τ_61.2.1 18 (σ.1 5 - 1) + τ_61.2.1 19 (σ.1 5 - 1) ≤ 60 * σ.1 5 ∧ τ_61.2.1 21 (σ.1 5 - 1) + τ_61.2.1 22 (σ.1 5 - 1) ≤ 20000 ∧ τ_61.2.1 25 (σ.1 5 - 1) + τ_61.2.1 26 (σ.1 5 - 1) ≤ 20000 := by intro z; obtain ⟨⟨a1, a2, a3, a4⟩, a5, a6, a7⟩ := p9 (σ.1 5 - 1) (by omega) (by omega); have e := fun (k : Nat) (hk : (k, 5, (0 : Int)) ∈ m_gT) => ag.2 (k, 5, 0) hk (σ.1 5 - 1) (by show σ.1 5 - 1 < σ.1 5 + 0; omega); have e14 : τ_61.2.1 14 (σ.1 5 - 1) = σ.2.1 14 (σ.1 5 - 1) := e 14 (by decide); have e15 : τ_61.2.1 15 (σ.1 5 - 1) = σ.2.1 15 (σ.1 5 - 1) := e 15 (by decide); have e18 : τ_61.2.1 18 (σ.1 5 - 1) = σ.2.1 18 (σ.1 5 - 1) := e 18 (by decide); have e19 : τ_61.2.1 19 (σ.1 5 - 1) = σ.2.1 19 (σ.1 5 - 1) := e 19 (by decide); have e21 : τ_61.2.1 21 (σ.1 5 - 1) = σ.2.1 21 (σ.1 5 - 1) := e 21 (by decide); have e22 : τ_61.2.1 22 (σ.1 5 - 1) = σ.2.1 22 (σ.1 5 - 1) := e 22 (by decide); have e25 : τ_61.2.1 25 (σ.1 5 - 1) = σ.2.1 25 (σ.1 5 - 1) := e 25 (by decide); have e26 : τ_61.2.1 26 (σ.1 5 - 1) = σ.2.1 26 (σ.1 5 - 1) := e 26 (by decide); refine ⟨?_, ?_, ?_, ?_⟩ <;> omega
            have Y8k := Y8
            have agk := ag
            refine ⟨_, K_X13_forgetText hT (show 0 ≤ (σ.1 3) from by (first | omega | (simp only [st_s] <;> omega) | assumption | omega)) (show (σ.1 3) ≤ 1000 from by (first | omega | (simp only [st_s] <;> omega) | assumption | omega)) (show 0 ≤ (σ.1 5) from by (first | omega | (simp only [st_s] <;> omega) | assumption | omega)) (show (σ.1 5) ≤ 1500 from by (first | omega | (simp only [st_s] <;> omega) | assumption | omega)) (show 0 ≤ (σ.1 2) from by (first | omega | (simp only [st_s] <;> omega) | assumption | omega)) (show (σ.1 2) ≤ 30000 from by (first | omega | (simp only [st_s] <;> omega) | assumption | omega)) (show 0 ≤ (σ.1 12) from by (first | omega | (simp only [st_s] <;> omega) | assumption | omega)) (show 0 ≤ (σ.1 13) from by (first | omega | (simp only [st_s] <;> omega) | assumption | omega)) (show (σ.1 13) ≤ (σ.1 5) from by (first | omega | (simp only [st_s] <;> omega) | assumption | omega)) (show 0 ≤ (σ.1 14) from by (first | omega | (simp only [st_s] <;> omega) | assumption | omega)) (show (τ_61.1 12) ≤ ca (τ_61.2.1 9) (τ_61.1 3) from AVt) (show ca (τ_61.2.1 53) (σ.1 3) ≤ 100 from by (rw [ca_e0 W2_ (Int.le_refl _)]; omega)) (show (σ.1 12) ≤ ca (τ_61.2.1 52) (σ.1 3) from by (rw [ca_e0 W1_ (Int.le_refl _)]; omega)) (show ¬ (σ.1 5) = 0 → τ_61.2.1 14 ((σ.1 5) - 1) + τ_61.2.1 15 ((σ.1 5) - 1) ≤ 30000 ∧ τ_61.2.1 18 ((σ.1 5) - 1) + τ_61.2.1 19 ((σ.1 5) - 1) ≤ 60 * (σ.1 5) ∧ τ_61.2.1 21 ((σ.1 5) - 1) + τ_61.2.1 22 ((σ.1 5) - 1) ≤ 20000 ∧ τ_61.2.1 25 ((σ.1 5) - 1) + τ_61.2.1 26 ((σ.1 5) - 1) ≤ 20000 from by exact hz), ?_⟩
            intro τ30 hn_τ30 hf_τ30 hq
            obtain ⟨hT, q28_1, q28_2, q28_3, q28_4, q28_5, q28_6, q28_7, q28_8, q28_9, q28_10, q28_11, q28_12, q28_13⟩ := hq
            replace q28_1 : (τ30.1 3) = (σ.1 3) := q28_1
            replace q28_2 : (τ30.1 5) = (σ.1 5) := q28_2
            replace q28_3 : oc (τ30.2.1 6) ≤ (τ30.1 3) := q28_3
            replace q28_4 : oc (τ30.2.1 7) ≤ (τ30.1 5) := q28_4
            replace q28_5 : (τ30.1 12) ≤ ca (τ30.2.1 9) (τ30.1 3) := q28_5
            replace q28_6 : j_l2 (τ30.2.1 6) (τ30.1 3) := q28_6
            replace q28_7 : ca (τ30.2.1 12) ((τ30.1 3)) ≤ (τ30.1 4) := q28_7
            replace q28_8 : (τ30.1 13) ≤ (τ30.1 5) := q28_8
            replace q28_9 : (τ30.1 7) ≤ 60 * (τ30.1 5) := q28_9
            replace q28_10 : ((σ.1 5) = 0 ∨ (τ30.1 6) = τ_61.2.1 14 ((σ.1 5) - 1) + τ_61.2.1 15 ((σ.1 5) - 1)) := q28_10
            replace q28_11 : ((σ.1 5) = 0 ∨ (τ30.1 7) = τ_61.2.1 18 ((σ.1 5) - 1) + τ_61.2.1 19 ((σ.1 5) - 1)) ∧ (τ30.1 7) ≤ 60 * (σ.1 5) := q28_11
            replace q28_12 : ((σ.1 5) = 0 ∨ (τ30.1 8) = τ_61.2.1 21 ((σ.1 5) - 1) + τ_61.2.1 22 ((σ.1 5) - 1)) := q28_12
            replace q28_13 : ((σ.1 5) = 0 ∨ (τ30.1 9) = τ_61.2.1 25 ((σ.1 5) - 1) + τ_61.2.1 26 ((σ.1 5) - 1)) := q28_13
            have w0_τ30 : τ30.1 0 = τ_61.1 0 := hf_τ30.1 0 (by decide)
            have w1_τ30 : τ30.1 1 = τ_61.1 1 := hf_τ30.1 1 (by decide)
            have w15_τ30 : τ30.1 15 = τ_61.1 15 := hf_τ30.1 15 (by decide)
            have w16_τ30 : τ30.1 16 = τ_61.1 16 := hf_τ30.1 16 (by decide)
            have w17_τ30 : τ30.1 17 = τ_61.1 17 := hf_τ30.1 17 (by decide)
            have w18_τ30 : τ30.1 18 = τ_61.1 18 := hf_τ30.1 18 (by decide)
            have w19_τ30 : τ30.1 19 = τ_61.1 19 := hf_τ30.1 19 (by decide)
            have w20_τ30 : τ30.1 20 = τ_61.1 20 := hf_τ30.1 20 (by decide)
            have w38_τ30 : τ30.1 38 = τ_61.1 38 := hf_τ30.1 38 (by decide)
            have w49_τ30 : τ30.1 49 = τ_61.1 49 := hf_τ30.1 49 (by decide)
            have g14_τ30 : τ30.2.1 14 = τ_61.2.1 14 := hf_τ30.2.1 14 (by decide)
            have g15_τ30 : τ30.2.1 15 = τ_61.2.1 15 := hf_τ30.2.1 15 (by decide)
            have g18_τ30 : τ30.2.1 18 = τ_61.2.1 18 := hf_τ30.2.1 18 (by decide)
            have g19_τ30 : τ30.2.1 19 = τ_61.2.1 19 := hf_τ30.2.1 19 (by decide)
            have g21_τ30 : τ30.2.1 21 = τ_61.2.1 21 := hf_τ30.2.1 21 (by decide)
            have g22_τ30 : τ30.2.1 22 = τ_61.2.1 22 := hf_τ30.2.1 22 (by decide)
            have g25_τ30 : τ30.2.1 25 = τ_61.2.1 25 := hf_τ30.2.1 25 (by decide)
            have g26_τ30 : τ30.2.1 26 = τ_61.2.1 26 := hf_τ30.2.1 26 (by decide)
            have g28_τ30 : τ30.2.1 28 = τ_61.2.1 28 := hf_τ30.2.1 28 (by decide)
            have g51_τ30 : τ30.2.1 51 = τ_61.2.1 51 := hf_τ30.2.1 51 (by decide)
            have g52_τ30 : τ30.2.1 52 = τ_61.2.1 52 := hf_τ30.2.1 52 (by decide)
            have g53_τ30 : τ30.2.1 53 = τ_61.2.1 53 := hf_τ30.2.1 53 (by decide)
            have g54_τ30 : τ30.2.1 54 = τ_61.2.1 54 := hf_τ30.2.1 54 (by decide)
            have g55_τ30 : τ30.2.1 55 = τ_61.2.1 55 := hf_τ30.2.1 55 (by decide)
            first | (have ca_τ30 := congr (congrArg ca g9_τ30) w3_τ30) | skip
            first | (have o6_τ30 := congrArg oc g6_τ30) | skip
            first | (have o7_τ30 := congrArg oc g7_τ30) | skip
            have Y20 : ca (τ30.2.1 12) ((τ30.1 3)) ≤ (τ30.1 4) := q28_7
            have Y8 : j_eq ((σ.1 9)) (σ.2.1 28) (τ30.2.1 28) := by rw [show (j_eq ((σ.1 9)) (σ.2.1 28) (τ30.2.1 28)) = (j_eq ((σ.1 9)) (σ.2.1 28) (τ_61.2.1 28)) from by rw [g28_τ30]]; exact Y8
            have Y1 : j_l2 (τ30.2.1 6) (τ30.1 3) := q28_6
            have PA : J_pa (τ30.2.1 21) (τ30.2.1 22) := by rw [show (J_pa (τ30.2.1 21) (τ30.2.1 22)) = (J_pa (τ_61.2.1 21) (τ_61.2.1 22)) from by rw [g21_τ30, g22_τ30]]; exact PA
            have W0_ : j_e0 (σ.1 3) (σ.2.1 8) (τ30.2.1 51) := by rw [show (j_e0 (σ.1 3) (σ.2.1 8) (τ30.2.1 51)) = (j_e0 (σ.1 3) (σ.2.1 8) (τ_61.2.1 51)) from by rw [g51_τ30]]; exact W0_
            have W1_ : j_e0 (σ.1 3) (σ.2.1 9) (τ30.2.1 52) := by rw [show (j_e0 (σ.1 3) (σ.2.1 9) (τ30.2.1 52)) = (j_e0 (σ.1 3) (σ.2.1 9) (τ_61.2.1 52)) from by rw [g52_τ30]]; exact W1_
            have W2_ : j_e0 (σ.1 3) (σ.2.1 12) (τ30.2.1 53) := by rw [show (j_e0 (σ.1 3) (σ.2.1 12) (τ30.2.1 53)) = (j_e0 (σ.1 3) (σ.2.1 12) (τ_61.2.1 53)) from by rw [g53_τ30]]; exact W2_
            have W3_ : j_e0 (σ.1 3) (σ.2.1 10) (τ30.2.1 54) := by rw [show (j_e0 (σ.1 3) (σ.2.1 10) (τ30.2.1 54)) = (j_e0 (σ.1 3) (σ.2.1 10) (τ_61.2.1 54)) from by rw [g54_τ30]]; exact W3_
            have W4_ : j_e0 (σ.1 3) (σ.2.1 11) (τ30.2.1 55) := by rw [show (j_e0 (σ.1 3) (σ.2.1 11) (τ30.2.1 55)) = (j_e0 (σ.1 3) (σ.2.1 11) (τ_61.2.1 55)) from by rw [g55_τ30]]; exact W4_
            have SYt : oc (τ30.2.1 6) ≤ (τ30.1 3) := q28_3
            have LAt : oc (τ30.2.1 7) ≤ (τ30.1 5) := q28_4
            have AVt : (τ30.1 12) ≤ ca (τ30.2.1 9) (τ30.1 3) := q28_5
            have STt : j_l2 (τ30.2.1 6) (τ30.1 3) := q28_6
            have A6 : ∀ j, (-1) ≤ τ30.2.1 6 j ∧ τ30.2.1 6 j ≤ 999 := fun j => hT.2 6 j
            have A7 : ∀ j, (-1) ≤ τ30.2.1 7 j ∧ τ30.2.1 7 j ≤ 1499 := fun j => hT.2 7 j
            have A8 : ∀ j, 0 ≤ τ30.2.1 8 j ∧ τ30.2.1 8 j ≤ 1 := fun j => hT.2 8 j
            have A9 : ∀ j, 0 ≤ τ30.2.1 9 j ∧ τ30.2.1 9 j ≤ 1 := fun j => hT.2 9 j
            have A10 : ∀ j, (-1) ≤ τ30.2.1 10 j ∧ τ30.2.1 10 j ≤ 999 := fun j => hT.2 10 j
            have A11 : ∀ j, (-1) ≤ τ30.2.1 11 j ∧ τ30.2.1 11 j ≤ 1499 := fun j => hT.2 11 j
            have A12 : ∀ j, 0 ≤ τ30.2.1 12 j ∧ τ30.2.1 12 j ≤ 1 := fun j => hT.2 12 j
            have A14 : ∀ j, 0 ≤ τ30.2.1 14 j ∧ τ30.2.1 14 j ≤ 30000 := fun j => hT.2 14 j
            have A15 : ∀ j, 0 ≤ τ30.2.1 15 j ∧ τ30.2.1 15 j ≤ 300 := fun j => hT.2 15 j
            have A18 : ∀ j, 0 ≤ τ30.2.1 18 j ∧ τ30.2.1 18 j ≤ 90000 := fun j => hT.2 18 j
            have A19 : ∀ j, 0 ≤ τ30.2.1 19 j ∧ τ30.2.1 19 j ≤ 60 := fun j => hT.2 19 j
            have A21 : ∀ j, 0 ≤ τ30.2.1 21 j ∧ τ30.2.1 21 j ≤ 20000 := fun j => hT.2 21 j
            have A22 : ∀ j, 0 ≤ τ30.2.1 22 j ∧ τ30.2.1 22 j ≤ 20000 := fun j => hT.2 22 j
            have A25 : ∀ j, 0 ≤ τ30.2.1 25 j ∧ τ30.2.1 25 j ≤ 20000 := fun j => hT.2 25 j
            have A26 : ∀ j, 0 ≤ τ30.2.1 26 j ∧ τ30.2.1 26 j ≤ 20000 := fun j => hT.2 26 j
            have A28 : ∀ j, 0 ≤ τ30.2.1 28 j ∧ τ30.2.1 28 j ≤ 1 := fun j => hT.2 28 j
            have A51 : ∀ j, 0 ≤ τ30.2.1 51 j ∧ τ30.2.1 51 j ≤ 1 := fun j => hT.2 51 j
            have A52 : ∀ j, 0 ≤ τ30.2.1 52 j ∧ τ30.2.1 52 j ≤ 1 := fun j => hT.2 52 j
            have A53 : ∀ j, 0 ≤ τ30.2.1 53 j ∧ τ30.2.1 53 j ≤ 1 := fun j => hT.2 53 j
            have A54 : ∀ j, (-1) ≤ τ30.2.1 54 j ∧ τ30.2.1 54 j ≤ 999 := fun j => hT.2 54 j
            have A55 : ∀ j, (-1) ≤ τ30.2.1 55 j ∧ τ30.2.1 55 j ≤ 1499 := fun j => hT.2 55 j
            have v0 : 0 ≤ τ30.1 0 ∧ τ30.1 0 ≤ 60000 := hT.1 0
            have v1 : 0 ≤ τ30.1 1 ∧ τ30.1 1 ≤ 1 := hT.1 1
            have v2 : 0 ≤ τ30.1 2 ∧ τ30.1 2 ≤ 30000 := hT.1 2
            have v3 : 0 ≤ τ30.1 3 ∧ τ30.1 3 ≤ 1000 := hT.1 3
            have v4 : 0 ≤ τ30.1 4 ∧ τ30.1 4 ≤ 100 := hT.1 4
            have v5 : 0 ≤ τ30.1 5 ∧ τ30.1 5 ≤ 1500 := hT.1 5
            have v6 : 0 ≤ τ30.1 6 ∧ τ30.1 6 ≤ 30000 := hT.1 6
            have v7 : 0 ≤ τ30.1 7 ∧ τ30.1 7 ≤ 90000 := hT.1 7
            have v8 : 0 ≤ τ30.1 8 ∧ τ30.1 8 ≤ 20000 := hT.1 8
            have v9 : 0 ≤ τ30.1 9 ∧ τ30.1 9 ≤ 20000 := hT.1 9
            have v12 : 0 ≤ τ30.1 12 ∧ τ30.1 12 ≤ 1000 := hT.1 12
            have v13 : 0 ≤ τ30.1 13 ∧ τ30.1 13 ≤ 1500 := hT.1 13
            have v14 : 0 ≤ τ30.1 14 ∧ τ30.1 14 ≤ 1000 := hT.1 14
            have v15 : 0 ≤ τ30.1 15 ∧ τ30.1 15 ≤ 50 := hT.1 15
            have v16 : 0 ≤ τ30.1 16 ∧ τ30.1 16 ≤ 60000 := hT.1 16
            have v17 : 0 ≤ τ30.1 17 ∧ τ30.1 17 ≤ 60000 := hT.1 17
            have v18 : 0 ≤ τ30.1 18 ∧ τ30.1 18 ≤ 60000 := hT.1 18
            have v19 : (-1) ≤ τ30.1 19 ∧ τ30.1 19 ≤ 125 := hT.1 19
            have v20 : 0 ≤ τ30.1 20 ∧ τ30.1 20 ≤ 19 := hT.1 20
            have v38 : 0 ≤ τ30.1 38 ∧ τ30.1 38 ≤ 1500 := hT.1 38
            have v49 : 0 ≤ τ30.1 49 ∧ τ30.1 49 ≤ 1 := hT.1 49
            refine h136 _ _ ?_
            replace hT := mT_v (i := 0) hT (show (0 : Int) ≤ 0 ∧ 0 ≤ 60000 from by (first | omega | (simp only [st_s] <;> omega) | assumption | omega))
            replace hT := mT_v (i := 1) hT (show (0 : Int) ≤ 0 ∧ 0 ≤ 1 from by (first | omega | (simp only [st_s] <;> omega) | assumption | omega))
            refine ⟨_, K_X13_forgetTrees hT (show 0 ≤ (σ.1 5) from by (first | omega | (simp only [st_s] <;> omega) | assumption | omega)) (show (σ.1 5) ≤ 1500 from by (first | omega | (simp only [st_s] <;> omega) | assumption | omega)), ?_⟩
            intro τ33 hn_τ33 hf_τ33 hq
            obtain ⟨hT, q31_1, q31_2⟩ := hq
            replace q31_1 : (τ33.1 38) = 0 := q31_1
            replace q31_2 : (τ33.1 49) = 0 := q31_2
            have w0_τ33 : τ33.1 0 = 0 := hf_τ33.1 0 (by decide)
            have w1_τ33 : τ33.1 1 = 0 := hf_τ33.1 1 (by decide)
            have w2_τ33 : τ33.1 2 = τ30.1 2 := hf_τ33.1 2 (by decide)
            have w3_τ33 : τ33.1 3 = τ30.1 3 := hf_τ33.1 3 (by decide)
            have w4_τ33 : τ33.1 4 = τ30.1 4 := hf_τ33.1 4 (by decide)
            have w5_τ33 : τ33.1 5 = τ30.1 5 := hf_τ33.1 5 (by decide)
            have w6_τ33 : τ33.1 6 = τ30.1 6 := hf_τ33.1 6 (by decide)
            have w7_τ33 : τ33.1 7 = τ30.1 7 := hf_τ33.1 7 (by decide)
            have w8_τ33 : τ33.1 8 = τ30.1 8 := hf_τ33.1 8 (by decide)
            have w9_τ33 : τ33.1 9 = τ30.1 9 := hf_τ33.1 9 (by decide)
            have w12_τ33 : τ33.1 12 = τ30.1 12 := hf_τ33.1 12 (by decide)
            have w13_τ33 : τ33.1 13 = τ30.1 13 := hf_τ33.1 13 (by decide)
            have w14_τ33 : τ33.1 14 = τ30.1 14 := hf_τ33.1 14 (by decide)
            have w15_τ33 : τ33.1 15 = τ30.1 15 := hf_τ33.1 15 (by decide)
            have w16_τ33 : τ33.1 16 = τ30.1 16 := hf_τ33.1 16 (by decide)
            have w17_τ33 : τ33.1 17 = τ30.1 17 := hf_τ33.1 17 (by decide)
            have w18_τ33 : τ33.1 18 = τ30.1 18 := hf_τ33.1 18 (by decide)
            have w19_τ33 : τ33.1 19 = τ30.1 19 := hf_τ33.1 19 (by decide)
            have w20_τ33 : τ33.1 20 = τ30.1 20 := hf_τ33.1 20 (by decide)
            have g6_τ33 : τ33.2.1 6 = τ30.2.1 6 := hf_τ33.2.1 6 (by decide)
            have g7_τ33 : τ33.2.1 7 = τ30.2.1 7 := hf_τ33.2.1 7 (by decide)
            have g8_τ33 : τ33.2.1 8 = τ30.2.1 8 := hf_τ33.2.1 8 (by decide)
            have g9_τ33 : τ33.2.1 9 = τ30.2.1 9 := hf_τ33.2.1 9 (by decide)
            have g10_τ33 : τ33.2.1 10 = τ30.2.1 10 := hf_τ33.2.1 10 (by decide)
            have g11_τ33 : τ33.2.1 11 = τ30.2.1 11 := hf_τ33.2.1 11 (by decide)
            have g12_τ33 : τ33.2.1 12 = τ30.2.1 12 := hf_τ33.2.1 12 (by decide)
            have g14_τ33 : τ33.2.1 14 = τ30.2.1 14 := hf_τ33.2.1 14 (by decide)
            have g15_τ33 : τ33.2.1 15 = τ30.2.1 15 := hf_τ33.2.1 15 (by decide)
            have g18_τ33 : τ33.2.1 18 = τ30.2.1 18 := hf_τ33.2.1 18 (by decide)
            have g19_τ33 : τ33.2.1 19 = τ30.2.1 19 := hf_τ33.2.1 19 (by decide)
            have g21_τ33 : τ33.2.1 21 = τ30.2.1 21 := hf_τ33.2.1 21 (by decide)
            have g22_τ33 : τ33.2.1 22 = τ30.2.1 22 := hf_τ33.2.1 22 (by decide)
            have g25_τ33 : τ33.2.1 25 = τ30.2.1 25 := hf_τ33.2.1 25 (by decide)
            have g26_τ33 : τ33.2.1 26 = τ30.2.1 26 := hf_τ33.2.1 26 (by decide)
            have g28_τ33 : τ33.2.1 28 = τ30.2.1 28 := hf_τ33.2.1 28 (by decide)
            have g51_τ33 : τ33.2.1 51 = τ30.2.1 51 := hf_τ33.2.1 51 (by decide)
            have g52_τ33 : τ33.2.1 52 = τ30.2.1 52 := hf_τ33.2.1 52 (by decide)
            have g53_τ33 : τ33.2.1 53 = τ30.2.1 53 := hf_τ33.2.1 53 (by decide)
            have g54_τ33 : τ33.2.1 54 = τ30.2.1 54 := hf_τ33.2.1 54 (by decide)
            have g55_τ33 : τ33.2.1 55 = τ30.2.1 55 := hf_τ33.2.1 55 (by decide)
            first | (have ca_τ33 := congr (congrArg ca g9_τ33) w3_τ33) | skip
            first | (have o6_τ33 := congrArg oc g6_τ33) | skip
            first | (have o7_τ33 := congrArg oc g7_τ33) | skip
            have Y20 : ca (τ33.2.1 12) ((τ33.1 3)) ≤ (τ33.1 4) := by rw [show (ca (τ33.2.1 12) ((τ33.1 3)) ≤ (τ33.1 4)) = (ca (τ30.2.1 12) ((τ30.1 3)) ≤ (τ30.1 4)) from by rw [w3_τ33, w4_τ33, g12_τ33]]; exact Y20
            have Y8 : j_eq ((σ.1 9)) (σ.2.1 28) (τ33.2.1 28) := by rw [show (j_eq ((σ.1 9)) (σ.2.1 28) (τ33.2.1 28)) = (j_eq ((σ.1 9)) (σ.2.1 28) (τ30.2.1 28)) from by rw [g28_τ33]]; exact Y8
            have Y1 : j_l2 (τ33.2.1 6) (τ33.1 3) := by rw [show (j_l2 (τ33.2.1 6) (τ33.1 3)) = (j_l2 (τ30.2.1 6) (τ30.1 3)) from by rw [w3_τ33, g6_τ33]]; exact Y1
            have PA : J_pa (τ33.2.1 21) (τ33.2.1 22) := by rw [show (J_pa (τ33.2.1 21) (τ33.2.1 22)) = (J_pa (τ30.2.1 21) (τ30.2.1 22)) from by rw [g21_τ33, g22_τ33]]; exact PA
            have W0_ : j_e0 (σ.1 3) (σ.2.1 8) (τ33.2.1 51) := by rw [show (j_e0 (σ.1 3) (σ.2.1 8) (τ33.2.1 51)) = (j_e0 (σ.1 3) (σ.2.1 8) (τ30.2.1 51)) from by rw [g51_τ33]]; exact W0_
            have W1_ : j_e0 (σ.1 3) (σ.2.1 9) (τ33.2.1 52) := by rw [show (j_e0 (σ.1 3) (σ.2.1 9) (τ33.2.1 52)) = (j_e0 (σ.1 3) (σ.2.1 9) (τ30.2.1 52)) from by rw [g52_τ33]]; exact W1_
            have W2_ : j_e0 (σ.1 3) (σ.2.1 12) (τ33.2.1 53) := by rw [show (j_e0 (σ.1 3) (σ.2.1 12) (τ33.2.1 53)) = (j_e0 (σ.1 3) (σ.2.1 12) (τ30.2.1 53)) from by rw [g53_τ33]]; exact W2_
            have W3_ : j_e0 (σ.1 3) (σ.2.1 10) (τ33.2.1 54) := by rw [show (j_e0 (σ.1 3) (σ.2.1 10) (τ33.2.1 54)) = (j_e0 (σ.1 3) (σ.2.1 10) (τ30.2.1 54)) from by rw [g54_τ33]]; exact W3_
            have W4_ : j_e0 (σ.1 3) (σ.2.1 11) (τ33.2.1 55) := by rw [show (j_e0 (σ.1 3) (σ.2.1 11) (τ33.2.1 55)) = (j_e0 (σ.1 3) (σ.2.1 11) (τ30.2.1 55)) from by rw [g55_τ33]]; exact W4_
            have SYt : oc (τ33.2.1 6) ≤ (τ33.1 3) := by rw [show (oc (τ33.2.1 6) ≤ (τ33.1 3)) = (oc (τ30.2.1 6) ≤ (τ30.1 3)) from by rw [w3_τ33, g6_τ33]]; exact SYt
            have LAt : oc (τ33.2.1 7) ≤ (τ33.1 5) := by rw [show (oc (τ33.2.1 7) ≤ (τ33.1 5)) = (oc (τ30.2.1 7) ≤ (τ30.1 5)) from by rw [w5_τ33, g7_τ33]]; exact LAt
            have AVt : (τ33.1 12) ≤ ca (τ33.2.1 9) (τ33.1 3) := by rw [show ((τ33.1 12) ≤ ca (τ33.2.1 9) (τ33.1 3)) = ((τ30.1 12) ≤ ca (τ30.2.1 9) (τ30.1 3)) from by rw [w3_τ33, w12_τ33, g9_τ33]]; exact AVt
            have STt : j_l2 (τ33.2.1 6) (τ33.1 3) := by rw [show (j_l2 (τ33.2.1 6) (τ33.1 3)) = (j_l2 (τ30.2.1 6) (τ30.1 3)) from by rw [w3_τ33, g6_τ33]]; exact STt
            have A6 : ∀ j, (-1) ≤ τ33.2.1 6 j ∧ τ33.2.1 6 j ≤ 999 := fun j => hT.2 6 j
            have A7 : ∀ j, (-1) ≤ τ33.2.1 7 j ∧ τ33.2.1 7 j ≤ 1499 := fun j => hT.2 7 j
            have A8 : ∀ j, 0 ≤ τ33.2.1 8 j ∧ τ33.2.1 8 j ≤ 1 := fun j => hT.2 8 j
            have A9 : ∀ j, 0 ≤ τ33.2.1 9 j ∧ τ33.2.1 9 j ≤ 1 := fun j => hT.2 9 j
            have A10 : ∀ j, (-1) ≤ τ33.2.1 10 j ∧ τ33.2.1 10 j ≤ 999 := fun j => hT.2 10 j
            have A11 : ∀ j, (-1) ≤ τ33.2.1 11 j ∧ τ33.2.1 11 j ≤ 1499 := fun j => hT.2 11 j
            have A12 : ∀ j, 0 ≤ τ33.2.1 12 j ∧ τ33.2.1 12 j ≤ 1 := fun j => hT.2 12 j
            have A14 : ∀ j, 0 ≤ τ33.2.1 14 j ∧ τ33.2.1 14 j ≤ 30000 := fun j => hT.2 14 j
            have A15 : ∀ j, 0 ≤ τ33.2.1 15 j ∧ τ33.2.1 15 j ≤ 300 := fun j => hT.2 15 j
            have A18 : ∀ j, 0 ≤ τ33.2.1 18 j ∧ τ33.2.1 18 j ≤ 90000 := fun j => hT.2 18 j
            have A19 : ∀ j, 0 ≤ τ33.2.1 19 j ∧ τ33.2.1 19 j ≤ 60 := fun j => hT.2 19 j
            have A21 : ∀ j, 0 ≤ τ33.2.1 21 j ∧ τ33.2.1 21 j ≤ 20000 := fun j => hT.2 21 j
            have A22 : ∀ j, 0 ≤ τ33.2.1 22 j ∧ τ33.2.1 22 j ≤ 20000 := fun j => hT.2 22 j
            have A25 : ∀ j, 0 ≤ τ33.2.1 25 j ∧ τ33.2.1 25 j ≤ 20000 := fun j => hT.2 25 j
            have A26 : ∀ j, 0 ≤ τ33.2.1 26 j ∧ τ33.2.1 26 j ≤ 20000 := fun j => hT.2 26 j
            have A28 : ∀ j, 0 ≤ τ33.2.1 28 j ∧ τ33.2.1 28 j ≤ 1 := fun j => hT.2 28 j
            have A51 : ∀ j, 0 ≤ τ33.2.1 51 j ∧ τ33.2.1 51 j ≤ 1 := fun j => hT.2 51 j
            have A52 : ∀ j, 0 ≤ τ33.2.1 52 j ∧ τ33.2.1 52 j ≤ 1 := fun j => hT.2 52 j
            have A53 : ∀ j, 0 ≤ τ33.2.1 53 j ∧ τ33.2.1 53 j ≤ 1 := fun j => hT.2 53 j
            have A54 : ∀ j, (-1) ≤ τ33.2.1 54 j ∧ τ33.2.1 54 j ≤ 999 := fun j => hT.2 54 j
            have A55 : ∀ j, (-1) ≤ τ33.2.1 55 j ∧ τ33.2.1 55 j ≤ 1499 := fun j => hT.2 55 j
            have v0 : 0 ≤ τ33.1 0 ∧ τ33.1 0 ≤ 60000 := hT.1 0
            have v1 : 0 ≤ τ33.1 1 ∧ τ33.1 1 ≤ 1 := hT.1 1
            have v2 : 0 ≤ τ33.1 2 ∧ τ33.1 2 ≤ 30000 := hT.1 2
            have v3 : 0 ≤ τ33.1 3 ∧ τ33.1 3 ≤ 1000 := hT.1 3
            have v4 : 0 ≤ τ33.1 4 ∧ τ33.1 4 ≤ 100 := hT.1 4
            have v5 : 0 ≤ τ33.1 5 ∧ τ33.1 5 ≤ 1500 := hT.1 5
            have v6 : 0 ≤ τ33.1 6 ∧ τ33.1 6 ≤ 30000 := hT.1 6
            have v7 : 0 ≤ τ33.1 7 ∧ τ33.1 7 ≤ 90000 := hT.1 7
            have v8 : 0 ≤ τ33.1 8 ∧ τ33.1 8 ≤ 20000 := hT.1 8
            have v9 : 0 ≤ τ33.1 9 ∧ τ33.1 9 ≤ 20000 := hT.1 9
            have v12 : 0 ≤ τ33.1 12 ∧ τ33.1 12 ≤ 1000 := hT.1 12
            have v13 : 0 ≤ τ33.1 13 ∧ τ33.1 13 ≤ 1500 := hT.1 13
            have v14 : 0 ≤ τ33.1 14 ∧ τ33.1 14 ≤ 1000 := hT.1 14
            have v15 : 0 ≤ τ33.1 15 ∧ τ33.1 15 ≤ 50 := hT.1 15
            have v16 : 0 ≤ τ33.1 16 ∧ τ33.1 16 ≤ 60000 := hT.1 16
            have v17 : 0 ≤ τ33.1 17 ∧ τ33.1 17 ≤ 60000 := hT.1 17
            have v18 : 0 ≤ τ33.1 18 ∧ τ33.1 18 ≤ 60000 := hT.1 18
            have v19 : (-1) ≤ τ33.1 19 ∧ τ33.1 19 ≤ 125 := hT.1 19
            have v20 : 0 ≤ τ33.1 20 ∧ τ33.1 20 ≤ 19 := hT.1 20
            have v38 : 0 ≤ τ33.1 38 ∧ τ33.1 38 ≤ 1500 := hT.1 38
            have v49 : 0 ≤ τ33.1 49 ∧ τ33.1 49 ≤ 1 := hT.1 49
            exact ⟨hT, (show oc (τ33.2.1 6) ≤ (τ33.1 3) from SYt), (show oc (τ33.2.1 7) ≤ (τ33.1 5) from LAt), (show (τ33.1 12) ≤ ca (τ33.2.1 9) (τ33.1 3) from AVt), (show j_l2 (τ33.2.1 6) (τ33.1 3) from Y1), (show ca (τ33.2.1 12) ((τ33.1 3)) ≤ (τ33.1 4) from Y20), (show J_pa (τ33.2.1 21) (τ33.2.1 22) from PA), (show (τ33.1 7) ≤ 60 * (τ33.1 5) from by (first | omega | (simp only [st_s] <;> omega) | assumption | omega)), (show (τ33.1 13) ≤ (τ33.1 5) from by (first | omega | (simp only [st_s] <;> omega) | assumption | omega)), (show m_J τ33 from by (first | (exfalso; omega) | exact m_J_f (by exact i61_12 (by omega)) hf_τ33 rfl rfl | exact m_J_f (by exact (show m_J τ30 from m_J_b p9 agk hT0 Y8k (by omega) (u_of hf_τ30 [14, 15, 18, 19, 21, 22, 25, 26, 28] rfl) (by by_cases z : σ.1 5 = 0; exact Or.inl z; exact Or.inr ⟨by omega, by omega, by omega, by omega⟩))) hf_τ33 rfl rfl)), (show (τ33.1 0) = 0 from by (first | omega | (simp only [st_s] <;> omega) | assumption | omega)), (show (τ33.1 1) = 0 from by (first | omega | (simp only [st_s] <;> omega) | assumption | omega))⟩
        ·
          refine ⟨fun c23 => ?_, fun c23 => ?_⟩
          ·
            refine h116 _ _ _ _ _ _ _ ?_
            refine ⟨fun c27 => ?_, fun c27 => ?_⟩
            ·
              refine h136 _ _ ?_
              replace ag := ag_v (i := 0) (x := 0) ag (Or.inl rfl)
              replace hT := mT_v (i := 0) hT (show (0 : Int) ≤ 0 ∧ 0 ≤ 60000 from by (first | omega | (simp only [st_s] <;> omega) | assumption | omega))
              replace ag := ag_v (i := 1) (x := 0) ag (Or.inl rfl)
              replace hT := mT_v (i := 1) hT (show (0 : Int) ≤ 0 ∧ 0 ≤ 1 from by (first | omega | (simp only [st_s] <;> omega) | assumption | omega))
              refine ⟨_, K_X13_forgetTrees hT (show 0 ≤ (σ.1 5) from by (first | omega | (simp only [st_s] <;> omega) | assumption | omega)) (show (σ.1 5) ≤ 1500 from by (first | omega | (simp only [st_s] <;> omega) | assumption | omega)), ?_⟩
              intro τ33 hn_τ33 hf_τ33 hq
              obtain ⟨hT, q31_1, q31_2⟩ := hq
              replace q31_1 : (τ33.1 38) = 0 := q31_1
              replace q31_2 : (τ33.1 49) = 0 := q31_2
              replace ag : m_ag σ τ33 := ag_r ag hf_τ33 rfl rfl
              have w0_τ33 : τ33.1 0 = 0 := hf_τ33.1 0 (by decide)
              have w1_τ33 : τ33.1 1 = 0 := hf_τ33.1 1 (by decide)
              have w2_τ33 : τ33.1 2 = τ_61.1 2 := hf_τ33.1 2 (by decide)
              have w3_τ33 : τ33.1 3 = τ_61.1 3 := hf_τ33.1 3 (by decide)
              have w4_τ33 : τ33.1 4 = τ_61.1 4 := hf_τ33.1 4 (by decide)
              have w5_τ33 : τ33.1 5 = τ_61.1 5 := hf_τ33.1 5 (by decide)
              have w6_τ33 : τ33.1 6 = τ_61.1 6 := hf_τ33.1 6 (by decide)
              have w7_τ33 : τ33.1 7 = τ_61.1 7 := hf_τ33.1 7 (by decide)
              have w8_τ33 : τ33.1 8 = τ_61.1 8 := hf_τ33.1 8 (by decide)
              have w9_τ33 : τ33.1 9 = τ_61.1 9 := hf_τ33.1 9 (by decide)
              have w12_τ33 : τ33.1 12 = τ_61.1 12 := hf_τ33.1 12 (by decide)
              have w13_τ33 : τ33.1 13 = τ_61.1 13 := hf_τ33.1 13 (by decide)
              have w14_τ33 : τ33.1 14 = τ_61.1 14 := hf_τ33.1 14 (by decide)
              have w15_τ33 : τ33.1 15 = τ_61.1 15 := hf_τ33.1 15 (by decide)
              have w16_τ33 : τ33.1 16 = τ_61.1 16 := hf_τ33.1 16 (by decide)
              have w17_τ33 : τ33.1 17 = τ_61.1 17 := hf_τ33.1 17 (by decide)
              have w18_τ33 : τ33.1 18 = τ_61.1 18 := hf_τ33.1 18 (by decide)
              have w19_τ33 : τ33.1 19 = τ_61.1 19 := hf_τ33.1 19 (by decide)
              have w20_τ33 : τ33.1 20 = τ_61.1 20 := hf_τ33.1 20 (by decide)
              have g6_τ33 : τ33.2.1 6 = τ_61.2.1 6 := hf_τ33.2.1 6 (by decide)
              have g7_τ33 : τ33.2.1 7 = τ_61.2.1 7 := hf_τ33.2.1 7 (by decide)
              have g8_τ33 : τ33.2.1 8 = τ_61.2.1 8 := hf_τ33.2.1 8 (by decide)
              have g9_τ33 : τ33.2.1 9 = τ_61.2.1 9 := hf_τ33.2.1 9 (by decide)
              have g10_τ33 : τ33.2.1 10 = τ_61.2.1 10 := hf_τ33.2.1 10 (by decide)
              have g11_τ33 : τ33.2.1 11 = τ_61.2.1 11 := hf_τ33.2.1 11 (by decide)
              have g12_τ33 : τ33.2.1 12 = τ_61.2.1 12 := hf_τ33.2.1 12 (by decide)
              have g14_τ33 : τ33.2.1 14 = τ_61.2.1 14 := hf_τ33.2.1 14 (by decide)
              have g15_τ33 : τ33.2.1 15 = τ_61.2.1 15 := hf_τ33.2.1 15 (by decide)
              have g18_τ33 : τ33.2.1 18 = τ_61.2.1 18 := hf_τ33.2.1 18 (by decide)
              have g19_τ33 : τ33.2.1 19 = τ_61.2.1 19 := hf_τ33.2.1 19 (by decide)
              have g21_τ33 : τ33.2.1 21 = τ_61.2.1 21 := hf_τ33.2.1 21 (by decide)
              have g22_τ33 : τ33.2.1 22 = τ_61.2.1 22 := hf_τ33.2.1 22 (by decide)
              have g25_τ33 : τ33.2.1 25 = τ_61.2.1 25 := hf_τ33.2.1 25 (by decide)
              have g26_τ33 : τ33.2.1 26 = τ_61.2.1 26 := hf_τ33.2.1 26 (by decide)
              have g28_τ33 : τ33.2.1 28 = τ_61.2.1 28 := hf_τ33.2.1 28 (by decide)
              have g51_τ33 : τ33.2.1 51 = τ_61.2.1 51 := hf_τ33.2.1 51 (by decide)
              have g52_τ33 : τ33.2.1 52 = τ_61.2.1 52 := hf_τ33.2.1 52 (by decide)
              have g53_τ33 : τ33.2.1 53 = τ_61.2.1 53 := hf_τ33.2.1 53 (by decide)
              have g54_τ33 : τ33.2.1 54 = τ_61.2.1 54 := hf_τ33.2.1 54 (by decide)
              have g55_τ33 : τ33.2.1 55 = τ_61.2.1 55 := hf_τ33.2.1 55 (by decide)
              first | (have ca_τ33 := congr (congrArg ca g9_τ33) w3_τ33) | skip
              first | (have o6_τ33 := congrArg oc g6_τ33) | skip
              first | (have o7_τ33 := congrArg oc g7_τ33) | skip
              have Y20 : ca (τ33.2.1 12) ((τ33.1 3)) ≤ (τ33.1 4) := by rw [show (ca (τ33.2.1 12) ((τ33.1 3)) ≤ (τ33.1 4)) = (ca (τ_61.2.1 12) ((τ_61.1 3)) ≤ (τ_61.1 4)) from by rw [w3_τ33, w4_τ33, g12_τ33]]; exact Y20
              have Y8 : j_eq ((σ.1 9)) (σ.2.1 28) (τ33.2.1 28) := by rw [show (j_eq ((σ.1 9)) (σ.2.1 28) (τ33.2.1 28)) = (j_eq ((σ.1 9)) (σ.2.1 28) (τ_61.2.1 28)) from by rw [g28_τ33]]; exact Y8
              have Y1 : j_l2 (τ33.2.1 6) (τ33.1 3) := by rw [show (j_l2 (τ33.2.1 6) (τ33.1 3)) = (j_l2 (τ_61.2.1 6) (τ_61.1 3)) from by rw [w3_τ33, g6_τ33]]; exact Y1
              have PA : J_pa (τ33.2.1 21) (τ33.2.1 22) := by rw [show (J_pa (τ33.2.1 21) (τ33.2.1 22)) = (J_pa (τ_61.2.1 21) (τ_61.2.1 22)) from by rw [g21_τ33, g22_τ33]]; exact PA
              have W0_ : j_e0 (σ.1 3) (σ.2.1 8) (τ33.2.1 51) := by rw [show (j_e0 (σ.1 3) (σ.2.1 8) (τ33.2.1 51)) = (j_e0 (σ.1 3) (σ.2.1 8) (τ_61.2.1 51)) from by rw [g51_τ33]]; exact W0_
              have W1_ : j_e0 (σ.1 3) (σ.2.1 9) (τ33.2.1 52) := by rw [show (j_e0 (σ.1 3) (σ.2.1 9) (τ33.2.1 52)) = (j_e0 (σ.1 3) (σ.2.1 9) (τ_61.2.1 52)) from by rw [g52_τ33]]; exact W1_
              have W2_ : j_e0 (σ.1 3) (σ.2.1 12) (τ33.2.1 53) := by rw [show (j_e0 (σ.1 3) (σ.2.1 12) (τ33.2.1 53)) = (j_e0 (σ.1 3) (σ.2.1 12) (τ_61.2.1 53)) from by rw [g53_τ33]]; exact W2_
              have W3_ : j_e0 (σ.1 3) (σ.2.1 10) (τ33.2.1 54) := by rw [show (j_e0 (σ.1 3) (σ.2.1 10) (τ33.2.1 54)) = (j_e0 (σ.1 3) (σ.2.1 10) (τ_61.2.1 54)) from by rw [g54_τ33]]; exact W3_
              have W4_ : j_e0 (σ.1 3) (σ.2.1 11) (τ33.2.1 55) := by rw [show (j_e0 (σ.1 3) (σ.2.1 11) (τ33.2.1 55)) = (j_e0 (σ.1 3) (σ.2.1 11) (τ_61.2.1 55)) from by rw [g55_τ33]]; exact W4_
              have SYt : oc (τ33.2.1 6) ≤ (τ33.1 3) := by rw [show (oc (τ33.2.1 6) ≤ (τ33.1 3)) = (oc (τ_61.2.1 6) ≤ (τ_61.1 3)) from by rw [w3_τ33, g6_τ33]]; exact SYt
              have AVt : (τ33.1 12) ≤ ca (τ33.2.1 9) (τ33.1 3) := by rw [show ((τ33.1 12) ≤ ca (τ33.2.1 9) (τ33.1 3)) = ((τ_61.1 12) ≤ ca (τ_61.2.1 9) (τ_61.1 3)) from by rw [w3_τ33, w12_τ33, g9_τ33]]; exact AVt
              have STt : j_l2 (τ33.2.1 6) (τ33.1 3) := by rw [show (j_l2 (τ33.2.1 6) (τ33.1 3)) = (j_l2 (τ_61.2.1 6) (τ_61.1 3)) from by rw [w3_τ33, g6_τ33]]; exact STt
              have A6 : ∀ j, (-1) ≤ τ33.2.1 6 j ∧ τ33.2.1 6 j ≤ 999 := fun j => hT.2 6 j
              have A7 : ∀ j, (-1) ≤ τ33.2.1 7 j ∧ τ33.2.1 7 j ≤ 1499 := fun j => hT.2 7 j
              have A8 : ∀ j, 0 ≤ τ33.2.1 8 j ∧ τ33.2.1 8 j ≤ 1 := fun j => hT.2 8 j
              have A9 : ∀ j, 0 ≤ τ33.2.1 9 j ∧ τ33.2.1 9 j ≤ 1 := fun j => hT.2 9 j
              have A10 : ∀ j, (-1) ≤ τ33.2.1 10 j ∧ τ33.2.1 10 j ≤ 999 := fun j => hT.2 10 j
              have A11 : ∀ j, (-1) ≤ τ33.2.1 11 j ∧ τ33.2.1 11 j ≤ 1499 := fun j => hT.2 11 j
              have A12 : ∀ j, 0 ≤ τ33.2.1 12 j ∧ τ33.2.1 12 j ≤ 1 := fun j => hT.2 12 j
              have A14 : ∀ j, 0 ≤ τ33.2.1 14 j ∧ τ33.2.1 14 j ≤ 30000 := fun j => hT.2 14 j
              have A15 : ∀ j, 0 ≤ τ33.2.1 15 j ∧ τ33.2.1 15 j ≤ 300 := fun j => hT.2 15 j
              have A18 : ∀ j, 0 ≤ τ33.2.1 18 j ∧ τ33.2.1 18 j ≤ 90000 := fun j => hT.2 18 j
              have A19 : ∀ j, 0 ≤ τ33.2.1 19 j ∧ τ33.2.1 19 j ≤ 60 := fun j => hT.2 19 j
              have A21 : ∀ j, 0 ≤ τ33.2.1 21 j ∧ τ33.2.1 21 j ≤ 20000 := fun j => hT.2 21 j
              have A22 : ∀ j, 0 ≤ τ33.2.1 22 j ∧ τ33.2.1 22 j ≤ 20000 := fun j => hT.2 22 j
              have A25 : ∀ j, 0 ≤ τ33.2.1 25 j ∧ τ33.2.1 25 j ≤ 20000 := fun j => hT.2 25 j
              have A26 : ∀ j, 0 ≤ τ33.2.1 26 j ∧ τ33.2.1 26 j ≤ 20000 := fun j => hT.2 26 j
              have A28 : ∀ j, 0 ≤ τ33.2.1 28 j ∧ τ33.2.1 28 j ≤ 1 := fun j => hT.2 28 j
              have A51 : ∀ j, 0 ≤ τ33.2.1 51 j ∧ τ33.2.1 51 j ≤ 1 := fun j => hT.2 51 j
              have A52 : ∀ j, 0 ≤ τ33.2.1 52 j ∧ τ33.2.1 52 j ≤ 1 := fun j => hT.2 52 j
              have A53 : ∀ j, 0 ≤ τ33.2.1 53 j ∧ τ33.2.1 53 j ≤ 1 := fun j => hT.2 53 j
              have A54 : ∀ j, (-1) ≤ τ33.2.1 54 j ∧ τ33.2.1 54 j ≤ 999 := fun j => hT.2 54 j
              have A55 : ∀ j, (-1) ≤ τ33.2.1 55 j ∧ τ33.2.1 55 j ≤ 1499 := fun j => hT.2 55 j
              have v0 : 0 ≤ τ33.1 0 ∧ τ33.1 0 ≤ 60000 := hT.1 0
              have v1 : 0 ≤ τ33.1 1 ∧ τ33.1 1 ≤ 1 := hT.1 1
              have v2 : 0 ≤ τ33.1 2 ∧ τ33.1 2 ≤ 30000 := hT.1 2
              have v3 : 0 ≤ τ33.1 3 ∧ τ33.1 3 ≤ 1000 := hT.1 3
              have v4 : 0 ≤ τ33.1 4 ∧ τ33.1 4 ≤ 100 := hT.1 4
              have v5 : 0 ≤ τ33.1 5 ∧ τ33.1 5 ≤ 1500 := hT.1 5
              have v6 : 0 ≤ τ33.1 6 ∧ τ33.1 6 ≤ 30000 := hT.1 6
              have v7 : 0 ≤ τ33.1 7 ∧ τ33.1 7 ≤ 90000 := hT.1 7
              have v8 : 0 ≤ τ33.1 8 ∧ τ33.1 8 ≤ 20000 := hT.1 8
              have v9 : 0 ≤ τ33.1 9 ∧ τ33.1 9 ≤ 20000 := hT.1 9
              have v12 : 0 ≤ τ33.1 12 ∧ τ33.1 12 ≤ 1000 := hT.1 12
              have v13 : 0 ≤ τ33.1 13 ∧ τ33.1 13 ≤ 1500 := hT.1 13
              have v14 : 0 ≤ τ33.1 14 ∧ τ33.1 14 ≤ 1000 := hT.1 14
              have v15 : 0 ≤ τ33.1 15 ∧ τ33.1 15 ≤ 50 := hT.1 15
              have v16 : 0 ≤ τ33.1 16 ∧ τ33.1 16 ≤ 60000 := hT.1 16
              have v17 : 0 ≤ τ33.1 17 ∧ τ33.1 17 ≤ 60000 := hT.1 17
              have v18 : 0 ≤ τ33.1 18 ∧ τ33.1 18 ≤ 60000 := hT.1 18
              have v19 : (-1) ≤ τ33.1 19 ∧ τ33.1 19 ≤ 125 := hT.1 19
              have v20 : 0 ≤ τ33.1 20 ∧ τ33.1 20 ≤ 19 := hT.1 20
              have v38 : 0 ≤ τ33.1 38 ∧ τ33.1 38 ≤ 1500 := hT.1 38
              have v49 : 0 ≤ τ33.1 49 ∧ τ33.1 49 ≤ 1 := hT.1 49
              have av3 : σ.1 3 ≤ τ33.1 3 := ag.1 3 (by decide)
              have av5 : σ.1 5 ≤ τ33.1 5 := ag.1 5 (by decide)
              have av6 : σ.1 6 ≤ τ33.1 6 := ag.1 6 (by decide)
              have av7 : σ.1 7 ≤ τ33.1 7 := ag.1 7 (by decide)
              have av8 : σ.1 8 ≤ τ33.1 8 := ag.1 8 (by decide)
              have av9 : σ.1 9 ≤ τ33.1 9 := ag.1 9 (by decide)
              exact ⟨hT, (show oc (τ33.2.1 6) ≤ (τ33.1 3) from SYt), (show oc (τ33.2.1 7) ≤ (τ33.1 5) from by (first | omega | (simp only [st_s] <;> omega) | assumption | omega)), (show (τ33.1 12) ≤ ca (τ33.2.1 9) (τ33.1 3) from AVt), (show j_l2 (τ33.2.1 6) (τ33.1 3) from Y1), (show ca (τ33.2.1 12) ((τ33.1 3)) ≤ (τ33.1 4) from Y20), (show J_pa (τ33.2.1 21) (τ33.2.1 22) from PA), (show (τ33.1 7) ≤ 60 * (τ33.1 5) from by (first | omega | (simp only [st_s] <;> omega) | assumption | omega)), (show (τ33.1 13) ≤ (τ33.1 5) from by (first | omega | (simp only [st_s] <;> omega) | assumption | omega)), (show m_J τ33 from by (first | (exfalso; omega) | exact m_J_f (by exact i61_12 (by omega)) hf_τ33 rfl rfl | exact m_J_f (by exact (show m_J τ30 from m_J_b p9 agk hT0 Y8k (by omega) (u_of hf_τ30 [14, 15, 18, 19, 21, 22, 25, 26, 28] rfl) (by by_cases z : σ.1 5 = 0; exact Or.inl z; exact Or.inr ⟨by omega, by omega, by omega, by omega⟩))) hf_τ33 rfl rfl)), (show (τ33.1 0) = 0 from by (first | omega | (simp only [st_s] <;> omega) | assumption | omega)), (show (τ33.1 1) = 0 from by (first | omega | (simp only [st_s] <;> omega) | assumption | omega))⟩
            ·
              have hz : ¬ σ.1 5 = 0 → τ_61.2.1 14 (σ.1 5 - 1) + τ_61.2.1 15 (σ.1 5 - 1) ≤ 30000 ∧ τ_61.2.1 18 (σ.1 5 - 1) + τ_61.2.1 19 (σ.1 5 - 1) ≤ 60 * σ.1 5 ∧ τ_61.2.1 21 (σ.1 5 - 1) + τ_61.2.1 22 (σ.1 5 - 1) ≤ 20000 ∧ τ_61.2.1 25 (σ.1 5 - 1) + τ_61.2.1 26 (σ.1 5 - 1) ≤ 20000 := by intro z; obtain ⟨⟨a1, a2, a3, a4⟩, a5, a6, a7⟩ := p9 (σ.1 5 - 1) (by omega) (by omega); have e := fun (k : Nat) (hk : (k, 5, (0 : Int)) ∈ m_gT) => ag.2 (k, 5, 0) hk (σ.1 5 - 1) (by show σ.1 5 - 1 < σ.1 5 + 0; omega); have e14 : τ_61.2.1 14 (σ.1 5 - 1) = σ.2.1 14 (σ.1 5 - 1) := e 14 (by decide); have e15 : τ_61.2.1 15 (σ.1 5 - 1) = σ.2.1 15 (σ.1 5 - 1) := e 15 (by decide); have e18 : τ_61.2.1 18 (σ.1 5 - 1) = σ.2.1 18 (σ.1 5 - 1) := e 18 (by decide); have e19 : τ_61.2.1 19 (σ.1 5 - 1) = σ.2.1 19 (σ.1 5 - 1) := e 19 (by decide); have e21 : τ_61.2.1 21 (σ.1 5 - 1) = σ.2.1 21 (σ.1 5 - 1) := e 21 (by decide); have e22 : τ_61.2.1 22 (σ.1 5 - 1) = σ.2.1 22 (σ.1 5 - 1) := e 22 (by decide); have e25 : τ_61.2.1 25 (σ.1 5 - 1) = σ.2.1 25 (σ.1 5 - 1) := e 25 (by decide); have e26 : τ_61.2.1 26 (σ.1 5 - 1) = σ.2.1 26 (σ.1 5 - 1) := e 26 (by decide); refine ⟨?_, ?_, ?_, ?_⟩ <;> omega
              have Y8k := Y8
              have agk := ag
              refine ⟨_, K_X13_forgetText hT (show 0 ≤ (σ.1 3) from by (first | omega | (simp only [st_s] <;> omega) | assumption | omega)) (show (σ.1 3) ≤ 1000 from by (first | omega | (simp only [st_s] <;> omega) | assumption | omega)) (show 0 ≤ (σ.1 5) from by (first | omega | (simp only [st_s] <;> omega) | assumption | omega)) (show (σ.1 5) ≤ 1500 from by (first | omega | (simp only [st_s] <;> omega) | assumption | omega)) (show 0 ≤ (σ.1 2) from by (first | omega | (simp only [st_s] <;> omega) | assumption | omega)) (show (σ.1 2) ≤ 30000 from by (first | omega | (simp only [st_s] <;> omega) | assumption | omega)) (show 0 ≤ (σ.1 12) from by (first | omega | (simp only [st_s] <;> omega) | assumption | omega)) (show 0 ≤ (σ.1 13) from by (first | omega | (simp only [st_s] <;> omega) | assumption | omega)) (show (σ.1 13) ≤ (σ.1 5) from by (first | omega | (simp only [st_s] <;> omega) | assumption | omega)) (show 0 ≤ (σ.1 14) from by (first | omega | (simp only [st_s] <;> omega) | assumption | omega)) (show (τ_61.1 12) ≤ ca (τ_61.2.1 9) (τ_61.1 3) from AVt) (show ca (τ_61.2.1 53) (σ.1 3) ≤ 100 from by (rw [ca_e0 W2_ (Int.le_refl _)]; omega)) (show (σ.1 12) ≤ ca (τ_61.2.1 52) (σ.1 3) from by (rw [ca_e0 W1_ (Int.le_refl _)]; omega)) (show ¬ (σ.1 5) = 0 → τ_61.2.1 14 ((σ.1 5) - 1) + τ_61.2.1 15 ((σ.1 5) - 1) ≤ 30000 ∧ τ_61.2.1 18 ((σ.1 5) - 1) + τ_61.2.1 19 ((σ.1 5) - 1) ≤ 60 * (σ.1 5) ∧ τ_61.2.1 21 ((σ.1 5) - 1) + τ_61.2.1 22 ((σ.1 5) - 1) ≤ 20000 ∧ τ_61.2.1 25 ((σ.1 5) - 1) + τ_61.2.1 26 ((σ.1 5) - 1) ≤ 20000 from by exact hz), ?_⟩
              intro τ30 hn_τ30 hf_τ30 hq
              obtain ⟨hT, q28_1, q28_2, q28_3, q28_4, q28_5, q28_6, q28_7, q28_8, q28_9, q28_10, q28_11, q28_12, q28_13⟩ := hq
              replace q28_1 : (τ30.1 3) = (σ.1 3) := q28_1
              replace q28_2 : (τ30.1 5) = (σ.1 5) := q28_2
              replace q28_3 : oc (τ30.2.1 6) ≤ (τ30.1 3) := q28_3
              replace q28_4 : oc (τ30.2.1 7) ≤ (τ30.1 5) := q28_4
              replace q28_5 : (τ30.1 12) ≤ ca (τ30.2.1 9) (τ30.1 3) := q28_5
              replace q28_6 : j_l2 (τ30.2.1 6) (τ30.1 3) := q28_6
              replace q28_7 : ca (τ30.2.1 12) ((τ30.1 3)) ≤ (τ30.1 4) := q28_7
              replace q28_8 : (τ30.1 13) ≤ (τ30.1 5) := q28_8
              replace q28_9 : (τ30.1 7) ≤ 60 * (τ30.1 5) := q28_9
              replace q28_10 : ((σ.1 5) = 0 ∨ (τ30.1 6) = τ_61.2.1 14 ((σ.1 5) - 1) + τ_61.2.1 15 ((σ.1 5) - 1)) := q28_10
              replace q28_11 : ((σ.1 5) = 0 ∨ (τ30.1 7) = τ_61.2.1 18 ((σ.1 5) - 1) + τ_61.2.1 19 ((σ.1 5) - 1)) ∧ (τ30.1 7) ≤ 60 * (σ.1 5) := q28_11
              replace q28_12 : ((σ.1 5) = 0 ∨ (τ30.1 8) = τ_61.2.1 21 ((σ.1 5) - 1) + τ_61.2.1 22 ((σ.1 5) - 1)) := q28_12
              replace q28_13 : ((σ.1 5) = 0 ∨ (τ30.1 9) = τ_61.2.1 25 ((σ.1 5) - 1) + τ_61.2.1 26 ((σ.1 5) - 1)) := q28_13
              have w0_τ30 : τ30.1 0 = τ_61.1 0 := hf_τ30.1 0 (by decide)
              have w1_τ30 : τ30.1 1 = τ_61.1 1 := hf_τ30.1 1 (by decide)
              have w15_τ30 : τ30.1 15 = τ_61.1 15 := hf_τ30.1 15 (by decide)
              have w16_τ30 : τ30.1 16 = τ_61.1 16 := hf_τ30.1 16 (by decide)
              have w17_τ30 : τ30.1 17 = τ_61.1 17 := hf_τ30.1 17 (by decide)
              have w18_τ30 : τ30.1 18 = τ_61.1 18 := hf_τ30.1 18 (by decide)
              have w19_τ30 : τ30.1 19 = τ_61.1 19 := hf_τ30.1 19 (by decide)
              have w20_τ30 : τ30.1 20 = τ_61.1 20 := hf_τ30.1 20 (by decide)
              have w38_τ30 : τ30.1 38 = τ_61.1 38 := hf_τ30.1 38 (by decide)
              have w49_τ30 : τ30.1 49 = τ_61.1 49 := hf_τ30.1 49 (by decide)
              have g14_τ30 : τ30.2.1 14 = τ_61.2.1 14 := hf_τ30.2.1 14 (by decide)
              have g15_τ30 : τ30.2.1 15 = τ_61.2.1 15 := hf_τ30.2.1 15 (by decide)
              have g18_τ30 : τ30.2.1 18 = τ_61.2.1 18 := hf_τ30.2.1 18 (by decide)
              have g19_τ30 : τ30.2.1 19 = τ_61.2.1 19 := hf_τ30.2.1 19 (by decide)
              have g21_τ30 : τ30.2.1 21 = τ_61.2.1 21 := hf_τ30.2.1 21 (by decide)
              have g22_τ30 : τ30.2.1 22 = τ_61.2.1 22 := hf_τ30.2.1 22 (by decide)
              have g25_τ30 : τ30.2.1 25 = τ_61.2.1 25 := hf_τ30.2.1 25 (by decide)
              have g26_τ30 : τ30.2.1 26 = τ_61.2.1 26 := hf_τ30.2.1 26 (by decide)
              have g28_τ30 : τ30.2.1 28 = τ_61.2.1 28 := hf_τ30.2.1 28 (by decide)
              have g51_τ30 : τ30.2.1 51 = τ_61.2.1 51 := hf_τ30.2.1 51 (by decide)
              have g52_τ30 : τ30.2.1 52 = τ_61.2.1 52 := hf_τ30.2.1 52 (by decide)
              have g53_τ30 : τ30.2.1 53 = τ_61.2.1 53 := hf_τ30.2.1 53 (by decide)
              have g54_τ30 : τ30.2.1 54 = τ_61.2.1 54 := hf_τ30.2.1 54 (by decide)
              have g55_τ30 : τ30.2.1 55 = τ_61.2.1 55 := hf_τ30.2.1 55 (by decide)
              first | (have ca_τ30 := congr (congrArg ca g9_τ30) w3_τ30) | skip
              first | (have o6_τ30 := congrArg oc g6_τ30) | skip
              first | (have o7_τ30 := congrArg oc g7_τ30) | skip
              have Y20 : ca (τ30.2.1 12) ((τ30.1 3)) ≤ (τ30.1 4) := q28_7
              have Y8 : j_eq ((σ.1 9)) (σ.2.1 28) (τ30.2.1 28) := by rw [show (j_eq ((σ.1 9)) (σ.2.1 28) (τ30.2.1 28)) = (j_eq ((σ.1 9)) (σ.2.1 28) (τ_61.2.1 28)) from by rw [g28_τ30]]; exact Y8
              have Y1 : j_l2 (τ30.2.1 6) (τ30.1 3) := q28_6
              have PA : J_pa (τ30.2.1 21) (τ30.2.1 22) := by rw [show (J_pa (τ30.2.1 21) (τ30.2.1 22)) = (J_pa (τ_61.2.1 21) (τ_61.2.1 22)) from by rw [g21_τ30, g22_τ30]]; exact PA
              have W0_ : j_e0 (σ.1 3) (σ.2.1 8) (τ30.2.1 51) := by rw [show (j_e0 (σ.1 3) (σ.2.1 8) (τ30.2.1 51)) = (j_e0 (σ.1 3) (σ.2.1 8) (τ_61.2.1 51)) from by rw [g51_τ30]]; exact W0_
              have W1_ : j_e0 (σ.1 3) (σ.2.1 9) (τ30.2.1 52) := by rw [show (j_e0 (σ.1 3) (σ.2.1 9) (τ30.2.1 52)) = (j_e0 (σ.1 3) (σ.2.1 9) (τ_61.2.1 52)) from by rw [g52_τ30]]; exact W1_
              have W2_ : j_e0 (σ.1 3) (σ.2.1 12) (τ30.2.1 53) := by rw [show (j_e0 (σ.1 3) (σ.2.1 12) (τ30.2.1 53)) = (j_e0 (σ.1 3) (σ.2.1 12) (τ_61.2.1 53)) from by rw [g53_τ30]]; exact W2_
              have W3_ : j_e0 (σ.1 3) (σ.2.1 10) (τ30.2.1 54) := by rw [show (j_e0 (σ.1 3) (σ.2.1 10) (τ30.2.1 54)) = (j_e0 (σ.1 3) (σ.2.1 10) (τ_61.2.1 54)) from by rw [g54_τ30]]; exact W3_
              have W4_ : j_e0 (σ.1 3) (σ.2.1 11) (τ30.2.1 55) := by rw [show (j_e0 (σ.1 3) (σ.2.1 11) (τ30.2.1 55)) = (j_e0 (σ.1 3) (σ.2.1 11) (τ_61.2.1 55)) from by rw [g55_τ30]]; exact W4_
              have SYt : oc (τ30.2.1 6) ≤ (τ30.1 3) := q28_3
              have LAt : oc (τ30.2.1 7) ≤ (τ30.1 5) := q28_4
              have AVt : (τ30.1 12) ≤ ca (τ30.2.1 9) (τ30.1 3) := q28_5
              have STt : j_l2 (τ30.2.1 6) (τ30.1 3) := q28_6
              have A6 : ∀ j, (-1) ≤ τ30.2.1 6 j ∧ τ30.2.1 6 j ≤ 999 := fun j => hT.2 6 j
              have A7 : ∀ j, (-1) ≤ τ30.2.1 7 j ∧ τ30.2.1 7 j ≤ 1499 := fun j => hT.2 7 j
              have A8 : ∀ j, 0 ≤ τ30.2.1 8 j ∧ τ30.2.1 8 j ≤ 1 := fun j => hT.2 8 j
              have A9 : ∀ j, 0 ≤ τ30.2.1 9 j ∧ τ30.2.1 9 j ≤ 1 := fun j => hT.2 9 j
              have A10 : ∀ j, (-1) ≤ τ30.2.1 10 j ∧ τ30.2.1 10 j ≤ 999 := fun j => hT.2 10 j
              have A11 : ∀ j, (-1) ≤ τ30.2.1 11 j ∧ τ30.2.1 11 j ≤ 1499 := fun j => hT.2 11 j
              have A12 : ∀ j, 0 ≤ τ30.2.1 12 j ∧ τ30.2.1 12 j ≤ 1 := fun j => hT.2 12 j
              have A14 : ∀ j, 0 ≤ τ30.2.1 14 j ∧ τ30.2.1 14 j ≤ 30000 := fun j => hT.2 14 j
              have A15 : ∀ j, 0 ≤ τ30.2.1 15 j ∧ τ30.2.1 15 j ≤ 300 := fun j => hT.2 15 j
              have A18 : ∀ j, 0 ≤ τ30.2.1 18 j ∧ τ30.2.1 18 j ≤ 90000 := fun j => hT.2 18 j
              have A19 : ∀ j, 0 ≤ τ30.2.1 19 j ∧ τ30.2.1 19 j ≤ 60 := fun j => hT.2 19 j
              have A21 : ∀ j, 0 ≤ τ30.2.1 21 j ∧ τ30.2.1 21 j ≤ 20000 := fun j => hT.2 21 j
              have A22 : ∀ j, 0 ≤ τ30.2.1 22 j ∧ τ30.2.1 22 j ≤ 20000 := fun j => hT.2 22 j
              have A25 : ∀ j, 0 ≤ τ30.2.1 25 j ∧ τ30.2.1 25 j ≤ 20000 := fun j => hT.2 25 j
              have A26 : ∀ j, 0 ≤ τ30.2.1 26 j ∧ τ30.2.1 26 j ≤ 20000 := fun j => hT.2 26 j
              have A28 : ∀ j, 0 ≤ τ30.2.1 28 j ∧ τ30.2.1 28 j ≤ 1 := fun j => hT.2 28 j
              have A51 : ∀ j, 0 ≤ τ30.2.1 51 j ∧ τ30.2.1 51 j ≤ 1 := fun j => hT.2 51 j
              have A52 : ∀ j, 0 ≤ τ30.2.1 52 j ∧ τ30.2.1 52 j ≤ 1 := fun j => hT.2 52 j
              have A53 : ∀ j, 0 ≤ τ30.2.1 53 j ∧ τ30.2.1 53 j ≤ 1 := fun j => hT.2 53 j
              have A54 : ∀ j, (-1) ≤ τ30.2.1 54 j ∧ τ30.2.1 54 j ≤ 999 := fun j => hT.2 54 j
              have A55 : ∀ j, (-1) ≤ τ30.2.1 55 j ∧ τ30.2.1 55 j ≤ 1499 := fun j => hT.2 55 j
              have v0 : 0 ≤ τ30.1 0 ∧ τ30.1 0 ≤ 60000 := hT.1 0
              have v1 : 0 ≤ τ30.1 1 ∧ τ30.1 1 ≤ 1 := hT.1 1
              have v2 : 0 ≤ τ30.1 2 ∧ τ30.1 2 ≤ 30000 := hT.1 2
              have v3 : 0 ≤ τ30.1 3 ∧ τ30.1 3 ≤ 1000 := hT.1 3
              have v4 : 0 ≤ τ30.1 4 ∧ τ30.1 4 ≤ 100 := hT.1 4
              have v5 : 0 ≤ τ30.1 5 ∧ τ30.1 5 ≤ 1500 := hT.1 5
              have v6 : 0 ≤ τ30.1 6 ∧ τ30.1 6 ≤ 30000 := hT.1 6
              have v7 : 0 ≤ τ30.1 7 ∧ τ30.1 7 ≤ 90000 := hT.1 7
              have v8 : 0 ≤ τ30.1 8 ∧ τ30.1 8 ≤ 20000 := hT.1 8
              have v9 : 0 ≤ τ30.1 9 ∧ τ30.1 9 ≤ 20000 := hT.1 9
              have v12 : 0 ≤ τ30.1 12 ∧ τ30.1 12 ≤ 1000 := hT.1 12
              have v13 : 0 ≤ τ30.1 13 ∧ τ30.1 13 ≤ 1500 := hT.1 13
              have v14 : 0 ≤ τ30.1 14 ∧ τ30.1 14 ≤ 1000 := hT.1 14
              have v15 : 0 ≤ τ30.1 15 ∧ τ30.1 15 ≤ 50 := hT.1 15
              have v16 : 0 ≤ τ30.1 16 ∧ τ30.1 16 ≤ 60000 := hT.1 16
              have v17 : 0 ≤ τ30.1 17 ∧ τ30.1 17 ≤ 60000 := hT.1 17
              have v18 : 0 ≤ τ30.1 18 ∧ τ30.1 18 ≤ 60000 := hT.1 18
              have v19 : (-1) ≤ τ30.1 19 ∧ τ30.1 19 ≤ 125 := hT.1 19
              have v20 : 0 ≤ τ30.1 20 ∧ τ30.1 20 ≤ 19 := hT.1 20
              have v38 : 0 ≤ τ30.1 38 ∧ τ30.1 38 ≤ 1500 := hT.1 38
              have v49 : 0 ≤ τ30.1 49 ∧ τ30.1 49 ≤ 1 := hT.1 49
              refine h136 _ _ ?_
              replace hT := mT_v (i := 0) hT (show (0 : Int) ≤ 0 ∧ 0 ≤ 60000 from by (first | omega | (simp only [st_s] <;> omega) | assumption | omega))
              replace hT := mT_v (i := 1) hT (show (0 : Int) ≤ 0 ∧ 0 ≤ 1 from by (first | omega | (simp only [st_s] <;> omega) | assumption | omega))
              refine ⟨_, K_X13_forgetTrees hT (show 0 ≤ (σ.1 5) from by (first | omega | (simp only [st_s] <;> omega) | assumption | omega)) (show (σ.1 5) ≤ 1500 from by (first | omega | (simp only [st_s] <;> omega) | assumption | omega)), ?_⟩
              intro τ33 hn_τ33 hf_τ33 hq
              obtain ⟨hT, q31_1, q31_2⟩ := hq
              replace q31_1 : (τ33.1 38) = 0 := q31_1
              replace q31_2 : (τ33.1 49) = 0 := q31_2
              have w0_τ33 : τ33.1 0 = 0 := hf_τ33.1 0 (by decide)
              have w1_τ33 : τ33.1 1 = 0 := hf_τ33.1 1 (by decide)
              have w2_τ33 : τ33.1 2 = τ30.1 2 := hf_τ33.1 2 (by decide)
              have w3_τ33 : τ33.1 3 = τ30.1 3 := hf_τ33.1 3 (by decide)
              have w4_τ33 : τ33.1 4 = τ30.1 4 := hf_τ33.1 4 (by decide)
              have w5_τ33 : τ33.1 5 = τ30.1 5 := hf_τ33.1 5 (by decide)
              have w6_τ33 : τ33.1 6 = τ30.1 6 := hf_τ33.1 6 (by decide)
              have w7_τ33 : τ33.1 7 = τ30.1 7 := hf_τ33.1 7 (by decide)
              have w8_τ33 : τ33.1 8 = τ30.1 8 := hf_τ33.1 8 (by decide)
              have w9_τ33 : τ33.1 9 = τ30.1 9 := hf_τ33.1 9 (by decide)
              have w12_τ33 : τ33.1 12 = τ30.1 12 := hf_τ33.1 12 (by decide)
              have w13_τ33 : τ33.1 13 = τ30.1 13 := hf_τ33.1 13 (by decide)
              have w14_τ33 : τ33.1 14 = τ30.1 14 := hf_τ33.1 14 (by decide)
              have w15_τ33 : τ33.1 15 = τ30.1 15 := hf_τ33.1 15 (by decide)
              have w16_τ33 : τ33.1 16 = τ30.1 16 := hf_τ33.1 16 (by decide)
              have w17_τ33 : τ33.1 17 = τ30.1 17 := hf_τ33.1 17 (by decide)
              have w18_τ33 : τ33.1 18 = τ30.1 18 := hf_τ33.1 18 (by decide)
              have w19_τ33 : τ33.1 19 = τ30.1 19 := hf_τ33.1 19 (by decide)
              have w20_τ33 : τ33.1 20 = τ30.1 20 := hf_τ33.1 20 (by decide)
              have g6_τ33 : τ33.2.1 6 = τ30.2.1 6 := hf_τ33.2.1 6 (by decide)
              have g7_τ33 : τ33.2.1 7 = τ30.2.1 7 := hf_τ33.2.1 7 (by decide)
              have g8_τ33 : τ33.2.1 8 = τ30.2.1 8 := hf_τ33.2.1 8 (by decide)
              have g9_τ33 : τ33.2.1 9 = τ30.2.1 9 := hf_τ33.2.1 9 (by decide)
              have g10_τ33 : τ33.2.1 10 = τ30.2.1 10 := hf_τ33.2.1 10 (by decide)
              have g11_τ33 : τ33.2.1 11 = τ30.2.1 11 := hf_τ33.2.1 11 (by decide)
              have g12_τ33 : τ33.2.1 12 = τ30.2.1 12 := hf_τ33.2.1 12 (by decide)
              have g14_τ33 : τ33.2.1 14 = τ30.2.1 14 := hf_τ33.2.1 14 (by decide)
              have g15_τ33 : τ33.2.1 15 = τ30.2.1 15 := hf_τ33.2.1 15 (by decide)
              have g18_τ33 : τ33.2.1 18 = τ30.2.1 18 := hf_τ33.2.1 18 (by decide)
              have g19_τ33 : τ33.2.1 19 = τ30.2.1 19 := hf_τ33.2.1 19 (by decide)
              have g21_τ33 : τ33.2.1 21 = τ30.2.1 21 := hf_τ33.2.1 21 (by decide)
              have g22_τ33 : τ33.2.1 22 = τ30.2.1 22 := hf_τ33.2.1 22 (by decide)
              have g25_τ33 : τ33.2.1 25 = τ30.2.1 25 := hf_τ33.2.1 25 (by decide)
              have g26_τ33 : τ33.2.1 26 = τ30.2.1 26 := hf_τ33.2.1 26 (by decide)
              have g28_τ33 : τ33.2.1 28 = τ30.2.1 28 := hf_τ33.2.1 28 (by decide)
              have g51_τ33 : τ33.2.1 51 = τ30.2.1 51 := hf_τ33.2.1 51 (by decide)
              have g52_τ33 : τ33.2.1 52 = τ30.2.1 52 := hf_τ33.2.1 52 (by decide)
              have g53_τ33 : τ33.2.1 53 = τ30.2.1 53 := hf_τ33.2.1 53 (by decide)
              have g54_τ33 : τ33.2.1 54 = τ30.2.1 54 := hf_τ33.2.1 54 (by decide)
              have g55_τ33 : τ33.2.1 55 = τ30.2.1 55 := hf_τ33.2.1 55 (by decide)
              first | (have ca_τ33 := congr (congrArg ca g9_τ33) w3_τ33) | skip
              first | (have o6_τ33 := congrArg oc g6_τ33) | skip
              first | (have o7_τ33 := congrArg oc g7_τ33) | skip
              have Y20 : ca (τ33.2.1 12) ((τ33.1 3)) ≤ (τ33.1 4) := by rw [show (ca (τ33.2.1 12) ((τ33.1 3)) ≤ (τ33.1 4)) = (ca (τ30.2.1 12) ((τ30.1 3)) ≤ (τ30.1 4)) from by rw [w3_τ33, w4_τ33, g12_τ33]]; exact Y20
              have Y8 : j_eq ((σ.1 9)) (σ.2.1 28) (τ33.2.1 28) := by rw [show (j_eq ((σ.1 9)) (σ.2.1 28) (τ33.2.1 28)) = (j_eq ((σ.1 9)) (σ.2.1 28) (τ30.2.1 28)) from by rw [g28_τ33]]; exact Y8
              have Y1 : j_l2 (τ33.2.1 6) (τ33.1 3) := by rw [show (j_l2 (τ33.2.1 6) (τ33.1 3)) = (j_l2 (τ30.2.1 6) (τ30.1 3)) from by rw [w3_τ33, g6_τ33]]; exact Y1
              have PA : J_pa (τ33.2.1 21) (τ33.2.1 22) := by rw [show (J_pa (τ33.2.1 21) (τ33.2.1 22)) = (J_pa (τ30.2.1 21) (τ30.2.1 22)) from by rw [g21_τ33, g22_τ33]]; exact PA
              have W0_ : j_e0 (σ.1 3) (σ.2.1 8) (τ33.2.1 51) := by rw [show (j_e0 (σ.1 3) (σ.2.1 8) (τ33.2.1 51)) = (j_e0 (σ.1 3) (σ.2.1 8) (τ30.2.1 51)) from by rw [g51_τ33]]; exact W0_
              have W1_ : j_e0 (σ.1 3) (σ.2.1 9) (τ33.2.1 52) := by rw [show (j_e0 (σ.1 3) (σ.2.1 9) (τ33.2.1 52)) = (j_e0 (σ.1 3) (σ.2.1 9) (τ30.2.1 52)) from by rw [g52_τ33]]; exact W1_
              have W2_ : j_e0 (σ.1 3) (σ.2.1 12) (τ33.2.1 53) := by rw [show (j_e0 (σ.1 3) (σ.2.1 12) (τ33.2.1 53)) = (j_e0 (σ.1 3) (σ.2.1 12) (τ30.2.1 53)) from by rw [g53_τ33]]; exact W2_
              have W3_ : j_e0 (σ.1 3) (σ.2.1 10) (τ33.2.1 54) := by rw [show (j_e0 (σ.1 3) (σ.2.1 10) (τ33.2.1 54)) = (j_e0 (σ.1 3) (σ.2.1 10) (τ30.2.1 54)) from by rw [g54_τ33]]; exact W3_
              have W4_ : j_e0 (σ.1 3) (σ.2.1 11) (τ33.2.1 55) := by rw [show (j_e0 (σ.1 3) (σ.2.1 11) (τ33.2.1 55)) = (j_e0 (σ.1 3) (σ.2.1 11) (τ30.2.1 55)) from by rw [g55_τ33]]; exact W4_
              have SYt : oc (τ33.2.1 6) ≤ (τ33.1 3) := by rw [show (oc (τ33.2.1 6) ≤ (τ33.1 3)) = (oc (τ30.2.1 6) ≤ (τ30.1 3)) from by rw [w3_τ33, g6_τ33]]; exact SYt
              have LAt : oc (τ33.2.1 7) ≤ (τ33.1 5) := by rw [show (oc (τ33.2.1 7) ≤ (τ33.1 5)) = (oc (τ30.2.1 7) ≤ (τ30.1 5)) from by rw [w5_τ33, g7_τ33]]; exact LAt
              have AVt : (τ33.1 12) ≤ ca (τ33.2.1 9) (τ33.1 3) := by rw [show ((τ33.1 12) ≤ ca (τ33.2.1 9) (τ33.1 3)) = ((τ30.1 12) ≤ ca (τ30.2.1 9) (τ30.1 3)) from by rw [w3_τ33, w12_τ33, g9_τ33]]; exact AVt
              have STt : j_l2 (τ33.2.1 6) (τ33.1 3) := by rw [show (j_l2 (τ33.2.1 6) (τ33.1 3)) = (j_l2 (τ30.2.1 6) (τ30.1 3)) from by rw [w3_τ33, g6_τ33]]; exact STt
              have A6 : ∀ j, (-1) ≤ τ33.2.1 6 j ∧ τ33.2.1 6 j ≤ 999 := fun j => hT.2 6 j
              have A7 : ∀ j, (-1) ≤ τ33.2.1 7 j ∧ τ33.2.1 7 j ≤ 1499 := fun j => hT.2 7 j
              have A8 : ∀ j, 0 ≤ τ33.2.1 8 j ∧ τ33.2.1 8 j ≤ 1 := fun j => hT.2 8 j
              have A9 : ∀ j, 0 ≤ τ33.2.1 9 j ∧ τ33.2.1 9 j ≤ 1 := fun j => hT.2 9 j
              have A10 : ∀ j, (-1) ≤ τ33.2.1 10 j ∧ τ33.2.1 10 j ≤ 999 := fun j => hT.2 10 j
              have A11 : ∀ j, (-1) ≤ τ33.2.1 11 j ∧ τ33.2.1 11 j ≤ 1499 := fun j => hT.2 11 j
              have A12 : ∀ j, 0 ≤ τ33.2.1 12 j ∧ τ33.2.1 12 j ≤ 1 := fun j => hT.2 12 j
              have A14 : ∀ j, 0 ≤ τ33.2.1 14 j ∧ τ33.2.1 14 j ≤ 30000 := fun j => hT.2 14 j
              have A15 : ∀ j, 0 ≤ τ33.2.1 15 j ∧ τ33.2.1 15 j ≤ 300 := fun j => hT.2 15 j
              have A18 : ∀ j, 0 ≤ τ33.2.1 18 j ∧ τ33.2.1 18 j ≤ 90000 := fun j => hT.2 18 j
              have A19 : ∀ j, 0 ≤ τ33.2.1 19 j ∧ τ33.2.1 19 j ≤ 60 := fun j => hT.2 19 j
              have A21 : ∀ j, 0 ≤ τ33.2.1 21 j ∧ τ33.2.1 21 j ≤ 20000 := fun j => hT.2 21 j
              have A22 : ∀ j, 0 ≤ τ33.2.1 22 j ∧ τ33.2.1 22 j ≤ 20000 := fun j => hT.2 22 j
              have A25 : ∀ j, 0 ≤ τ33.2.1 25 j ∧ τ33.2.1 25 j ≤ 20000 := fun j => hT.2 25 j
              have A26 : ∀ j, 0 ≤ τ33.2.1 26 j ∧ τ33.2.1 26 j ≤ 20000 := fun j => hT.2 26 j
              have A28 : ∀ j, 0 ≤ τ33.2.1 28 j ∧ τ33.2.1 28 j ≤ 1 := fun j => hT.2 28 j
              have A51 : ∀ j, 0 ≤ τ33.2.1 51 j ∧ τ33.2.1 51 j ≤ 1 := fun j => hT.2 51 j
              have A52 : ∀ j, 0 ≤ τ33.2.1 52 j ∧ τ33.2.1 52 j ≤ 1 := fun j => hT.2 52 j
              have A53 : ∀ j, 0 ≤ τ33.2.1 53 j ∧ τ33.2.1 53 j ≤ 1 := fun j => hT.2 53 j
              have A54 : ∀ j, (-1) ≤ τ33.2.1 54 j ∧ τ33.2.1 54 j ≤ 999 := fun j => hT.2 54 j
              have A55 : ∀ j, (-1) ≤ τ33.2.1 55 j ∧ τ33.2.1 55 j ≤ 1499 := fun j => hT.2 55 j
              have v0 : 0 ≤ τ33.1 0 ∧ τ33.1 0 ≤ 60000 := hT.1 0
              have v1 : 0 ≤ τ33.1 1 ∧ τ33.1 1 ≤ 1 := hT.1 1
              have v2 : 0 ≤ τ33.1 2 ∧ τ33.1 2 ≤ 30000 := hT.1 2
              have v3 : 0 ≤ τ33.1 3 ∧ τ33.1 3 ≤ 1000 := hT.1 3
              have v4 : 0 ≤ τ33.1 4 ∧ τ33.1 4 ≤ 100 := hT.1 4
              have v5 : 0 ≤ τ33.1 5 ∧ τ33.1 5 ≤ 1500 := hT.1 5
              have v6 : 0 ≤ τ33.1 6 ∧ τ33.1 6 ≤ 30000 := hT.1 6
              have v7 : 0 ≤ τ33.1 7 ∧ τ33.1 7 ≤ 90000 := hT.1 7
              have v8 : 0 ≤ τ33.1 8 ∧ τ33.1 8 ≤ 20000 := hT.1 8
              have v9 : 0 ≤ τ33.1 9 ∧ τ33.1 9 ≤ 20000 := hT.1 9
              have v12 : 0 ≤ τ33.1 12 ∧ τ33.1 12 ≤ 1000 := hT.1 12
              have v13 : 0 ≤ τ33.1 13 ∧ τ33.1 13 ≤ 1500 := hT.1 13
              have v14 : 0 ≤ τ33.1 14 ∧ τ33.1 14 ≤ 1000 := hT.1 14
              have v15 : 0 ≤ τ33.1 15 ∧ τ33.1 15 ≤ 50 := hT.1 15
              have v16 : 0 ≤ τ33.1 16 ∧ τ33.1 16 ≤ 60000 := hT.1 16
              have v17 : 0 ≤ τ33.1 17 ∧ τ33.1 17 ≤ 60000 := hT.1 17
              have v18 : 0 ≤ τ33.1 18 ∧ τ33.1 18 ≤ 60000 := hT.1 18
              have v19 : (-1) ≤ τ33.1 19 ∧ τ33.1 19 ≤ 125 := hT.1 19
              have v20 : 0 ≤ τ33.1 20 ∧ τ33.1 20 ≤ 19 := hT.1 20
              have v38 : 0 ≤ τ33.1 38 ∧ τ33.1 38 ≤ 1500 := hT.1 38
              have v49 : 0 ≤ τ33.1 49 ∧ τ33.1 49 ≤ 1 := hT.1 49
              exact ⟨hT, (show oc (τ33.2.1 6) ≤ (τ33.1 3) from SYt), (show oc (τ33.2.1 7) ≤ (τ33.1 5) from LAt), (show (τ33.1 12) ≤ ca (τ33.2.1 9) (τ33.1 3) from AVt), (show j_l2 (τ33.2.1 6) (τ33.1 3) from Y1), (show ca (τ33.2.1 12) ((τ33.1 3)) ≤ (τ33.1 4) from Y20), (show J_pa (τ33.2.1 21) (τ33.2.1 22) from PA), (show (τ33.1 7) ≤ 60 * (τ33.1 5) from by (first | omega | (simp only [st_s] <;> omega) | assumption | omega)), (show (τ33.1 13) ≤ (τ33.1 5) from by (first | omega | (simp only [st_s] <;> omega) | assumption | omega)), (show m_J τ33 from by (first | (exfalso; omega) | exact m_J_f (by exact i61_12 (by omega)) hf_τ33 rfl rfl | exact m_J_f (by exact (show m_J τ30 from m_J_b p9 agk hT0 Y8k (by omega) (u_of hf_τ30 [14, 15, 18, 19, 21, 22, 25, 26, 28] rfl) (by by_cases z : σ.1 5 = 0; exact Or.inl z; exact Or.inr ⟨by omega, by omega, by omega, by omega⟩))) hf_τ33 rfl rfl)), (show (τ33.1 0) = 0 from by (first | omega | (simp only [st_s] <;> omega) | assumption | omega)), (show (τ33.1 1) = 0 from by (first | omega | (simp only [st_s] <;> omega) | assumption | omega))⟩
          ·
            refine ⟨_, K_X13_fail hT (show 0 ≤ 4 from by (first | omega | (simp only [st_s] <;> omega) | assumption | omega)) (show 4 ≤ 19 from by (first | omega | (simp only [st_s] <;> omega) | assumption | omega)) (show -1 ≤ (τ_61.1 0) from by (first | omega | (simp only [st_s] <;> omega) | assumption | omega)) (show (τ_61.1 0) ≤ 60000 from by (first | omega | (simp only [st_s] <;> omega) | assumption | omega)), ?_⟩
            intro τ26 hn_τ26 hf_τ26 hq
            obtain ⟨hT, q24_1, q24_2⟩ := hq
            replace q24_1 : ¬ (τ_61.1 20) = 0 → (τ26.1 20) = (τ_61.1 20) := q24_1
            replace q24_2 : (τ_61.1 20) = 0 → (τ26.1 20) = 4 := q24_2
            replace ag : m_ag σ τ26 := ag_r ag hf_τ26 rfl rfl
            have w0_τ26 : τ26.1 0 = τ_61.1 0 := hf_τ26.1 0 (by decide)
            have w1_τ26 : τ26.1 1 = τ_61.1 1 := hf_τ26.1 1 (by decide)
            have w2_τ26 : τ26.1 2 = τ_61.1 2 := hf_τ26.1 2 (by decide)
            have w3_τ26 : τ26.1 3 = τ_61.1 3 := hf_τ26.1 3 (by decide)
            have w4_τ26 : τ26.1 4 = τ_61.1 4 := hf_τ26.1 4 (by decide)
            have w5_τ26 : τ26.1 5 = τ_61.1 5 := hf_τ26.1 5 (by decide)
            have w6_τ26 : τ26.1 6 = τ_61.1 6 := hf_τ26.1 6 (by decide)
            have w7_τ26 : τ26.1 7 = τ_61.1 7 := hf_τ26.1 7 (by decide)
            have w8_τ26 : τ26.1 8 = τ_61.1 8 := hf_τ26.1 8 (by decide)
            have w9_τ26 : τ26.1 9 = τ_61.1 9 := hf_τ26.1 9 (by decide)
            have w12_τ26 : τ26.1 12 = τ_61.1 12 := hf_τ26.1 12 (by decide)
            have w13_τ26 : τ26.1 13 = τ_61.1 13 := hf_τ26.1 13 (by decide)
            have w14_τ26 : τ26.1 14 = τ_61.1 14 := hf_τ26.1 14 (by decide)
            have w15_τ26 : τ26.1 15 = τ_61.1 15 := hf_τ26.1 15 (by decide)
            have w16_τ26 : τ26.1 16 = τ_61.1 16 := hf_τ26.1 16 (by decide)
            have w17_τ26 : τ26.1 17 = τ_61.1 17 := hf_τ26.1 17 (by decide)
            have w18_τ26 : τ26.1 18 = τ_61.1 18 := hf_τ26.1 18 (by decide)
            have w19_τ26 : τ26.1 19 = τ_61.1 19 := hf_τ26.1 19 (by decide)
            have w38_τ26 : τ26.1 38 = τ_61.1 38 := hf_τ26.1 38 (by decide)
            have w49_τ26 : τ26.1 49 = τ_61.1 49 := hf_τ26.1 49 (by decide)
            have g6_τ26 : τ26.2.1 6 = τ_61.2.1 6 := hf_τ26.2.1 6 (by decide)
            have g7_τ26 : τ26.2.1 7 = τ_61.2.1 7 := hf_τ26.2.1 7 (by decide)
            have g8_τ26 : τ26.2.1 8 = τ_61.2.1 8 := hf_τ26.2.1 8 (by decide)
            have g9_τ26 : τ26.2.1 9 = τ_61.2.1 9 := hf_τ26.2.1 9 (by decide)
            have g10_τ26 : τ26.2.1 10 = τ_61.2.1 10 := hf_τ26.2.1 10 (by decide)
            have g11_τ26 : τ26.2.1 11 = τ_61.2.1 11 := hf_τ26.2.1 11 (by decide)
            have g12_τ26 : τ26.2.1 12 = τ_61.2.1 12 := hf_τ26.2.1 12 (by decide)
            have g14_τ26 : τ26.2.1 14 = τ_61.2.1 14 := hf_τ26.2.1 14 (by decide)
            have g15_τ26 : τ26.2.1 15 = τ_61.2.1 15 := hf_τ26.2.1 15 (by decide)
            have g18_τ26 : τ26.2.1 18 = τ_61.2.1 18 := hf_τ26.2.1 18 (by decide)
            have g19_τ26 : τ26.2.1 19 = τ_61.2.1 19 := hf_τ26.2.1 19 (by decide)
            have g21_τ26 : τ26.2.1 21 = τ_61.2.1 21 := hf_τ26.2.1 21 (by decide)
            have g22_τ26 : τ26.2.1 22 = τ_61.2.1 22 := hf_τ26.2.1 22 (by decide)
            have g25_τ26 : τ26.2.1 25 = τ_61.2.1 25 := hf_τ26.2.1 25 (by decide)
            have g26_τ26 : τ26.2.1 26 = τ_61.2.1 26 := hf_τ26.2.1 26 (by decide)
            have g28_τ26 : τ26.2.1 28 = τ_61.2.1 28 := hf_τ26.2.1 28 (by decide)
            have g51_τ26 : τ26.2.1 51 = τ_61.2.1 51 := hf_τ26.2.1 51 (by decide)
            have g52_τ26 : τ26.2.1 52 = τ_61.2.1 52 := hf_τ26.2.1 52 (by decide)
            have g53_τ26 : τ26.2.1 53 = τ_61.2.1 53 := hf_τ26.2.1 53 (by decide)
            have g54_τ26 : τ26.2.1 54 = τ_61.2.1 54 := hf_τ26.2.1 54 (by decide)
            have g55_τ26 : τ26.2.1 55 = τ_61.2.1 55 := hf_τ26.2.1 55 (by decide)
            first | (have ca_τ26 := congr (congrArg ca g9_τ26) w3_τ26) | skip
            first | (have o6_τ26 := congrArg oc g6_τ26) | skip
            first | (have o7_τ26 := congrArg oc g7_τ26) | skip
            have Y20 : ca (τ26.2.1 12) ((τ26.1 3)) ≤ (τ26.1 4) := by rw [show (ca (τ26.2.1 12) ((τ26.1 3)) ≤ (τ26.1 4)) = (ca (τ_61.2.1 12) ((τ_61.1 3)) ≤ (τ_61.1 4)) from by rw [w3_τ26, w4_τ26, g12_τ26]]; exact Y20
            have Y8 : j_eq ((σ.1 9)) (σ.2.1 28) (τ26.2.1 28) := by rw [show (j_eq ((σ.1 9)) (σ.2.1 28) (τ26.2.1 28)) = (j_eq ((σ.1 9)) (σ.2.1 28) (τ_61.2.1 28)) from by rw [g28_τ26]]; exact Y8
            have Y1 : j_l2 (τ26.2.1 6) (τ26.1 3) := by rw [show (j_l2 (τ26.2.1 6) (τ26.1 3)) = (j_l2 (τ_61.2.1 6) (τ_61.1 3)) from by rw [w3_τ26, g6_τ26]]; exact Y1
            have PA : J_pa (τ26.2.1 21) (τ26.2.1 22) := by rw [show (J_pa (τ26.2.1 21) (τ26.2.1 22)) = (J_pa (τ_61.2.1 21) (τ_61.2.1 22)) from by rw [g21_τ26, g22_τ26]]; exact PA
            have W0_ : j_e0 (σ.1 3) (σ.2.1 8) (τ26.2.1 51) := by rw [show (j_e0 (σ.1 3) (σ.2.1 8) (τ26.2.1 51)) = (j_e0 (σ.1 3) (σ.2.1 8) (τ_61.2.1 51)) from by rw [g51_τ26]]; exact W0_
            have W1_ : j_e0 (σ.1 3) (σ.2.1 9) (τ26.2.1 52) := by rw [show (j_e0 (σ.1 3) (σ.2.1 9) (τ26.2.1 52)) = (j_e0 (σ.1 3) (σ.2.1 9) (τ_61.2.1 52)) from by rw [g52_τ26]]; exact W1_
            have W2_ : j_e0 (σ.1 3) (σ.2.1 12) (τ26.2.1 53) := by rw [show (j_e0 (σ.1 3) (σ.2.1 12) (τ26.2.1 53)) = (j_e0 (σ.1 3) (σ.2.1 12) (τ_61.2.1 53)) from by rw [g53_τ26]]; exact W2_
            have W3_ : j_e0 (σ.1 3) (σ.2.1 10) (τ26.2.1 54) := by rw [show (j_e0 (σ.1 3) (σ.2.1 10) (τ26.2.1 54)) = (j_e0 (σ.1 3) (σ.2.1 10) (τ_61.2.1 54)) from by rw [g54_τ26]]; exact W3_
            have W4_ : j_e0 (σ.1 3) (σ.2.1 11) (τ26.2.1 55) := by rw [show (j_e0 (σ.1 3) (σ.2.1 11) (τ26.2.1 55)) = (j_e0 (σ.1 3) (σ.2.1 11) (τ_61.2.1 55)) from by rw [g55_τ26]]; exact W4_
            have SYt : oc (τ26.2.1 6) ≤ (τ26.1 3) := by rw [show (oc (τ26.2.1 6) ≤ (τ26.1 3)) = (oc (τ_61.2.1 6) ≤ (τ_61.1 3)) from by rw [w3_τ26, g6_τ26]]; exact SYt
            have AVt : (τ26.1 12) ≤ ca (τ26.2.1 9) (τ26.1 3) := by rw [show ((τ26.1 12) ≤ ca (τ26.2.1 9) (τ26.1 3)) = ((τ_61.1 12) ≤ ca (τ_61.2.1 9) (τ_61.1 3)) from by rw [w3_τ26, w12_τ26, g9_τ26]]; exact AVt
            have STt : j_l2 (τ26.2.1 6) (τ26.1 3) := by rw [show (j_l2 (τ26.2.1 6) (τ26.1 3)) = (j_l2 (τ_61.2.1 6) (τ_61.1 3)) from by rw [w3_τ26, g6_τ26]]; exact STt
            have A6 : ∀ j, (-1) ≤ τ26.2.1 6 j ∧ τ26.2.1 6 j ≤ 999 := fun j => hT.2 6 j
            have A7 : ∀ j, (-1) ≤ τ26.2.1 7 j ∧ τ26.2.1 7 j ≤ 1499 := fun j => hT.2 7 j
            have A8 : ∀ j, 0 ≤ τ26.2.1 8 j ∧ τ26.2.1 8 j ≤ 1 := fun j => hT.2 8 j
            have A9 : ∀ j, 0 ≤ τ26.2.1 9 j ∧ τ26.2.1 9 j ≤ 1 := fun j => hT.2 9 j
            have A10 : ∀ j, (-1) ≤ τ26.2.1 10 j ∧ τ26.2.1 10 j ≤ 999 := fun j => hT.2 10 j
            have A11 : ∀ j, (-1) ≤ τ26.2.1 11 j ∧ τ26.2.1 11 j ≤ 1499 := fun j => hT.2 11 j
            have A12 : ∀ j, 0 ≤ τ26.2.1 12 j ∧ τ26.2.1 12 j ≤ 1 := fun j => hT.2 12 j
            have A14 : ∀ j, 0 ≤ τ26.2.1 14 j ∧ τ26.2.1 14 j ≤ 30000 := fun j => hT.2 14 j
            have A15 : ∀ j, 0 ≤ τ26.2.1 15 j ∧ τ26.2.1 15 j ≤ 300 := fun j => hT.2 15 j
            have A18 : ∀ j, 0 ≤ τ26.2.1 18 j ∧ τ26.2.1 18 j ≤ 90000 := fun j => hT.2 18 j
            have A19 : ∀ j, 0 ≤ τ26.2.1 19 j ∧ τ26.2.1 19 j ≤ 60 := fun j => hT.2 19 j
            have A21 : ∀ j, 0 ≤ τ26.2.1 21 j ∧ τ26.2.1 21 j ≤ 20000 := fun j => hT.2 21 j
            have A22 : ∀ j, 0 ≤ τ26.2.1 22 j ∧ τ26.2.1 22 j ≤ 20000 := fun j => hT.2 22 j
            have A25 : ∀ j, 0 ≤ τ26.2.1 25 j ∧ τ26.2.1 25 j ≤ 20000 := fun j => hT.2 25 j
            have A26 : ∀ j, 0 ≤ τ26.2.1 26 j ∧ τ26.2.1 26 j ≤ 20000 := fun j => hT.2 26 j
            have A28 : ∀ j, 0 ≤ τ26.2.1 28 j ∧ τ26.2.1 28 j ≤ 1 := fun j => hT.2 28 j
            have A51 : ∀ j, 0 ≤ τ26.2.1 51 j ∧ τ26.2.1 51 j ≤ 1 := fun j => hT.2 51 j
            have A52 : ∀ j, 0 ≤ τ26.2.1 52 j ∧ τ26.2.1 52 j ≤ 1 := fun j => hT.2 52 j
            have A53 : ∀ j, 0 ≤ τ26.2.1 53 j ∧ τ26.2.1 53 j ≤ 1 := fun j => hT.2 53 j
            have A54 : ∀ j, (-1) ≤ τ26.2.1 54 j ∧ τ26.2.1 54 j ≤ 999 := fun j => hT.2 54 j
            have A55 : ∀ j, (-1) ≤ τ26.2.1 55 j ∧ τ26.2.1 55 j ≤ 1499 := fun j => hT.2 55 j
            have v0 : 0 ≤ τ26.1 0 ∧ τ26.1 0 ≤ 60000 := hT.1 0
            have v1 : 0 ≤ τ26.1 1 ∧ τ26.1 1 ≤ 1 := hT.1 1
            have v2 : 0 ≤ τ26.1 2 ∧ τ26.1 2 ≤ 30000 := hT.1 2
            have v3 : 0 ≤ τ26.1 3 ∧ τ26.1 3 ≤ 1000 := hT.1 3
            have v4 : 0 ≤ τ26.1 4 ∧ τ26.1 4 ≤ 100 := hT.1 4
            have v5 : 0 ≤ τ26.1 5 ∧ τ26.1 5 ≤ 1500 := hT.1 5
            have v6 : 0 ≤ τ26.1 6 ∧ τ26.1 6 ≤ 30000 := hT.1 6
            have v7 : 0 ≤ τ26.1 7 ∧ τ26.1 7 ≤ 90000 := hT.1 7
            have v8 : 0 ≤ τ26.1 8 ∧ τ26.1 8 ≤ 20000 := hT.1 8
            have v9 : 0 ≤ τ26.1 9 ∧ τ26.1 9 ≤ 20000 := hT.1 9
            have v12 : 0 ≤ τ26.1 12 ∧ τ26.1 12 ≤ 1000 := hT.1 12
            have v13 : 0 ≤ τ26.1 13 ∧ τ26.1 13 ≤ 1500 := hT.1 13
            have v14 : 0 ≤ τ26.1 14 ∧ τ26.1 14 ≤ 1000 := hT.1 14
            have v15 : 0 ≤ τ26.1 15 ∧ τ26.1 15 ≤ 50 := hT.1 15
            have v16 : 0 ≤ τ26.1 16 ∧ τ26.1 16 ≤ 60000 := hT.1 16
            have v17 : 0 ≤ τ26.1 17 ∧ τ26.1 17 ≤ 60000 := hT.1 17
            have v18 : 0 ≤ τ26.1 18 ∧ τ26.1 18 ≤ 60000 := hT.1 18
            have v19 : (-1) ≤ τ26.1 19 ∧ τ26.1 19 ≤ 125 := hT.1 19
            have v20 : 0 ≤ τ26.1 20 ∧ τ26.1 20 ≤ 19 := hT.1 20
            have v38 : 0 ≤ τ26.1 38 ∧ τ26.1 38 ≤ 1500 := hT.1 38
            have v49 : 0 ≤ τ26.1 49 ∧ τ26.1 49 ≤ 1 := hT.1 49
            have av3 : σ.1 3 ≤ τ26.1 3 := ag.1 3 (by decide)
            have av5 : σ.1 5 ≤ τ26.1 5 := ag.1 5 (by decide)
            have av6 : σ.1 6 ≤ τ26.1 6 := ag.1 6 (by decide)
            have av7 : σ.1 7 ≤ τ26.1 7 := ag.1 7 (by decide)
            have av8 : σ.1 8 ≤ τ26.1 8 := ag.1 8 (by decide)
            have av9 : σ.1 9 ≤ τ26.1 9 := ag.1 9 (by decide)
            refine h116 _ _ _ _ _ _ _ ?_
            refine ⟨fun c27 => ?_, fun c27 => ?_⟩
            ·
              refine h136 _ _ ?_
              replace ag := ag_v (i := 0) (x := 0) ag (Or.inl rfl)
              replace hT := mT_v (i := 0) hT (show (0 : Int) ≤ 0 ∧ 0 ≤ 60000 from by (first | omega | (simp only [st_s] <;> omega) | assumption | omega))
              replace ag := ag_v (i := 1) (x := 0) ag (Or.inl rfl)
              replace hT := mT_v (i := 1) hT (show (0 : Int) ≤ 0 ∧ 0 ≤ 1 from by (first | omega | (simp only [st_s] <;> omega) | assumption | omega))
              refine ⟨_, K_X13_forgetTrees hT (show 0 ≤ (σ.1 5) from by (first | omega | (simp only [st_s] <;> omega) | assumption | omega)) (show (σ.1 5) ≤ 1500 from by (first | omega | (simp only [st_s] <;> omega) | assumption | omega)), ?_⟩
              intro τ33 hn_τ33 hf_τ33 hq
              obtain ⟨hT, q31_1, q31_2⟩ := hq
              replace q31_1 : (τ33.1 38) = 0 := q31_1
              replace q31_2 : (τ33.1 49) = 0 := q31_2
              replace ag : m_ag σ τ33 := ag_r ag hf_τ33 rfl rfl
              have w0_τ33 : τ33.1 0 = 0 := hf_τ33.1 0 (by decide)
              have w1_τ33 : τ33.1 1 = 0 := hf_τ33.1 1 (by decide)
              have w2_τ33 : τ33.1 2 = τ26.1 2 := hf_τ33.1 2 (by decide)
              have w3_τ33 : τ33.1 3 = τ26.1 3 := hf_τ33.1 3 (by decide)
              have w4_τ33 : τ33.1 4 = τ26.1 4 := hf_τ33.1 4 (by decide)
              have w5_τ33 : τ33.1 5 = τ26.1 5 := hf_τ33.1 5 (by decide)
              have w6_τ33 : τ33.1 6 = τ26.1 6 := hf_τ33.1 6 (by decide)
              have w7_τ33 : τ33.1 7 = τ26.1 7 := hf_τ33.1 7 (by decide)
              have w8_τ33 : τ33.1 8 = τ26.1 8 := hf_τ33.1 8 (by decide)
              have w9_τ33 : τ33.1 9 = τ26.1 9 := hf_τ33.1 9 (by decide)
              have w12_τ33 : τ33.1 12 = τ26.1 12 := hf_τ33.1 12 (by decide)
              have w13_τ33 : τ33.1 13 = τ26.1 13 := hf_τ33.1 13 (by decide)
              have w14_τ33 : τ33.1 14 = τ26.1 14 := hf_τ33.1 14 (by decide)
              have w15_τ33 : τ33.1 15 = τ26.1 15 := hf_τ33.1 15 (by decide)
              have w16_τ33 : τ33.1 16 = τ26.1 16 := hf_τ33.1 16 (by decide)
              have w17_τ33 : τ33.1 17 = τ26.1 17 := hf_τ33.1 17 (by decide)
              have w18_τ33 : τ33.1 18 = τ26.1 18 := hf_τ33.1 18 (by decide)
              have w19_τ33 : τ33.1 19 = τ26.1 19 := hf_τ33.1 19 (by decide)
              have w20_τ33 : τ33.1 20 = τ26.1 20 := hf_τ33.1 20 (by decide)
              have g6_τ33 : τ33.2.1 6 = τ26.2.1 6 := hf_τ33.2.1 6 (by decide)
              have g7_τ33 : τ33.2.1 7 = τ26.2.1 7 := hf_τ33.2.1 7 (by decide)
              have g8_τ33 : τ33.2.1 8 = τ26.2.1 8 := hf_τ33.2.1 8 (by decide)
              have g9_τ33 : τ33.2.1 9 = τ26.2.1 9 := hf_τ33.2.1 9 (by decide)
              have g10_τ33 : τ33.2.1 10 = τ26.2.1 10 := hf_τ33.2.1 10 (by decide)
              have g11_τ33 : τ33.2.1 11 = τ26.2.1 11 := hf_τ33.2.1 11 (by decide)
              have g12_τ33 : τ33.2.1 12 = τ26.2.1 12 := hf_τ33.2.1 12 (by decide)
              have g14_τ33 : τ33.2.1 14 = τ26.2.1 14 := hf_τ33.2.1 14 (by decide)
              have g15_τ33 : τ33.2.1 15 = τ26.2.1 15 := hf_τ33.2.1 15 (by decide)
              have g18_τ33 : τ33.2.1 18 = τ26.2.1 18 := hf_τ33.2.1 18 (by decide)
              have g19_τ33 : τ33.2.1 19 = τ26.2.1 19 := hf_τ33.2.1 19 (by decide)
              have g21_τ33 : τ33.2.1 21 = τ26.2.1 21 := hf_τ33.2.1 21 (by decide)
              have g22_τ33 : τ33.2.1 22 = τ26.2.1 22 := hf_τ33.2.1 22 (by decide)
              have g25_τ33 : τ33.2.1 25 = τ26.2.1 25 := hf_τ33.2.1 25 (by decide)
              have g26_τ33 : τ33.2.1 26 = τ26.2.1 26 := hf_τ33.2.1 26 (by decide)
              have g28_τ33 : τ33.2.1 28 = τ26.2.1 28 := hf_τ33.2.1 28 (by decide)
              have g51_τ33 : τ33.2.1 51 = τ26.2.1 51 := hf_τ33.2.1 51 (by decide)
              have g52_τ33 : τ33.2.1 52 = τ26.2.1 52 := hf_τ33.2.1 52 (by decide)
              have g53_τ33 : τ33.2.1 53 = τ26.2.1 53 := hf_τ33.2.1 53 (by decide)
              have g54_τ33 : τ33.2.1 54 = τ26.2.1 54 := hf_τ33.2.1 54 (by decide)
              have g55_τ33 : τ33.2.1 55 = τ26.2.1 55 := hf_τ33.2.1 55 (by decide)
              first | (have ca_τ33 := congr (congrArg ca g9_τ33) w3_τ33) | skip
              first | (have o6_τ33 := congrArg oc g6_τ33) | skip
              first | (have o7_τ33 := congrArg oc g7_τ33) | skip
              have Y20 : ca (τ33.2.1 12) ((τ33.1 3)) ≤ (τ33.1 4) := by rw [show (ca (τ33.2.1 12) ((τ33.1 3)) ≤ (τ33.1 4)) = (ca (τ26.2.1 12) ((τ26.1 3)) ≤ (τ26.1 4)) from by rw [w3_τ33, w4_τ33, g12_τ33]]; exact Y20
              have Y8 : j_eq ((σ.1 9)) (σ.2.1 28) (τ33.2.1 28) := by rw [show (j_eq ((σ.1 9)) (σ.2.1 28) (τ33.2.1 28)) = (j_eq ((σ.1 9)) (σ.2.1 28) (τ26.2.1 28)) from by rw [g28_τ33]]; exact Y8
              have Y1 : j_l2 (τ33.2.1 6) (τ33.1 3) := by rw [show (j_l2 (τ33.2.1 6) (τ33.1 3)) = (j_l2 (τ26.2.1 6) (τ26.1 3)) from by rw [w3_τ33, g6_τ33]]; exact Y1
              have PA : J_pa (τ33.2.1 21) (τ33.2.1 22) := by rw [show (J_pa (τ33.2.1 21) (τ33.2.1 22)) = (J_pa (τ26.2.1 21) (τ26.2.1 22)) from by rw [g21_τ33, g22_τ33]]; exact PA
              have W0_ : j_e0 (σ.1 3) (σ.2.1 8) (τ33.2.1 51) := by rw [show (j_e0 (σ.1 3) (σ.2.1 8) (τ33.2.1 51)) = (j_e0 (σ.1 3) (σ.2.1 8) (τ26.2.1 51)) from by rw [g51_τ33]]; exact W0_
              have W1_ : j_e0 (σ.1 3) (σ.2.1 9) (τ33.2.1 52) := by rw [show (j_e0 (σ.1 3) (σ.2.1 9) (τ33.2.1 52)) = (j_e0 (σ.1 3) (σ.2.1 9) (τ26.2.1 52)) from by rw [g52_τ33]]; exact W1_
              have W2_ : j_e0 (σ.1 3) (σ.2.1 12) (τ33.2.1 53) := by rw [show (j_e0 (σ.1 3) (σ.2.1 12) (τ33.2.1 53)) = (j_e0 (σ.1 3) (σ.2.1 12) (τ26.2.1 53)) from by rw [g53_τ33]]; exact W2_
              have W3_ : j_e0 (σ.1 3) (σ.2.1 10) (τ33.2.1 54) := by rw [show (j_e0 (σ.1 3) (σ.2.1 10) (τ33.2.1 54)) = (j_e0 (σ.1 3) (σ.2.1 10) (τ26.2.1 54)) from by rw [g54_τ33]]; exact W3_
              have W4_ : j_e0 (σ.1 3) (σ.2.1 11) (τ33.2.1 55) := by rw [show (j_e0 (σ.1 3) (σ.2.1 11) (τ33.2.1 55)) = (j_e0 (σ.1 3) (σ.2.1 11) (τ26.2.1 55)) from by rw [g55_τ33]]; exact W4_
              have SYt : oc (τ33.2.1 6) ≤ (τ33.1 3) := by rw [show (oc (τ33.2.1 6) ≤ (τ33.1 3)) = (oc (τ26.2.1 6) ≤ (τ26.1 3)) from by rw [w3_τ33, g6_τ33]]; exact SYt
              have AVt : (τ33.1 12) ≤ ca (τ33.2.1 9) (τ33.1 3) := by rw [show ((τ33.1 12) ≤ ca (τ33.2.1 9) (τ33.1 3)) = ((τ26.1 12) ≤ ca (τ26.2.1 9) (τ26.1 3)) from by rw [w3_τ33, w12_τ33, g9_τ33]]; exact AVt
              have STt : j_l2 (τ33.2.1 6) (τ33.1 3) := by rw [show (j_l2 (τ33.2.1 6) (τ33.1 3)) = (j_l2 (τ26.2.1 6) (τ26.1 3)) from by rw [w3_τ33, g6_τ33]]; exact STt
              have A6 : ∀ j, (-1) ≤ τ33.2.1 6 j ∧ τ33.2.1 6 j ≤ 999 := fun j => hT.2 6 j
              have A7 : ∀ j, (-1) ≤ τ33.2.1 7 j ∧ τ33.2.1 7 j ≤ 1499 := fun j => hT.2 7 j
              have A8 : ∀ j, 0 ≤ τ33.2.1 8 j ∧ τ33.2.1 8 j ≤ 1 := fun j => hT.2 8 j
              have A9 : ∀ j, 0 ≤ τ33.2.1 9 j ∧ τ33.2.1 9 j ≤ 1 := fun j => hT.2 9 j
              have A10 : ∀ j, (-1) ≤ τ33.2.1 10 j ∧ τ33.2.1 10 j ≤ 999 := fun j => hT.2 10 j
              have A11 : ∀ j, (-1) ≤ τ33.2.1 11 j ∧ τ33.2.1 11 j ≤ 1499 := fun j => hT.2 11 j
              have A12 : ∀ j, 0 ≤ τ33.2.1 12 j ∧ τ33.2.1 12 j ≤ 1 := fun j => hT.2 12 j
              have A14 : ∀ j, 0 ≤ τ33.2.1 14 j ∧ τ33.2.1 14 j ≤ 30000 := fun j => hT.2 14 j
              have A15 : ∀ j, 0 ≤ τ33.2.1 15 j ∧ τ33.2.1 15 j ≤ 300 := fun j => hT.2 15 j
              have A18 : ∀ j, 0 ≤ τ33.2.1 18 j ∧ τ33.2.1 18 j ≤ 90000 := fun j => hT.2 18 j
              have A19 : ∀ j, 0 ≤ τ33.2.1 19 j ∧ τ33.2.1 19 j ≤ 60 := fun j => hT.2 19 j
              have A21 : ∀ j, 0 ≤ τ33.2.1 21 j ∧ τ33.2.1 21 j ≤ 20000 := fun j => hT.2 21 j
              have A22 : ∀ j, 0 ≤ τ33.2.1 22 j ∧ τ33.2.1 22 j ≤ 20000 := fun j => hT.2 22 j
              have A25 : ∀ j, 0 ≤ τ33.2.1 25 j ∧ τ33.2.1 25 j ≤ 20000 := fun j => hT.2 25 j
              have A26 : ∀ j, 0 ≤ τ33.2.1 26 j ∧ τ33.2.1 26 j ≤ 20000 := fun j => hT.2 26 j
              have A28 : ∀ j, 0 ≤ τ33.2.1 28 j ∧ τ33.2.1 28 j ≤ 1 := fun j => hT.2 28 j
              have A51 : ∀ j, 0 ≤ τ33.2.1 51 j ∧ τ33.2.1 51 j ≤ 1 := fun j => hT.2 51 j
              have A52 : ∀ j, 0 ≤ τ33.2.1 52 j ∧ τ33.2.1 52 j ≤ 1 := fun j => hT.2 52 j
              have A53 : ∀ j, 0 ≤ τ33.2.1 53 j ∧ τ33.2.1 53 j ≤ 1 := fun j => hT.2 53 j
              have A54 : ∀ j, (-1) ≤ τ33.2.1 54 j ∧ τ33.2.1 54 j ≤ 999 := fun j => hT.2 54 j
              have A55 : ∀ j, (-1) ≤ τ33.2.1 55 j ∧ τ33.2.1 55 j ≤ 1499 := fun j => hT.2 55 j
              have v0 : 0 ≤ τ33.1 0 ∧ τ33.1 0 ≤ 60000 := hT.1 0
              have v1 : 0 ≤ τ33.1 1 ∧ τ33.1 1 ≤ 1 := hT.1 1
              have v2 : 0 ≤ τ33.1 2 ∧ τ33.1 2 ≤ 30000 := hT.1 2
              have v3 : 0 ≤ τ33.1 3 ∧ τ33.1 3 ≤ 1000 := hT.1 3
              have v4 : 0 ≤ τ33.1 4 ∧ τ33.1 4 ≤ 100 := hT.1 4
              have v5 : 0 ≤ τ33.1 5 ∧ τ33.1 5 ≤ 1500 := hT.1 5
              have v6 : 0 ≤ τ33.1 6 ∧ τ33.1 6 ≤ 30000 := hT.1 6
              have v7 : 0 ≤ τ33.1 7 ∧ τ33.1 7 ≤ 90000 := hT.1 7
              have v8 : 0 ≤ τ33.1 8 ∧ τ33.1 8 ≤ 20000 := hT.1 8
              have v9 : 0 ≤ τ33.1 9 ∧ τ33.1 9 ≤ 20000 := hT.1 9
              have v12 : 0 ≤ τ33.1 12 ∧ τ33.1 12 ≤ 1000 := hT.1 12
              have v13 : 0 ≤ τ33.1 13 ∧ τ33.1 13 ≤ 1500 := hT.1 13
              have v14 : 0 ≤ τ33.1 14 ∧ τ33.1 14 ≤ 1000 := hT.1 14
              have v15 : 0 ≤ τ33.1 15 ∧ τ33.1 15 ≤ 50 := hT.1 15
              have v16 : 0 ≤ τ33.1 16 ∧ τ33.1 16 ≤ 60000 := hT.1 16
              have v17 : 0 ≤ τ33.1 17 ∧ τ33.1 17 ≤ 60000 := hT.1 17
              have v18 : 0 ≤ τ33.1 18 ∧ τ33.1 18 ≤ 60000 := hT.1 18
              have v19 : (-1) ≤ τ33.1 19 ∧ τ33.1 19 ≤ 125 := hT.1 19
              have v20 : 0 ≤ τ33.1 20 ∧ τ33.1 20 ≤ 19 := hT.1 20
              have v38 : 0 ≤ τ33.1 38 ∧ τ33.1 38 ≤ 1500 := hT.1 38
              have v49 : 0 ≤ τ33.1 49 ∧ τ33.1 49 ≤ 1 := hT.1 49
              have av3 : σ.1 3 ≤ τ33.1 3 := ag.1 3 (by decide)
              have av5 : σ.1 5 ≤ τ33.1 5 := ag.1 5 (by decide)
              have av6 : σ.1 6 ≤ τ33.1 6 := ag.1 6 (by decide)
              have av7 : σ.1 7 ≤ τ33.1 7 := ag.1 7 (by decide)
              have av8 : σ.1 8 ≤ τ33.1 8 := ag.1 8 (by decide)
              have av9 : σ.1 9 ≤ τ33.1 9 := ag.1 9 (by decide)
              exact ⟨hT, (show oc (τ33.2.1 6) ≤ (τ33.1 3) from SYt), (show oc (τ33.2.1 7) ≤ (τ33.1 5) from by (first | omega | (simp only [st_s] <;> omega) | assumption | omega)), (show (τ33.1 12) ≤ ca (τ33.2.1 9) (τ33.1 3) from AVt), (show j_l2 (τ33.2.1 6) (τ33.1 3) from Y1), (show ca (τ33.2.1 12) ((τ33.1 3)) ≤ (τ33.1 4) from Y20), (show J_pa (τ33.2.1 21) (τ33.2.1 22) from PA), (show (τ33.1 7) ≤ 60 * (τ33.1 5) from by (first | omega | (simp only [st_s] <;> omega) | assumption | omega)), (show (τ33.1 13) ≤ (τ33.1 5) from by (first | omega | (simp only [st_s] <;> omega) | assumption | omega)), (show m_J τ33 from by (first | (exfalso; omega) | exact m_J_f (by exact i61_12 (by omega)) hf_τ33 rfl rfl | exact m_J_f (by exact (show m_J τ30 from m_J_b p9 agk hT0 Y8k (by omega) (u_of hf_τ30 [14, 15, 18, 19, 21, 22, 25, 26, 28] rfl) (by by_cases z : σ.1 5 = 0; exact Or.inl z; exact Or.inr ⟨by omega, by omega, by omega, by omega⟩))) hf_τ33 rfl rfl)), (show (τ33.1 0) = 0 from by (first | omega | (simp only [st_s] <;> omega) | assumption | omega)), (show (τ33.1 1) = 0 from by (first | omega | (simp only [st_s] <;> omega) | assumption | omega))⟩
            ·
              have hz : ¬ σ.1 5 = 0 → τ26.2.1 14 (σ.1 5 - 1) + τ26.2.1 15 (σ.1 5 - 1) ≤ 30000 ∧ τ26.2.1 18 (σ.1 5 - 1) + τ26.2.1 19 (σ.1 5 - 1) ≤ 60 * σ.1 5 ∧ τ26.2.1 21 (σ.1 5 - 1) + τ26.2.1 22 (σ.1 5 - 1) ≤ 20000 ∧ τ26.2.1 25 (σ.1 5 - 1) + τ26.2.1 26 (σ.1 5 - 1) ≤ 20000 := by intro z; obtain ⟨⟨a1, a2, a3, a4⟩, a5, a6, a7⟩ := p9 (σ.1 5 - 1) (by omega) (by omega); have e := fun (k : Nat) (hk : (k, 5, (0 : Int)) ∈ m_gT) => ag.2 (k, 5, 0) hk (σ.1 5 - 1) (by show σ.1 5 - 1 < σ.1 5 + 0; omega); have e14 : τ26.2.1 14 (σ.1 5 - 1) = σ.2.1 14 (σ.1 5 - 1) := e 14 (by decide); have e15 : τ26.2.1 15 (σ.1 5 - 1) = σ.2.1 15 (σ.1 5 - 1) := e 15 (by decide); have e18 : τ26.2.1 18 (σ.1 5 - 1) = σ.2.1 18 (σ.1 5 - 1) := e 18 (by decide); have e19 : τ26.2.1 19 (σ.1 5 - 1) = σ.2.1 19 (σ.1 5 - 1) := e 19 (by decide); have e21 : τ26.2.1 21 (σ.1 5 - 1) = σ.2.1 21 (σ.1 5 - 1) := e 21 (by decide); have e22 : τ26.2.1 22 (σ.1 5 - 1) = σ.2.1 22 (σ.1 5 - 1) := e 22 (by decide); have e25 : τ26.2.1 25 (σ.1 5 - 1) = σ.2.1 25 (σ.1 5 - 1) := e 25 (by decide); have e26 : τ26.2.1 26 (σ.1 5 - 1) = σ.2.1 26 (σ.1 5 - 1) := e 26 (by decide); refine ⟨?_, ?_, ?_, ?_⟩ <;> omega
              have Y8k := Y8
              have agk := ag
              refine ⟨_, K_X13_forgetText hT (show 0 ≤ (σ.1 3) from by (first | omega | (simp only [st_s] <;> omega) | assumption | omega)) (show (σ.1 3) ≤ 1000 from by (first | omega | (simp only [st_s] <;> omega) | assumption | omega)) (show 0 ≤ (σ.1 5) from by (first | omega | (simp only [st_s] <;> omega) | assumption | omega)) (show (σ.1 5) ≤ 1500 from by (first | omega | (simp only [st_s] <;> omega) | assumption | omega)) (show 0 ≤ (σ.1 2) from by (first | omega | (simp only [st_s] <;> omega) | assumption | omega)) (show (σ.1 2) ≤ 30000 from by (first | omega | (simp only [st_s] <;> omega) | assumption | omega)) (show 0 ≤ (σ.1 12) from by (first | omega | (simp only [st_s] <;> omega) | assumption | omega)) (show 0 ≤ (σ.1 13) from by (first | omega | (simp only [st_s] <;> omega) | assumption | omega)) (show (σ.1 13) ≤ (σ.1 5) from by (first | omega | (simp only [st_s] <;> omega) | assumption | omega)) (show 0 ≤ (σ.1 14) from by (first | omega | (simp only [st_s] <;> omega) | assumption | omega)) (show (τ26.1 12) ≤ ca (τ26.2.1 9) (τ26.1 3) from AVt) (show ca (τ26.2.1 53) (σ.1 3) ≤ 100 from by (rw [ca_e0 W2_ (Int.le_refl _)]; omega)) (show (σ.1 12) ≤ ca (τ26.2.1 52) (σ.1 3) from by (rw [ca_e0 W1_ (Int.le_refl _)]; omega)) (show ¬ (σ.1 5) = 0 → τ26.2.1 14 ((σ.1 5) - 1) + τ26.2.1 15 ((σ.1 5) - 1) ≤ 30000 ∧ τ26.2.1 18 ((σ.1 5) - 1) + τ26.2.1 19 ((σ.1 5) - 1) ≤ 60 * (σ.1 5) ∧ τ26.2.1 21 ((σ.1 5) - 1) + τ26.2.1 22 ((σ.1 5) - 1) ≤ 20000 ∧ τ26.2.1 25 ((σ.1 5) - 1) + τ26.2.1 26 ((σ.1 5) - 1) ≤ 20000 from by exact hz), ?_⟩
              intro τ30 hn_τ30 hf_τ30 hq
              obtain ⟨hT, q28_1, q28_2, q28_3, q28_4, q28_5, q28_6, q28_7, q28_8, q28_9, q28_10, q28_11, q28_12, q28_13⟩ := hq
              replace q28_1 : (τ30.1 3) = (σ.1 3) := q28_1
              replace q28_2 : (τ30.1 5) = (σ.1 5) := q28_2
              replace q28_3 : oc (τ30.2.1 6) ≤ (τ30.1 3) := q28_3
              replace q28_4 : oc (τ30.2.1 7) ≤ (τ30.1 5) := q28_4
              replace q28_5 : (τ30.1 12) ≤ ca (τ30.2.1 9) (τ30.1 3) := q28_5
              replace q28_6 : j_l2 (τ30.2.1 6) (τ30.1 3) := q28_6
              replace q28_7 : ca (τ30.2.1 12) ((τ30.1 3)) ≤ (τ30.1 4) := q28_7
              replace q28_8 : (τ30.1 13) ≤ (τ30.1 5) := q28_8
              replace q28_9 : (τ30.1 7) ≤ 60 * (τ30.1 5) := q28_9
              replace q28_10 : ((σ.1 5) = 0 ∨ (τ30.1 6) = τ26.2.1 14 ((σ.1 5) - 1) + τ26.2.1 15 ((σ.1 5) - 1)) := q28_10
              replace q28_11 : ((σ.1 5) = 0 ∨ (τ30.1 7) = τ26.2.1 18 ((σ.1 5) - 1) + τ26.2.1 19 ((σ.1 5) - 1)) ∧ (τ30.1 7) ≤ 60 * (σ.1 5) := q28_11
              replace q28_12 : ((σ.1 5) = 0 ∨ (τ30.1 8) = τ26.2.1 21 ((σ.1 5) - 1) + τ26.2.1 22 ((σ.1 5) - 1)) := q28_12
              replace q28_13 : ((σ.1 5) = 0 ∨ (τ30.1 9) = τ26.2.1 25 ((σ.1 5) - 1) + τ26.2.1 26 ((σ.1 5) - 1)) := q28_13
              have w0_τ30 : τ30.1 0 = τ26.1 0 := hf_τ30.1 0 (by decide)
              have w1_τ30 : τ30.1 1 = τ26.1 1 := hf_τ30.1 1 (by decide)
              have w15_τ30 : τ30.1 15 = τ26.1 15 := hf_τ30.1 15 (by decide)
              have w16_τ30 : τ30.1 16 = τ26.1 16 := hf_τ30.1 16 (by decide)
              have w17_τ30 : τ30.1 17 = τ26.1 17 := hf_τ30.1 17 (by decide)
              have w18_τ30 : τ30.1 18 = τ26.1 18 := hf_τ30.1 18 (by decide)
              have w19_τ30 : τ30.1 19 = τ26.1 19 := hf_τ30.1 19 (by decide)
              have w20_τ30 : τ30.1 20 = τ26.1 20 := hf_τ30.1 20 (by decide)
              have w38_τ30 : τ30.1 38 = τ26.1 38 := hf_τ30.1 38 (by decide)
              have w49_τ30 : τ30.1 49 = τ26.1 49 := hf_τ30.1 49 (by decide)
              have g14_τ30 : τ30.2.1 14 = τ26.2.1 14 := hf_τ30.2.1 14 (by decide)
              have g15_τ30 : τ30.2.1 15 = τ26.2.1 15 := hf_τ30.2.1 15 (by decide)
              have g18_τ30 : τ30.2.1 18 = τ26.2.1 18 := hf_τ30.2.1 18 (by decide)
              have g19_τ30 : τ30.2.1 19 = τ26.2.1 19 := hf_τ30.2.1 19 (by decide)
              have g21_τ30 : τ30.2.1 21 = τ26.2.1 21 := hf_τ30.2.1 21 (by decide)
              have g22_τ30 : τ30.2.1 22 = τ26.2.1 22 := hf_τ30.2.1 22 (by decide)
              have g25_τ30 : τ30.2.1 25 = τ26.2.1 25 := hf_τ30.2.1 25 (by decide)
              have g26_τ30 : τ30.2.1 26 = τ26.2.1 26 := hf_τ30.2.1 26 (by decide)
              have g28_τ30 : τ30.2.1 28 = τ26.2.1 28 := hf_τ30.2.1 28 (by decide)
              have g51_τ30 : τ30.2.1 51 = τ26.2.1 51 := hf_τ30.2.1 51 (by decide)
              have g52_τ30 : τ30.2.1 52 = τ26.2.1 52 := hf_τ30.2.1 52 (by decide)
              have g53_τ30 : τ30.2.1 53 = τ26.2.1 53 := hf_τ30.2.1 53 (by decide)
              have g54_τ30 : τ30.2.1 54 = τ26.2.1 54 := hf_τ30.2.1 54 (by decide)
              have g55_τ30 : τ30.2.1 55 = τ26.2.1 55 := hf_τ30.2.1 55 (by decide)
              first | (have ca_τ30 := congr (congrArg ca g9_τ30) w3_τ30) | skip
              first | (have o6_τ30 := congrArg oc g6_τ30) | skip
              first | (have o7_τ30 := congrArg oc g7_τ30) | skip
              have Y20 : ca (τ30.2.1 12) ((τ30.1 3)) ≤ (τ30.1 4) := q28_7
              have Y8 : j_eq ((σ.1 9)) (σ.2.1 28) (τ30.2.1 28) := by rw [show (j_eq ((σ.1 9)) (σ.2.1 28) (τ30.2.1 28)) = (j_eq ((σ.1 9)) (σ.2.1 28) (τ26.2.1 28)) from by rw [g28_τ30]]; exact Y8
              have Y1 : j_l2 (τ30.2.1 6) (τ30.1 3) := q28_6
              have PA : J_pa (τ30.2.1 21) (τ30.2.1 22) := by rw [show (J_pa (τ30.2.1 21) (τ30.2.1 22)) = (J_pa (τ26.2.1 21) (τ26.2.1 22)) from by rw [g21_τ30, g22_τ30]]; exact PA
              have W0_ : j_e0 (σ.1 3) (σ.2.1 8) (τ30.2.1 51) := by rw [show (j_e0 (σ.1 3) (σ.2.1 8) (τ30.2.1 51)) = (j_e0 (σ.1 3) (σ.2.1 8) (τ26.2.1 51)) from by rw [g51_τ30]]; exact W0_
              have W1_ : j_e0 (σ.1 3) (σ.2.1 9) (τ30.2.1 52) := by rw [show (j_e0 (σ.1 3) (σ.2.1 9) (τ30.2.1 52)) = (j_e0 (σ.1 3) (σ.2.1 9) (τ26.2.1 52)) from by rw [g52_τ30]]; exact W1_
              have W2_ : j_e0 (σ.1 3) (σ.2.1 12) (τ30.2.1 53) := by rw [show (j_e0 (σ.1 3) (σ.2.1 12) (τ30.2.1 53)) = (j_e0 (σ.1 3) (σ.2.1 12) (τ26.2.1 53)) from by rw [g53_τ30]]; exact W2_
              have W3_ : j_e0 (σ.1 3) (σ.2.1 10) (τ30.2.1 54) := by rw [show (j_e0 (σ.1 3) (σ.2.1 10) (τ30.2.1 54)) = (j_e0 (σ.1 3) (σ.2.1 10) (τ26.2.1 54)) from by rw [g54_τ30]]; exact W3_
              have W4_ : j_e0 (σ.1 3) (σ.2.1 11) (τ30.2.1 55) := by rw [show (j_e0 (σ.1 3) (σ.2.1 11) (τ30.2.1 55)) = (j_e0 (σ.1 3) (σ.2.1 11) (τ26.2.1 55)) from by rw [g55_τ30]]; exact W4_
              have SYt : oc (τ30.2.1 6) ≤ (τ30.1 3) := q28_3
              have LAt : oc (τ30.2.1 7) ≤ (τ30.1 5) := q28_4
              have AVt : (τ30.1 12) ≤ ca (τ30.2.1 9) (τ30.1 3) := q28_5
              have STt : j_l2 (τ30.2.1 6) (τ30.1 3) := q28_6
              have A6 : ∀ j, (-1) ≤ τ30.2.1 6 j ∧ τ30.2.1 6 j ≤ 999 := fun j => hT.2 6 j
              have A7 : ∀ j, (-1) ≤ τ30.2.1 7 j ∧ τ30.2.1 7 j ≤ 1499 := fun j => hT.2 7 j
              have A8 : ∀ j, 0 ≤ τ30.2.1 8 j ∧ τ30.2.1 8 j ≤ 1 := fun j => hT.2 8 j
              have A9 : ∀ j, 0 ≤ τ30.2.1 9 j ∧ τ30.2.1 9 j ≤ 1 := fun j => hT.2 9 j
              have A10 : ∀ j, (-1) ≤ τ30.2.1 10 j ∧ τ30.2.1 10 j ≤ 999 := fun j => hT.2 10 j
              have A11 : ∀ j, (-1) ≤ τ30.2.1 11 j ∧ τ30.2.1 11 j ≤ 1499 := fun j => hT.2 11 j
              have A12 : ∀ j, 0 ≤ τ30.2.1 12 j ∧ τ30.2.1 12 j ≤ 1 := fun j => hT.2 12 j
              have A14 : ∀ j, 0 ≤ τ30.2.1 14 j ∧ τ30.2.1 14 j ≤ 30000 := fun j => hT.2 14 j
              have A15 : ∀ j, 0 ≤ τ30.2.1 15 j ∧ τ30.2.1 15 j ≤ 300 := fun j => hT.2 15 j
              have A18 : ∀ j, 0 ≤ τ30.2.1 18 j ∧ τ30.2.1 18 j ≤ 90000 := fun j => hT.2 18 j
              have A19 : ∀ j, 0 ≤ τ30.2.1 19 j ∧ τ30.2.1 19 j ≤ 60 := fun j => hT.2 19 j
              have A21 : ∀ j, 0 ≤ τ30.2.1 21 j ∧ τ30.2.1 21 j ≤ 20000 := fun j => hT.2 21 j
              have A22 : ∀ j, 0 ≤ τ30.2.1 22 j ∧ τ30.2.1 22 j ≤ 20000 := fun j => hT.2 22 j
              have A25 : ∀ j, 0 ≤ τ30.2.1 25 j ∧ τ30.2.1 25 j ≤ 20000 := fun j => hT.2 25 j
              have A26 : ∀ j, 0 ≤ τ30.2.1 26 j ∧ τ30.2.1 26 j ≤ 20000 := fun j => hT.2 26 j
              have A28 : ∀ j, 0 ≤ τ30.2.1 28 j ∧ τ30.2.1 28 j ≤ 1 := fun j => hT.2 28 j
              have A51 : ∀ j, 0 ≤ τ30.2.1 51 j ∧ τ30.2.1 51 j ≤ 1 := fun j => hT.2 51 j
              have A52 : ∀ j, 0 ≤ τ30.2.1 52 j ∧ τ30.2.1 52 j ≤ 1 := fun j => hT.2 52 j
              have A53 : ∀ j, 0 ≤ τ30.2.1 53 j ∧ τ30.2.1 53 j ≤ 1 := fun j => hT.2 53 j
              have A54 : ∀ j, (-1) ≤ τ30.2.1 54 j ∧ τ30.2.1 54 j ≤ 999 := fun j => hT.2 54 j
              have A55 : ∀ j, (-1) ≤ τ30.2.1 55 j ∧ τ30.2.1 55 j ≤ 1499 := fun j => hT.2 55 j
              have v0 : 0 ≤ τ30.1 0 ∧ τ30.1 0 ≤ 60000 := hT.1 0
              have v1 : 0 ≤ τ30.1 1 ∧ τ30.1 1 ≤ 1 := hT.1 1
              have v2 : 0 ≤ τ30.1 2 ∧ τ30.1 2 ≤ 30000 := hT.1 2
              have v3 : 0 ≤ τ30.1 3 ∧ τ30.1 3 ≤ 1000 := hT.1 3
              have v4 : 0 ≤ τ30.1 4 ∧ τ30.1 4 ≤ 100 := hT.1 4
              have v5 : 0 ≤ τ30.1 5 ∧ τ30.1 5 ≤ 1500 := hT.1 5
              have v6 : 0 ≤ τ30.1 6 ∧ τ30.1 6 ≤ 30000 := hT.1 6
              have v7 : 0 ≤ τ30.1 7 ∧ τ30.1 7 ≤ 90000 := hT.1 7
              have v8 : 0 ≤ τ30.1 8 ∧ τ30.1 8 ≤ 20000 := hT.1 8
              have v9 : 0 ≤ τ30.1 9 ∧ τ30.1 9 ≤ 20000 := hT.1 9
              have v12 : 0 ≤ τ30.1 12 ∧ τ30.1 12 ≤ 1000 := hT.1 12
              have v13 : 0 ≤ τ30.1 13 ∧ τ30.1 13 ≤ 1500 := hT.1 13
              have v14 : 0 ≤ τ30.1 14 ∧ τ30.1 14 ≤ 1000 := hT.1 14
              have v15 : 0 ≤ τ30.1 15 ∧ τ30.1 15 ≤ 50 := hT.1 15
              have v16 : 0 ≤ τ30.1 16 ∧ τ30.1 16 ≤ 60000 := hT.1 16
              have v17 : 0 ≤ τ30.1 17 ∧ τ30.1 17 ≤ 60000 := hT.1 17
              have v18 : 0 ≤ τ30.1 18 ∧ τ30.1 18 ≤ 60000 := hT.1 18
              have v19 : (-1) ≤ τ30.1 19 ∧ τ30.1 19 ≤ 125 := hT.1 19
              have v20 : 0 ≤ τ30.1 20 ∧ τ30.1 20 ≤ 19 := hT.1 20
              have v38 : 0 ≤ τ30.1 38 ∧ τ30.1 38 ≤ 1500 := hT.1 38
              have v49 : 0 ≤ τ30.1 49 ∧ τ30.1 49 ≤ 1 := hT.1 49
              refine h136 _ _ ?_
              replace hT := mT_v (i := 0) hT (show (0 : Int) ≤ 0 ∧ 0 ≤ 60000 from by (first | omega | (simp only [st_s] <;> omega) | assumption | omega))
              replace hT := mT_v (i := 1) hT (show (0 : Int) ≤ 0 ∧ 0 ≤ 1 from by (first | omega | (simp only [st_s] <;> omega) | assumption | omega))
              refine ⟨_, K_X13_forgetTrees hT (show 0 ≤ (σ.1 5) from by (first | omega | (simp only [st_s] <;> omega) | assumption | omega)) (show (σ.1 5) ≤ 1500 from by (first | omega | (simp only [st_s] <;> omega) | assumption | omega)), ?_⟩
              intro τ33 hn_τ33 hf_τ33 hq
              obtain ⟨hT, q31_1, q31_2⟩ := hq
              replace q31_1 : (τ33.1 38) = 0 := q31_1
              replace q31_2 : (τ33.1 49) = 0 := q31_2
              have w0_τ33 : τ33.1 0 = 0 := hf_τ33.1 0 (by decide)
              have w1_τ33 : τ33.1 1 = 0 := hf_τ33.1 1 (by decide)
              have w2_τ33 : τ33.1 2 = τ30.1 2 := hf_τ33.1 2 (by decide)
              have w3_τ33 : τ33.1 3 = τ30.1 3 := hf_τ33.1 3 (by decide)
              have w4_τ33 : τ33.1 4 = τ30.1 4 := hf_τ33.1 4 (by decide)
              have w5_τ33 : τ33.1 5 = τ30.1 5 := hf_τ33.1 5 (by decide)
              have w6_τ33 : τ33.1 6 = τ30.1 6 := hf_τ33.1 6 (by decide)
              have w7_τ33 : τ33.1 7 = τ30.1 7 := hf_τ33.1 7 (by decide)
              have w8_τ33 : τ33.1 8 = τ30.1 8 := hf_τ33.1 8 (by decide)
              have w9_τ33 : τ33.1 9 = τ30.1 9 := hf_τ33.1 9 (by decide)
              have w12_τ33 : τ33.1 12 = τ30.1 12 := hf_τ33.1 12 (by decide)
              have w13_τ33 : τ33.1 13 = τ30.1 13 := hf_τ33.1 13 (by decide)
              have w14_τ33 : τ33.1 14 = τ30.1 14 := hf_τ33.1 14 (by decide)
              have w15_τ33 : τ33.1 15 = τ30.1 15 := hf_τ33.1 15 (by decide)
              have w16_τ33 : τ33.1 16 = τ30.1 16 := hf_τ33.1 16 (by decide)
              have w17_τ33 : τ33.1 17 = τ30.1 17 := hf_τ33.1 17 (by decide)
              have w18_τ33 : τ33.1 18 = τ30.1 18 := hf_τ33.1 18 (by decide)
              have w19_τ33 : τ33.1 19 = τ30.1 19 := hf_τ33.1 19 (by decide)
              have w20_τ33 : τ33.1 20 = τ30.1 20 := hf_τ33.1 20 (by decide)
              have g6_τ33 : τ33.2.1 6 = τ30.2.1 6 := hf_τ33.2.1 6 (by decide)
              have g7_τ33 : τ33.2.1 7 = τ30.2.1 7 := hf_τ33.2.1 7 (by decide)
              have g8_τ33 : τ33.2.1 8 = τ30.2.1 8 := hf_τ33.2.1 8 (by decide)
              have g9_τ33 : τ33.2.1 9 = τ30.2.1 9 := hf_τ33.2.1 9 (by decide)
              have g10_τ33 : τ33.2.1 10 = τ30.2.1 10 := hf_τ33.2.1 10 (by decide)
              have g11_τ33 : τ33.2.1 11 = τ30.2.1 11 := hf_τ33.2.1 11 (by decide)
              have g12_τ33 : τ33.2.1 12 = τ30.2.1 12 := hf_τ33.2.1 12 (by decide)
              have g14_τ33 : τ33.2.1 14 = τ30.2.1 14 := hf_τ33.2.1 14 (by decide)
              have g15_τ33 : τ33.2.1 15 = τ30.2.1 15 := hf_τ33.2.1 15 (by decide)
              have g18_τ33 : τ33.2.1 18 = τ30.2.1 18 := hf_τ33.2.1 18 (by decide)
              have g19_τ33 : τ33.2.1 19 = τ30.2.1 19 := hf_τ33.2.1 19 (by decide)
              have g21_τ33 : τ33.2.1 21 = τ30.2.1 21 := hf_τ33.2.1 21 (by decide)
              have g22_τ33 : τ33.2.1 22 = τ30.2.1 22 := hf_τ33.2.1 22 (by decide)
              have g25_τ33 : τ33.2.1 25 = τ30.2.1 25 := hf_τ33.2.1 25 (by decide)
              have g26_τ33 : τ33.2.1 26 = τ30.2.1 26 := hf_τ33.2.1 26 (by decide)
              have g28_τ33 : τ33.2.1 28 = τ30.2.1 28 := hf_τ33.2.1 28 (by decide)
              have g51_τ33 : τ33.2.1 51 = τ30.2.1 51 := hf_τ33.2.1 51 (by decide)
              have g52_τ33 : τ33.2.1 52 = τ30.2.1 52 := hf_τ33.2.1 52 (by decide)
              have g53_τ33 : τ33.2.1 53 = τ30.2.1 53 := hf_τ33.2.1 53 (by decide)
              have g54_τ33 : τ33.2.1 54 = τ30.2.1 54 := hf_τ33.2.1 54 (by decide)
              have g55_τ33 : τ33.2.1 55 = τ30.2.1 55 := hf_τ33.2.1 55 (by decide)
              first | (have ca_τ33 := congr (congrArg ca g9_τ33) w3_τ33) | skip
              first | (have o6_τ33 := congrArg oc g6_τ33) | skip
              first | (have o7_τ33 := congrArg oc g7_τ33) | skip
              have Y20 : ca (τ33.2.1 12) ((τ33.1 3)) ≤ (τ33.1 4) := by rw [show (ca (τ33.2.1 12) ((τ33.1 3)) ≤ (τ33.1 4)) = (ca (τ30.2.1 12) ((τ30.1 3)) ≤ (τ30.1 4)) from by rw [w3_τ33, w4_τ33, g12_τ33]]; exact Y20
              have Y8 : j_eq ((σ.1 9)) (σ.2.1 28) (τ33.2.1 28) := by rw [show (j_eq ((σ.1 9)) (σ.2.1 28) (τ33.2.1 28)) = (j_eq ((σ.1 9)) (σ.2.1 28) (τ30.2.1 28)) from by rw [g28_τ33]]; exact Y8
              have Y1 : j_l2 (τ33.2.1 6) (τ33.1 3) := by rw [show (j_l2 (τ33.2.1 6) (τ33.1 3)) = (j_l2 (τ30.2.1 6) (τ30.1 3)) from by rw [w3_τ33, g6_τ33]]; exact Y1
              have PA : J_pa (τ33.2.1 21) (τ33.2.1 22) := by rw [show (J_pa (τ33.2.1 21) (τ33.2.1 22)) = (J_pa (τ30.2.1 21) (τ30.2.1 22)) from by rw [g21_τ33, g22_τ33]]; exact PA
              have W0_ : j_e0 (σ.1 3) (σ.2.1 8) (τ33.2.1 51) := by rw [show (j_e0 (σ.1 3) (σ.2.1 8) (τ33.2.1 51)) = (j_e0 (σ.1 3) (σ.2.1 8) (τ30.2.1 51)) from by rw [g51_τ33]]; exact W0_
              have W1_ : j_e0 (σ.1 3) (σ.2.1 9) (τ33.2.1 52) := by rw [show (j_e0 (σ.1 3) (σ.2.1 9) (τ33.2.1 52)) = (j_e0 (σ.1 3) (σ.2.1 9) (τ30.2.1 52)) from by rw [g52_τ33]]; exact W1_
              have W2_ : j_e0 (σ.1 3) (σ.2.1 12) (τ33.2.1 53) := by rw [show (j_e0 (σ.1 3) (σ.2.1 12) (τ33.2.1 53)) = (j_e0 (σ.1 3) (σ.2.1 12) (τ30.2.1 53)) from by rw [g53_τ33]]; exact W2_
              have W3_ : j_e0 (σ.1 3) (σ.2.1 10) (τ33.2.1 54) := by rw [show (j_e0 (σ.1 3) (σ.2.1 10) (τ33.2.1 54)) = (j_e0 (σ.1 3) (σ.2.1 10) (τ30.2.1 54)) from by rw [g54_τ33]]; exact W3_
              have W4_ : j_e0 (σ.1 3) (σ.2.1 11) (τ33.2.1 55) := by rw [show (j_e0 (σ.1 3) (σ.2.1 11) (τ33.2.1 55)) = (j_e0 (σ.1 3) (σ.2.1 11) (τ30.2.1 55)) from by rw [g55_τ33]]; exact W4_
              have SYt : oc (τ33.2.1 6) ≤ (τ33.1 3) := by rw [show (oc (τ33.2.1 6) ≤ (τ33.1 3)) = (oc (τ30.2.1 6) ≤ (τ30.1 3)) from by rw [w3_τ33, g6_τ33]]; exact SYt
              have LAt : oc (τ33.2.1 7) ≤ (τ33.1 5) := by rw [show (oc (τ33.2.1 7) ≤ (τ33.1 5)) = (oc (τ30.2.1 7) ≤ (τ30.1 5)) from by rw [w5_τ33, g7_τ33]]; exact LAt
              have AVt : (τ33.1 12) ≤ ca (τ33.2.1 9) (τ33.1 3) := by rw [show ((τ33.1 12) ≤ ca (τ33.2.1 9) (τ33.1 3)) = ((τ30.1 12) ≤ ca (τ30.2.1 9) (τ30.1 3)) from by rw [w3_τ33, w12_τ33, g9_τ33]]; exact AVt
              have STt : j_l2 (τ33.2.1 6) (τ33.1 3) := by rw [show (j_l2 (τ33.2.1 6) (τ33.1 3)) = (j_l2 (τ30.2.1 6) (τ30.1 3)) from by rw [w3_τ33, g6_τ33]]; exact STt
              have A6 : ∀ j, (-1) ≤ τ33.2.1 6 j ∧ τ33.2.1 6 j ≤ 999 := fun j => hT.2 6 j
              have A7 : ∀ j, (-1) ≤ τ33.2.1 7 j ∧ τ33.2.1 7 j ≤ 1499 := fun j => hT.2 7 j
              have A8 : ∀ j, 0 ≤ τ33.2.1 8 j ∧ τ33.2.1 8 j ≤ 1 := fun j => hT.2 8 j
              have A9 : ∀ j, 0 ≤ τ33.2.1 9 j ∧ τ33.2.1 9 j ≤ 1 := fun j => hT.2 9 j
              have A10 : ∀ j, (-1) ≤ τ33.2.1 10 j ∧ τ33.2.1 10 j ≤ 999 := fun j => hT.2 10 j
              have A11 : ∀ j, (-1) ≤ τ33.2.1 11 j ∧ τ33.2.1 11 j ≤ 1499 := fun j => hT.2 11 j
              have A12 : ∀ j, 0 ≤ τ33.2.1 12 j ∧ τ33.2.1 12 j ≤ 1 := fun j => hT.2 12 j
              have A14 : ∀ j, 0 ≤ τ33.2.1 14 j ∧ τ33.2.1 14 j ≤ 30000 := fun j => hT.2 14 j
              have A15 : ∀ j, 0 ≤ τ33.2.1 15 j ∧ τ33.2.1 15 j ≤ 300 := fun j => hT.2 15 j
              have A18 : ∀ j, 0 ≤ τ33.2.1 18 j ∧ τ33.2.1 18 j ≤ 90000 := fun j => hT.2 18 j
              have A19 : ∀ j, 0 ≤ τ33.2.1 19 j ∧ τ33.2.1 19 j ≤ 60 := fun j => hT.2 19 j
              have A21 : ∀ j, 0 ≤ τ33.2.1 21 j ∧ τ33.2.1 21 j ≤ 20000 := fun j => hT.2 21 j
              have A22 : ∀ j, 0 ≤ τ33.2.1 22 j ∧ τ33.2.1 22 j ≤ 20000 := fun j => hT.2 22 j
              have A25 : ∀ j, 0 ≤ τ33.2.1 25 j ∧ τ33.2.1 25 j ≤ 20000 := fun j => hT.2 25 j
              have A26 : ∀ j, 0 ≤ τ33.2.1 26 j ∧ τ33.2.1 26 j ≤ 20000 := fun j => hT.2 26 j
              have A28 : ∀ j, 0 ≤ τ33.2.1 28 j ∧ τ33.2.1 28 j ≤ 1 := fun j => hT.2 28 j
              have A51 : ∀ j, 0 ≤ τ33.2.1 51 j ∧ τ33.2.1 51 j ≤ 1 := fun j => hT.2 51 j
              have A52 : ∀ j, 0 ≤ τ33.2.1 52 j ∧ τ33.2.1 52 j ≤ 1 := fun j => hT.2 52 j
              have A53 : ∀ j, 0 ≤ τ33.2.1 53 j ∧ τ33.2.1 53 j ≤ 1 := fun j => hT.2 53 j
              have A54 : ∀ j, (-1) ≤ τ33.2.1 54 j ∧ τ33.2.1 54 j ≤ 999 := fun j => hT.2 54 j
              have A55 : ∀ j, (-1) ≤ τ33.2.1 55 j ∧ τ33.2.1 55 j ≤ 1499 := fun j => hT.2 55 j
              have v0 : 0 ≤ τ33.1 0 ∧ τ33.1 0 ≤ 60000 := hT.1 0
              have v1 : 0 ≤ τ33.1 1 ∧ τ33.1 1 ≤ 1 := hT.1 1
              have v2 : 0 ≤ τ33.1 2 ∧ τ33.1 2 ≤ 30000 := hT.1 2
              have v3 : 0 ≤ τ33.1 3 ∧ τ33.1 3 ≤ 1000 := hT.1 3
              have v4 : 0 ≤ τ33.1 4 ∧ τ33.1 4 ≤ 100 := hT.1 4
              have v5 : 0 ≤ τ33.1 5 ∧ τ33.1 5 ≤ 1500 := hT.1 5
              have v6 : 0 ≤ τ33.1 6 ∧ τ33.1 6 ≤ 30000 := hT.1 6
              have v7 : 0 ≤ τ33.1 7 ∧ τ33.1 7 ≤ 90000 := hT.1 7
              have v8 : 0 ≤ τ33.1 8 ∧ τ33.1 8 ≤ 20000 := hT.1 8
              have v9 : 0 ≤ τ33.1 9 ∧ τ33.1 9 ≤ 20000 := hT.1 9
              have v12 : 0 ≤ τ33.1 12 ∧ τ33.1 12 ≤ 1000 := hT.1 12
              have v13 : 0 ≤ τ33.1 13 ∧ τ33.1 13 ≤ 1500 := hT.1 13
              have v14 : 0 ≤ τ33.1 14 ∧ τ33.1 14 ≤ 1000 := hT.1 14
              have v15 : 0 ≤ τ33.1 15 ∧ τ33.1 15 ≤ 50 := hT.1 15
              have v16 : 0 ≤ τ33.1 16 ∧ τ33.1 16 ≤ 60000 := hT.1 16
              have v17 : 0 ≤ τ33.1 17 ∧ τ33.1 17 ≤ 60000 := hT.1 17
              have v18 : 0 ≤ τ33.1 18 ∧ τ33.1 18 ≤ 60000 := hT.1 18
              have v19 : (-1) ≤ τ33.1 19 ∧ τ33.1 19 ≤ 125 := hT.1 19
              have v20 : 0 ≤ τ33.1 20 ∧ τ33.1 20 ≤ 19 := hT.1 20
              have v38 : 0 ≤ τ33.1 38 ∧ τ33.1 38 ≤ 1500 := hT.1 38
              have v49 : 0 ≤ τ33.1 49 ∧ τ33.1 49 ≤ 1 := hT.1 49
              exact ⟨hT, (show oc (τ33.2.1 6) ≤ (τ33.1 3) from SYt), (show oc (τ33.2.1 7) ≤ (τ33.1 5) from LAt), (show (τ33.1 12) ≤ ca (τ33.2.1 9) (τ33.1 3) from AVt), (show j_l2 (τ33.2.1 6) (τ33.1 3) from Y1), (show ca (τ33.2.1 12) ((τ33.1 3)) ≤ (τ33.1 4) from Y20), (show J_pa (τ33.2.1 21) (τ33.2.1 22) from PA), (show (τ33.1 7) ≤ 60 * (τ33.1 5) from by (first | omega | (simp only [st_s] <;> omega) | assumption | omega)), (show (τ33.1 13) ≤ (τ33.1 5) from by (first | omega | (simp only [st_s] <;> omega) | assumption | omega)), (show m_J τ33 from by (first | (exfalso; omega) | exact m_J_f (by exact i61_12 (by omega)) hf_τ33 rfl rfl | exact m_J_f (by exact (show m_J τ30 from m_J_b p9 agk hT0 Y8k (by omega) (u_of hf_τ30 [14, 15, 18, 19, 21, 22, 25, 26, 28] rfl) (by by_cases z : σ.1 5 = 0; exact Or.inl z; exact Or.inr ⟨by omega, by omega, by omega, by omega⟩))) hf_τ33 rfl rfl)), (show (τ33.1 0) = 0 from by (first | omega | (simp only [st_s] <;> omega) | assumption | omega)), (show (τ33.1 1) = 0 from by (first | omega | (simp only [st_s] <;> omega) | assumption | omega))⟩
      ·
        refine ⟨fun c14 => ?_, fun c14 => ?_⟩
        ·
          refine h93 _ _ _ _ _ _ _ ?_
          refine ⟨fun c22 => ?_, fun c22 => ?_⟩
          ·
            refine h116 _ _ _ _ _ _ _ ?_
            refine ⟨fun c27 => ?_, fun c27 => ?_⟩
            ·
              refine h136 _ _ ?_
              replace ag := ag_v (i := 0) (x := 0) ag (Or.inl rfl)
              replace hT := mT_v (i := 0) hT (show (0 : Int) ≤ 0 ∧ 0 ≤ 60000 from by (first | omega | (simp only [st_s] <;> omega) | assumption | omega))
              replace ag := ag_v (i := 1) (x := 0) ag (Or.inl rfl)
              replace hT := mT_v (i := 1) hT (show (0 : Int) ≤ 0 ∧ 0 ≤ 1 from by (first | omega | (simp only [st_s] <;> omega) | assumption | omega))
              refine ⟨_, K_X13_forgetTrees hT (show 0 ≤ (σ.1 5) from by (first | omega | (simp only [st_s] <;> omega) | assumption | omega)) (show (σ.1 5) ≤ 1500 from by (first | omega | (simp only [st_s] <;> omega) | assumption | omega)), ?_⟩
              intro τ33 hn_τ33 hf_τ33 hq
              obtain ⟨hT, q31_1, q31_2⟩ := hq
              replace q31_1 : (τ33.1 38) = 0 := q31_1
              replace q31_2 : (τ33.1 49) = 0 := q31_2
              replace ag : m_ag σ τ33 := ag_r ag hf_τ33 rfl rfl
              have w0_τ33 : τ33.1 0 = 0 := hf_τ33.1 0 (by decide)
              have w1_τ33 : τ33.1 1 = 0 := hf_τ33.1 1 (by decide)
              have w2_τ33 : τ33.1 2 = τ_61.1 2 := hf_τ33.1 2 (by decide)
              have w3_τ33 : τ33.1 3 = τ_61.1 3 := hf_τ33.1 3 (by decide)
              have w4_τ33 : τ33.1 4 = τ_61.1 4 := hf_τ33.1 4 (by decide)
              have w5_τ33 : τ33.1 5 = τ_61.1 5 := hf_τ33.1 5 (by decide)
              have w6_τ33 : τ33.1 6 = τ_61.1 6 := hf_τ33.1 6 (by decide)
              have w7_τ33 : τ33.1 7 = τ_61.1 7 := hf_τ33.1 7 (by decide)
              have w8_τ33 : τ33.1 8 = τ_61.1 8 := hf_τ33.1 8 (by decide)
              have w9_τ33 : τ33.1 9 = τ_61.1 9 := hf_τ33.1 9 (by decide)
              have w12_τ33 : τ33.1 12 = τ_61.1 12 := hf_τ33.1 12 (by decide)
              have w13_τ33 : τ33.1 13 = τ_61.1 13 := hf_τ33.1 13 (by decide)
              have w14_τ33 : τ33.1 14 = τ_61.1 14 := hf_τ33.1 14 (by decide)
              have w15_τ33 : τ33.1 15 = τ_61.1 15 := hf_τ33.1 15 (by decide)
              have w16_τ33 : τ33.1 16 = τ_61.1 16 := hf_τ33.1 16 (by decide)
              have w17_τ33 : τ33.1 17 = τ_61.1 17 := hf_τ33.1 17 (by decide)
              have w18_τ33 : τ33.1 18 = τ_61.1 18 := hf_τ33.1 18 (by decide)
              have w19_τ33 : τ33.1 19 = τ_61.1 19 := hf_τ33.1 19 (by decide)
              have w20_τ33 : τ33.1 20 = τ_61.1 20 := hf_τ33.1 20 (by decide)
              have g6_τ33 : τ33.2.1 6 = τ_61.2.1 6 := hf_τ33.2.1 6 (by decide)
              have g7_τ33 : τ33.2.1 7 = τ_61.2.1 7 := hf_τ33.2.1 7 (by decide)
              have g8_τ33 : τ33.2.1 8 = τ_61.2.1 8 := hf_τ33.2.1 8 (by decide)
              have g9_τ33 : τ33.2.1 9 = τ_61.2.1 9 := hf_τ33.2.1 9 (by decide)
              have g10_τ33 : τ33.2.1 10 = τ_61.2.1 10 := hf_τ33.2.1 10 (by decide)
              have g11_τ33 : τ33.2.1 11 = τ_61.2.1 11 := hf_τ33.2.1 11 (by decide)
              have g12_τ33 : τ33.2.1 12 = τ_61.2.1 12 := hf_τ33.2.1 12 (by decide)
              have g14_τ33 : τ33.2.1 14 = τ_61.2.1 14 := hf_τ33.2.1 14 (by decide)
              have g15_τ33 : τ33.2.1 15 = τ_61.2.1 15 := hf_τ33.2.1 15 (by decide)
              have g18_τ33 : τ33.2.1 18 = τ_61.2.1 18 := hf_τ33.2.1 18 (by decide)
              have g19_τ33 : τ33.2.1 19 = τ_61.2.1 19 := hf_τ33.2.1 19 (by decide)
              have g21_τ33 : τ33.2.1 21 = τ_61.2.1 21 := hf_τ33.2.1 21 (by decide)
              have g22_τ33 : τ33.2.1 22 = τ_61.2.1 22 := hf_τ33.2.1 22 (by decide)
              have g25_τ33 : τ33.2.1 25 = τ_61.2.1 25 := hf_τ33.2.1 25 (by decide)
              have g26_τ33 : τ33.2.1 26 = τ_61.2.1 26 := hf_τ33.2.1 26 (by decide)
              have g28_τ33 : τ33.2.1 28 = τ_61.2.1 28 := hf_τ33.2.1 28 (by decide)
              have g51_τ33 : τ33.2.1 51 = τ_61.2.1 51 := hf_τ33.2.1 51 (by decide)
              have g52_τ33 : τ33.2.1 52 = τ_61.2.1 52 := hf_τ33.2.1 52 (by decide)
              have g53_τ33 : τ33.2.1 53 = τ_61.2.1 53 := hf_τ33.2.1 53 (by decide)
              have g54_τ33 : τ33.2.1 54 = τ_61.2.1 54 := hf_τ33.2.1 54 (by decide)
              have g55_τ33 : τ33.2.1 55 = τ_61.2.1 55 := hf_τ33.2.1 55 (by decide)
              first | (have ca_τ33 := congr (congrArg ca g9_τ33) w3_τ33) | skip
              first | (have o6_τ33 := congrArg oc g6_τ33) | skip
              first | (have o7_τ33 := congrArg oc g7_τ33) | skip
              have Y20 : ca (τ33.2.1 12) ((τ33.1 3)) ≤ (τ33.1 4) := by rw [show (ca (τ33.2.1 12) ((τ33.1 3)) ≤ (τ33.1 4)) = (ca (τ_61.2.1 12) ((τ_61.1 3)) ≤ (τ_61.1 4)) from by rw [w3_τ33, w4_τ33, g12_τ33]]; exact Y20
              have Y8 : j_eq ((σ.1 9)) (σ.2.1 28) (τ33.2.1 28) := by rw [show (j_eq ((σ.1 9)) (σ.2.1 28) (τ33.2.1 28)) = (j_eq ((σ.1 9)) (σ.2.1 28) (τ_61.2.1 28)) from by rw [g28_τ33]]; exact Y8
              have Y1 : j_l2 (τ33.2.1 6) (τ33.1 3) := by rw [show (j_l2 (τ33.2.1 6) (τ33.1 3)) = (j_l2 (τ_61.2.1 6) (τ_61.1 3)) from by rw [w3_τ33, g6_τ33]]; exact Y1
              have PA : J_pa (τ33.2.1 21) (τ33.2.1 22) := by rw [show (J_pa (τ33.2.1 21) (τ33.2.1 22)) = (J_pa (τ_61.2.1 21) (τ_61.2.1 22)) from by rw [g21_τ33, g22_τ33]]; exact PA
              have W0_ : j_e0 (σ.1 3) (σ.2.1 8) (τ33.2.1 51) := by rw [show (j_e0 (σ.1 3) (σ.2.1 8) (τ33.2.1 51)) = (j_e0 (σ.1 3) (σ.2.1 8) (τ_61.2.1 51)) from by rw [g51_τ33]]; exact W0_
              have W1_ : j_e0 (σ.1 3) (σ.2.1 9) (τ33.2.1 52) := by rw [show (j_e0 (σ.1 3) (σ.2.1 9) (τ33.2.1 52)) = (j_e0 (σ.1 3) (σ.2.1 9) (τ_61.2.1 52)) from by rw [g52_τ33]]; exact W1_
              have W2_ : j_e0 (σ.1 3) (σ.2.1 12) (τ33.2.1 53) := by rw [show (j_e0 (σ.1 3) (σ.2.1 12) (τ33.2.1 53)) = (j_e0 (σ.1 3) (σ.2.1 12) (τ_61.2.1 53)) from by rw [g53_τ33]]; exact W2_
              have W3_ : j_e0 (σ.1 3) (σ.2.1 10) (τ33.2.1 54) := by rw [show (j_e0 (σ.1 3) (σ.2.1 10) (τ33.2.1 54)) = (j_e0 (σ.1 3) (σ.2.1 10) (τ_61.2.1 54)) from by rw [g54_τ33]]; exact W3_
              have W4_ : j_e0 (σ.1 3) (σ.2.1 11) (τ33.2.1 55) := by rw [show (j_e0 (σ.1 3) (σ.2.1 11) (τ33.2.1 55)) = (j_e0 (σ.1 3) (σ.2.1 11) (τ_61.2.1 55)) from by rw [g55_τ33]]; exact W4_
              have SYt : oc (τ33.2.1 6) ≤ (τ33.1 3) := by rw [show (oc (τ33.2.1 6) ≤ (τ33.1 3)) = (oc (τ_61.2.1 6) ≤ (τ_61.1 3)) from by rw [w3_τ33, g6_τ33]]; exact SYt
              have AVt : (τ33.1 12) ≤ ca (τ33.2.1 9) (τ33.1 3) := by rw [show ((τ33.1 12) ≤ ca (τ33.2.1 9) (τ33.1 3)) = ((τ_61.1 12) ≤ ca (τ_61.2.1 9) (τ_61.1 3)) from by rw [w3_τ33, w12_τ33, g9_τ33]]; exact AVt
              have STt : j_l2 (τ33.2.1 6) (τ33.1 3) := by rw [show (j_l2 (τ33.2.1 6) (τ33.1 3)) = (j_l2 (τ_61.2.1 6) (τ_61.1 3)) from by rw [w3_τ33, g6_τ33]]; exact STt
              have A6 : ∀ j, (-1) ≤ τ33.2.1 6 j ∧ τ33.2.1 6 j ≤ 999 := fun j => hT.2 6 j
              have A7 : ∀ j, (-1) ≤ τ33.2.1 7 j ∧ τ33.2.1 7 j ≤ 1499 := fun j => hT.2 7 j
              have A8 : ∀ j, 0 ≤ τ33.2.1 8 j ∧ τ33.2.1 8 j ≤ 1 := fun j => hT.2 8 j
              have A9 : ∀ j, 0 ≤ τ33.2.1 9 j ∧ τ33.2.1 9 j ≤ 1 := fun j => hT.2 9 j
              have A10 : ∀ j, (-1) ≤ τ33.2.1 10 j ∧ τ33.2.1 10 j ≤ 999 := fun j => hT.2 10 j
              have A11 : ∀ j, (-1) ≤ τ33.2.1 11 j ∧ τ33.2.1 11 j ≤ 1499 := fun j => hT.2 11 j
              have A12 : ∀ j, 0 ≤ τ33.2.1 12 j ∧ τ33.2.1 12 j ≤ 1 := fun j => hT.2 12 j
              have A14 : ∀ j, 0 ≤ τ33.2.1 14 j ∧ τ33.2.1 14 j ≤ 30000 := fun j => hT.2 14 j
              have A15 : ∀ j, 0 ≤ τ33.2.1 15 j ∧ τ33.2.1 15 j ≤ 300 := fun j => hT.2 15 j
              have A18 : ∀ j, 0 ≤ τ33.2.1 18 j ∧ τ33.2.1 18 j ≤ 90000 := fun j => hT.2 18 j
              have A19 : ∀ j, 0 ≤ τ33.2.1 19 j ∧ τ33.2.1 19 j ≤ 60 := fun j => hT.2 19 j
              have A21 : ∀ j, 0 ≤ τ33.2.1 21 j ∧ τ33.2.1 21 j ≤ 20000 := fun j => hT.2 21 j
              have A22 : ∀ j, 0 ≤ τ33.2.1 22 j ∧ τ33.2.1 22 j ≤ 20000 := fun j => hT.2 22 j
              have A25 : ∀ j, 0 ≤ τ33.2.1 25 j ∧ τ33.2.1 25 j ≤ 20000 := fun j => hT.2 25 j
              have A26 : ∀ j, 0 ≤ τ33.2.1 26 j ∧ τ33.2.1 26 j ≤ 20000 := fun j => hT.2 26 j
              have A28 : ∀ j, 0 ≤ τ33.2.1 28 j ∧ τ33.2.1 28 j ≤ 1 := fun j => hT.2 28 j
              have A51 : ∀ j, 0 ≤ τ33.2.1 51 j ∧ τ33.2.1 51 j ≤ 1 := fun j => hT.2 51 j
              have A52 : ∀ j, 0 ≤ τ33.2.1 52 j ∧ τ33.2.1 52 j ≤ 1 := fun j => hT.2 52 j
              have A53 : ∀ j, 0 ≤ τ33.2.1 53 j ∧ τ33.2.1 53 j ≤ 1 := fun j => hT.2 53 j
              have A54 : ∀ j, (-1) ≤ τ33.2.1 54 j ∧ τ33.2.1 54 j ≤ 999 := fun j => hT.2 54 j
              have A55 : ∀ j, (-1) ≤ τ33.2.1 55 j ∧ τ33.2.1 55 j ≤ 1499 := fun j => hT.2 55 j
              have v0 : 0 ≤ τ33.1 0 ∧ τ33.1 0 ≤ 60000 := hT.1 0
              have v1 : 0 ≤ τ33.1 1 ∧ τ33.1 1 ≤ 1 := hT.1 1
              have v2 : 0 ≤ τ33.1 2 ∧ τ33.1 2 ≤ 30000 := hT.1 2
              have v3 : 0 ≤ τ33.1 3 ∧ τ33.1 3 ≤ 1000 := hT.1 3
              have v4 : 0 ≤ τ33.1 4 ∧ τ33.1 4 ≤ 100 := hT.1 4
              have v5 : 0 ≤ τ33.1 5 ∧ τ33.1 5 ≤ 1500 := hT.1 5
              have v6 : 0 ≤ τ33.1 6 ∧ τ33.1 6 ≤ 30000 := hT.1 6
              have v7 : 0 ≤ τ33.1 7 ∧ τ33.1 7 ≤ 90000 := hT.1 7
              have v8 : 0 ≤ τ33.1 8 ∧ τ33.1 8 ≤ 20000 := hT.1 8
              have v9 : 0 ≤ τ33.1 9 ∧ τ33.1 9 ≤ 20000 := hT.1 9
              have v12 : 0 ≤ τ33.1 12 ∧ τ33.1 12 ≤ 1000 := hT.1 12
              have v13 : 0 ≤ τ33.1 13 ∧ τ33.1 13 ≤ 1500 := hT.1 13
              have v14 : 0 ≤ τ33.1 14 ∧ τ33.1 14 ≤ 1000 := hT.1 14
              have v15 : 0 ≤ τ33.1 15 ∧ τ33.1 15 ≤ 50 := hT.1 15
              have v16 : 0 ≤ τ33.1 16 ∧ τ33.1 16 ≤ 60000 := hT.1 16
              have v17 : 0 ≤ τ33.1 17 ∧ τ33.1 17 ≤ 60000 := hT.1 17
              have v18 : 0 ≤ τ33.1 18 ∧ τ33.1 18 ≤ 60000 := hT.1 18
              have v19 : (-1) ≤ τ33.1 19 ∧ τ33.1 19 ≤ 125 := hT.1 19
              have v20 : 0 ≤ τ33.1 20 ∧ τ33.1 20 ≤ 19 := hT.1 20
              have v38 : 0 ≤ τ33.1 38 ∧ τ33.1 38 ≤ 1500 := hT.1 38
              have v49 : 0 ≤ τ33.1 49 ∧ τ33.1 49 ≤ 1 := hT.1 49
              have av3 : σ.1 3 ≤ τ33.1 3 := ag.1 3 (by decide)
              have av5 : σ.1 5 ≤ τ33.1 5 := ag.1 5 (by decide)
              have av6 : σ.1 6 ≤ τ33.1 6 := ag.1 6 (by decide)
              have av7 : σ.1 7 ≤ τ33.1 7 := ag.1 7 (by decide)
              have av8 : σ.1 8 ≤ τ33.1 8 := ag.1 8 (by decide)
              have av9 : σ.1 9 ≤ τ33.1 9 := ag.1 9 (by decide)
              exact ⟨hT, (show oc (τ33.2.1 6) ≤ (τ33.1 3) from SYt), (show oc (τ33.2.1 7) ≤ (τ33.1 5) from by (first | omega | (simp only [st_s] <;> omega) | assumption | omega)), (show (τ33.1 12) ≤ ca (τ33.2.1 9) (τ33.1 3) from AVt), (show j_l2 (τ33.2.1 6) (τ33.1 3) from Y1), (show ca (τ33.2.1 12) ((τ33.1 3)) ≤ (τ33.1 4) from Y20), (show J_pa (τ33.2.1 21) (τ33.2.1 22) from PA), (show (τ33.1 7) ≤ 60 * (τ33.1 5) from by (first | omega | (simp only [st_s] <;> omega) | assumption | omega)), (show (τ33.1 13) ≤ (τ33.1 5) from by (first | omega | (simp only [st_s] <;> omega) | assumption | omega)), (show m_J τ33 from by (first | (exfalso; omega) | exact m_J_f (by exact i61_12 (by omega)) hf_τ33 rfl rfl | exact m_J_f (by exact (show m_J τ30 from m_J_b p9 agk hT0 Y8k (by omega) (u_of hf_τ30 [14, 15, 18, 19, 21, 22, 25, 26, 28] rfl) (by by_cases z : σ.1 5 = 0; exact Or.inl z; exact Or.inr ⟨by omega, by omega, by omega, by omega⟩))) hf_τ33 rfl rfl)), (show (τ33.1 0) = 0 from by (first | omega | (simp only [st_s] <;> omega) | assumption | omega)), (show (τ33.1 1) = 0 from by (first | omega | (simp only [st_s] <;> omega) | assumption | omega))⟩
            ·
              have hz : ¬ σ.1 5 = 0 → τ_61.2.1 14 (σ.1 5 - 1) + τ_61.2.1 15 (σ.1 5 - 1) ≤ 30000 ∧ τ_61.2.1 18 (σ.1 5 - 1) + τ_61.2.1 19 (σ.1 5 - 1) ≤ 60 * σ.1 5 ∧ τ_61.2.1 21 (σ.1 5 - 1) + τ_61.2.1 22 (σ.1 5 - 1) ≤ 20000 ∧ τ_61.2.1 25 (σ.1 5 - 1) + τ_61.2.1 26 (σ.1 5 - 1) ≤ 20000 := by intro z; obtain ⟨⟨a1, a2, a3, a4⟩, a5, a6, a7⟩ := p9 (σ.1 5 - 1) (by omega) (by omega); have e := fun (k : Nat) (hk : (k, 5, (0 : Int)) ∈ m_gT) => ag.2 (k, 5, 0) hk (σ.1 5 - 1) (by show σ.1 5 - 1 < σ.1 5 + 0; omega); have e14 : τ_61.2.1 14 (σ.1 5 - 1) = σ.2.1 14 (σ.1 5 - 1) := e 14 (by decide); have e15 : τ_61.2.1 15 (σ.1 5 - 1) = σ.2.1 15 (σ.1 5 - 1) := e 15 (by decide); have e18 : τ_61.2.1 18 (σ.1 5 - 1) = σ.2.1 18 (σ.1 5 - 1) := e 18 (by decide); have e19 : τ_61.2.1 19 (σ.1 5 - 1) = σ.2.1 19 (σ.1 5 - 1) := e 19 (by decide); have e21 : τ_61.2.1 21 (σ.1 5 - 1) = σ.2.1 21 (σ.1 5 - 1) := e 21 (by decide); have e22 : τ_61.2.1 22 (σ.1 5 - 1) = σ.2.1 22 (σ.1 5 - 1) := e 22 (by decide); have e25 : τ_61.2.1 25 (σ.1 5 - 1) = σ.2.1 25 (σ.1 5 - 1) := e 25 (by decide); have e26 : τ_61.2.1 26 (σ.1 5 - 1) = σ.2.1 26 (σ.1 5 - 1) := e 26 (by decide); refine ⟨?_, ?_, ?_, ?_⟩ <;> omega
              have Y8k := Y8
              have agk := ag
              refine ⟨_, K_X13_forgetText hT (show 0 ≤ (σ.1 3) from by (first | omega | (simp only [st_s] <;> omega) | assumption | omega)) (show (σ.1 3) ≤ 1000 from by (first | omega | (simp only [st_s] <;> omega) | assumption | omega)) (show 0 ≤ (σ.1 5) from by (first | omega | (simp only [st_s] <;> omega) | assumption | omega)) (show (σ.1 5) ≤ 1500 from by (first | omega | (simp only [st_s] <;> omega) | assumption | omega)) (show 0 ≤ (σ.1 2) from by (first | omega | (simp only [st_s] <;> omega) | assumption | omega)) (show (σ.1 2) ≤ 30000 from by (first | omega | (simp only [st_s] <;> omega) | assumption | omega)) (show 0 ≤ (σ.1 12) from by (first | omega | (simp only [st_s] <;> omega) | assumption | omega)) (show 0 ≤ (σ.1 13) from by (first | omega | (simp only [st_s] <;> omega) | assumption | omega)) (show (σ.1 13) ≤ (σ.1 5) from by (first | omega | (simp only [st_s] <;> omega) | assumption | omega)) (show 0 ≤ (σ.1 14) from by (first | omega | (simp only [st_s] <;> omega) | assumption | omega)) (show (τ_61.1 12) ≤ ca (τ_61.2.1 9) (τ_61.1 3) from AVt) (show ca (τ_61.2.1 53) (σ.1 3) ≤ 100 from by (rw [ca_e0 W2_ (Int.le_refl _)]; omega)) (show (σ.1 12) ≤ ca (τ_61.2.1 52) (σ.1 3) from by (rw [ca_e0 W1_ (Int.le_refl _)]; omega)) (show ¬ (σ.1 5) = 0 → τ_61.2.1 14 ((σ.1 5) - 1) + τ_61.2.1 15 ((σ.1 5) - 1) ≤ 30000 ∧ τ_61.2.1 18 ((σ.1 5) - 1) + τ_61.2.1 19 ((σ.1 5) - 1) ≤ 60 * (σ.1 5) ∧ τ_61.2.1 21 ((σ.1 5) - 1) + τ_61.2.1 22 ((σ.1 5) - 1) ≤ 20000 ∧ τ_61.2.1 25 ((σ.1 5) - 1) + τ_61.2.1 26 ((σ.1 5) - 1) ≤ 20000 from by exact hz), ?_⟩
              intro τ30 hn_τ30 hf_τ30 hq
              obtain ⟨hT, q28_1, q28_2, q28_3, q28_4, q28_5, q28_6, q28_7, q28_8, q28_9, q28_10, q28_11, q28_12, q28_13⟩ := hq
              replace q28_1 : (τ30.1 3) = (σ.1 3) := q28_1
              replace q28_2 : (τ30.1 5) = (σ.1 5) := q28_2
              replace q28_3 : oc (τ30.2.1 6) ≤ (τ30.1 3) := q28_3
              replace q28_4 : oc (τ30.2.1 7) ≤ (τ30.1 5) := q28_4
              replace q28_5 : (τ30.1 12) ≤ ca (τ30.2.1 9) (τ30.1 3) := q28_5
              replace q28_6 : j_l2 (τ30.2.1 6) (τ30.1 3) := q28_6
              replace q28_7 : ca (τ30.2.1 12) ((τ30.1 3)) ≤ (τ30.1 4) := q28_7
              replace q28_8 : (τ30.1 13) ≤ (τ30.1 5) := q28_8
              replace q28_9 : (τ30.1 7) ≤ 60 * (τ30.1 5) := q28_9
              replace q28_10 : ((σ.1 5) = 0 ∨ (τ30.1 6) = τ_61.2.1 14 ((σ.1 5) - 1) + τ_61.2.1 15 ((σ.1 5) - 1)) := q28_10
              replace q28_11 : ((σ.1 5) = 0 ∨ (τ30.1 7) = τ_61.2.1 18 ((σ.1 5) - 1) + τ_61.2.1 19 ((σ.1 5) - 1)) ∧ (τ30.1 7) ≤ 60 * (σ.1 5) := q28_11
              replace q28_12 : ((σ.1 5) = 0 ∨ (τ30.1 8) = τ_61.2.1 21 ((σ.1 5) - 1) + τ_61.2.1 22 ((σ.1 5) - 1)) := q28_12
              replace q28_13 : ((σ.1 5) = 0 ∨ (τ30.1 9) = τ_61.2.1 25 ((σ.1 5) - 1) + τ_61.2.1 26 ((σ.1 5) - 1)) := q28_13
              have w0_τ30 : τ30.1 0 = τ_61.1 0 := hf_τ30.1 0 (by decide)
              have w1_τ30 : τ30.1 1 = τ_61.1 1 := hf_τ30.1 1 (by decide)
              have w15_τ30 : τ30.1 15 = τ_61.1 15 := hf_τ30.1 15 (by decide)
              have w16_τ30 : τ30.1 16 = τ_61.1 16 := hf_τ30.1 16 (by decide)
              have w17_τ30 : τ30.1 17 = τ_61.1 17 := hf_τ30.1 17 (by decide)
              have w18_τ30 : τ30.1 18 = τ_61.1 18 := hf_τ30.1 18 (by decide)
              have w19_τ30 : τ30.1 19 = τ_61.1 19 := hf_τ30.1 19 (by decide)
              have w20_τ30 : τ30.1 20 = τ_61.1 20 := hf_τ30.1 20 (by decide)
              have w38_τ30 : τ30.1 38 = τ_61.1 38 := hf_τ30.1 38 (by decide)
              have w49_τ30 : τ30.1 49 = τ_61.1 49 := hf_τ30.1 49 (by decide)
              have g14_τ30 : τ30.2.1 14 = τ_61.2.1 14 := hf_τ30.2.1 14 (by decide)
              have g15_τ30 : τ30.2.1 15 = τ_61.2.1 15 := hf_τ30.2.1 15 (by decide)
              have g18_τ30 : τ30.2.1 18 = τ_61.2.1 18 := hf_τ30.2.1 18 (by decide)
              have g19_τ30 : τ30.2.1 19 = τ_61.2.1 19 := hf_τ30.2.1 19 (by decide)
              have g21_τ30 : τ30.2.1 21 = τ_61.2.1 21 := hf_τ30.2.1 21 (by decide)
              have g22_τ30 : τ30.2.1 22 = τ_61.2.1 22 := hf_τ30.2.1 22 (by decide)
              have g25_τ30 : τ30.2.1 25 = τ_61.2.1 25 := hf_τ30.2.1 25 (by decide)
              have g26_τ30 : τ30.2.1 26 = τ_61.2.1 26 := hf_τ30.2.1 26 (by decide)
              have g28_τ30 : τ30.2.1 28 = τ_61.2.1 28 := hf_τ30.2.1 28 (by decide)
              have g51_τ30 : τ30.2.1 51 = τ_61.2.1 51 := hf_τ30.2.1 51 (by decide)
              have g52_τ30 : τ30.2.1 52 = τ_61.2.1 52 := hf_τ30.2.1 52 (by decide)
              have g53_τ30 : τ30.2.1 53 = τ_61.2.1 53 := hf_τ30.2.1 53 (by decide)
              have g54_τ30 : τ30.2.1 54 = τ_61.2.1 54 := hf_τ30.2.1 54 (by decide)
              have g55_τ30 : τ30.2.1 55 = τ_61.2.1 55 := hf_τ30.2.1 55 (by decide)
              first | (have ca_τ30 := congr (congrArg ca g9_τ30) w3_τ30) | skip
              first | (have o6_τ30 := congrArg oc g6_τ30) | skip
              first | (have o7_τ30 := congrArg oc g7_τ30) | skip
              have Y20 : ca (τ30.2.1 12) ((τ30.1 3)) ≤ (τ30.1 4) := q28_7
              have Y8 : j_eq ((σ.1 9)) (σ.2.1 28) (τ30.2.1 28) := by rw [show (j_eq ((σ.1 9)) (σ.2.1 28) (τ30.2.1 28)) = (j_eq ((σ.1 9)) (σ.2.1 28) (τ_61.2.1 28)) from by rw [g28_τ30]]; exact Y8
              have Y1 : j_l2 (τ30.2.1 6) (τ30.1 3) := q28_6
              have PA : J_pa (τ30.2.1 21) (τ30.2.1 22) := by rw [show (J_pa (τ30.2.1 21) (τ30.2.1 22)) = (J_pa (τ_61.2.1 21) (τ_61.2.1 22)) from by rw [g21_τ30, g22_τ30]]; exact PA
              have W0_ : j_e0 (σ.1 3) (σ.2.1 8) (τ30.2.1 51) := by rw [show (j_e0 (σ.1 3) (σ.2.1 8) (τ30.2.1 51)) = (j_e0 (σ.1 3) (σ.2.1 8) (τ_61.2.1 51)) from by rw [g51_τ30]]; exact W0_
              have W1_ : j_e0 (σ.1 3) (σ.2.1 9) (τ30.2.1 52) := by rw [show (j_e0 (σ.1 3) (σ.2.1 9) (τ30.2.1 52)) = (j_e0 (σ.1 3) (σ.2.1 9) (τ_61.2.1 52)) from by rw [g52_τ30]]; exact W1_
              have W2_ : j_e0 (σ.1 3) (σ.2.1 12) (τ30.2.1 53) := by rw [show (j_e0 (σ.1 3) (σ.2.1 12) (τ30.2.1 53)) = (j_e0 (σ.1 3) (σ.2.1 12) (τ_61.2.1 53)) from by rw [g53_τ30]]; exact W2_
              have W3_ : j_e0 (σ.1 3) (σ.2.1 10) (τ30.2.1 54) := by rw [show (j_e0 (σ.1 3) (σ.2.1 10) (τ30.2.1 54)) = (j_e0 (σ.1 3) (σ.2.1 10) (τ_61.2.1 54)) from by rw [g54_τ30]]; exact W3_
              have W4_ : j_e0 (σ.1 3) (σ.2.1 11) (τ30.2.1 55) := by rw [show (j_e0 (σ.1 3) (σ.2.1 11) (τ30.2.1 55)) = (j_e0 (σ.1 3) (σ.2.1 11) (τ_61.2.1 55)) from by rw [g55_τ30]]; exact W4_
              have SYt : oc (τ30.2.1 6) ≤ (τ30.1 3) := q28_3
              have LAt : oc (τ30.2.1 7) ≤ (τ30.1 5) := q28_4
              have AVt : (τ30.1 12) ≤ ca (τ30.2.1 9) (τ30.1 3) := q28_5
              have STt : j_l2 (τ30.2.1 6) (τ30.1 3) := q28_6
              have A6 : ∀ j, (-1) ≤ τ30.2.1 6 j ∧ τ30.2.1 6 j ≤ 999 := fun j => hT.2 6 j
              have A7 : ∀ j, (-1) ≤ τ30.2.1 7 j ∧ τ30.2.1 7 j ≤ 1499 := fun j => hT.2 7 j
              have A8 : ∀ j, 0 ≤ τ30.2.1 8 j ∧ τ30.2.1 8 j ≤ 1 := fun j => hT.2 8 j
              have A9 : ∀ j, 0 ≤ τ30.2.1 9 j ∧ τ30.2.1 9 j ≤ 1 := fun j => hT.2 9 j
              have A10 : ∀ j, (-1) ≤ τ30.2.1 10 j ∧ τ30.2.1 10 j ≤ 999 := fun j => hT.2 10 j
              have A11 : ∀ j, (-1) ≤ τ30.2.1 11 j ∧ τ30.2.1 11 j ≤ 1499 := fun j => hT.2 11 j
              have A12 : ∀ j, 0 ≤ τ30.2.1 12 j ∧ τ30.2.1 12 j ≤ 1 := fun j => hT.2 12 j
              have A14 : ∀ j, 0 ≤ τ30.2.1 14 j ∧ τ30.2.1 14 j ≤ 30000 := fun j => hT.2 14 j
              have A15 : ∀ j, 0 ≤ τ30.2.1 15 j ∧ τ30.2.1 15 j ≤ 300 := fun j => hT.2 15 j
              have A18 : ∀ j, 0 ≤ τ30.2.1 18 j ∧ τ30.2.1 18 j ≤ 90000 := fun j => hT.2 18 j
              have A19 : ∀ j, 0 ≤ τ30.2.1 19 j ∧ τ30.2.1 19 j ≤ 60 := fun j => hT.2 19 j
              have A21 : ∀ j, 0 ≤ τ30.2.1 21 j ∧ τ30.2.1 21 j ≤ 20000 := fun j => hT.2 21 j
              have A22 : ∀ j, 0 ≤ τ30.2.1 22 j ∧ τ30.2.1 22 j ≤ 20000 := fun j => hT.2 22 j
              have A25 : ∀ j, 0 ≤ τ30.2.1 25 j ∧ τ30.2.1 25 j ≤ 20000 := fun j => hT.2 25 j
              have A26 : ∀ j, 0 ≤ τ30.2.1 26 j ∧ τ30.2.1 26 j ≤ 20000 := fun j => hT.2 26 j
              have A28 : ∀ j, 0 ≤ τ30.2.1 28 j ∧ τ30.2.1 28 j ≤ 1 := fun j => hT.2 28 j
              have A51 : ∀ j, 0 ≤ τ30.2.1 51 j ∧ τ30.2.1 51 j ≤ 1 := fun j => hT.2 51 j
              have A52 : ∀ j, 0 ≤ τ30.2.1 52 j ∧ τ30.2.1 52 j ≤ 1 := fun j => hT.2 52 j
              have A53 : ∀ j, 0 ≤ τ30.2.1 53 j ∧ τ30.2.1 53 j ≤ 1 := fun j => hT.2 53 j
              have A54 : ∀ j, (-1) ≤ τ30.2.1 54 j ∧ τ30.2.1 54 j ≤ 999 := fun j => hT.2 54 j
              have A55 : ∀ j, (-1) ≤ τ30.2.1 55 j ∧ τ30.2.1 55 j ≤ 1499 := fun j => hT.2 55 j
              have v0 : 0 ≤ τ30.1 0 ∧ τ30.1 0 ≤ 60000 := hT.1 0
              have v1 : 0 ≤ τ30.1 1 ∧ τ30.1 1 ≤ 1 := hT.1 1
              have v2 : 0 ≤ τ30.1 2 ∧ τ30.1 2 ≤ 30000 := hT.1 2
              have v3 : 0 ≤ τ30.1 3 ∧ τ30.1 3 ≤ 1000 := hT.1 3
              have v4 : 0 ≤ τ30.1 4 ∧ τ30.1 4 ≤ 100 := hT.1 4
              have v5 : 0 ≤ τ30.1 5 ∧ τ30.1 5 ≤ 1500 := hT.1 5
              have v6 : 0 ≤ τ30.1 6 ∧ τ30.1 6 ≤ 30000 := hT.1 6
              have v7 : 0 ≤ τ30.1 7 ∧ τ30.1 7 ≤ 90000 := hT.1 7
              have v8 : 0 ≤ τ30.1 8 ∧ τ30.1 8 ≤ 20000 := hT.1 8
              have v9 : 0 ≤ τ30.1 9 ∧ τ30.1 9 ≤ 20000 := hT.1 9
              have v12 : 0 ≤ τ30.1 12 ∧ τ30.1 12 ≤ 1000 := hT.1 12
              have v13 : 0 ≤ τ30.1 13 ∧ τ30.1 13 ≤ 1500 := hT.1 13
              have v14 : 0 ≤ τ30.1 14 ∧ τ30.1 14 ≤ 1000 := hT.1 14
              have v15 : 0 ≤ τ30.1 15 ∧ τ30.1 15 ≤ 50 := hT.1 15
              have v16 : 0 ≤ τ30.1 16 ∧ τ30.1 16 ≤ 60000 := hT.1 16
              have v17 : 0 ≤ τ30.1 17 ∧ τ30.1 17 ≤ 60000 := hT.1 17
              have v18 : 0 ≤ τ30.1 18 ∧ τ30.1 18 ≤ 60000 := hT.1 18
              have v19 : (-1) ≤ τ30.1 19 ∧ τ30.1 19 ≤ 125 := hT.1 19
              have v20 : 0 ≤ τ30.1 20 ∧ τ30.1 20 ≤ 19 := hT.1 20
              have v38 : 0 ≤ τ30.1 38 ∧ τ30.1 38 ≤ 1500 := hT.1 38
              have v49 : 0 ≤ τ30.1 49 ∧ τ30.1 49 ≤ 1 := hT.1 49
              refine h136 _ _ ?_
              replace hT := mT_v (i := 0) hT (show (0 : Int) ≤ 0 ∧ 0 ≤ 60000 from by (first | omega | (simp only [st_s] <;> omega) | assumption | omega))
              replace hT := mT_v (i := 1) hT (show (0 : Int) ≤ 0 ∧ 0 ≤ 1 from by (first | omega | (simp only [st_s] <;> omega) | assumption | omega))
              refine ⟨_, K_X13_forgetTrees hT (show 0 ≤ (σ.1 5) from by (first | omega | (simp only [st_s] <;> omega) | assumption | omega)) (show (σ.1 5) ≤ 1500 from by (first | omega | (simp only [st_s] <;> omega) | assumption | omega)), ?_⟩
              intro τ33 hn_τ33 hf_τ33 hq
              obtain ⟨hT, q31_1, q31_2⟩ := hq
              replace q31_1 : (τ33.1 38) = 0 := q31_1
              replace q31_2 : (τ33.1 49) = 0 := q31_2
              have w0_τ33 : τ33.1 0 = 0 := hf_τ33.1 0 (by decide)
              have w1_τ33 : τ33.1 1 = 0 := hf_τ33.1 1 (by decide)
              have w2_τ33 : τ33.1 2 = τ30.1 2 := hf_τ33.1 2 (by decide)
              have w3_τ33 : τ33.1 3 = τ30.1 3 := hf_τ33.1 3 (by decide)
              have w4_τ33 : τ33.1 4 = τ30.1 4 := hf_τ33.1 4 (by decide)
              have w5_τ33 : τ33.1 5 = τ30.1 5 := hf_τ33.1 5 (by decide)
              have w6_τ33 : τ33.1 6 = τ30.1 6 := hf_τ33.1 6 (by decide)
              have w7_τ33 : τ33.1 7 = τ30.1 7 := hf_τ33.1 7 (by decide)
              have w8_τ33 : τ33.1 8 = τ30.1 8 := hf_τ33.1 8 (by decide)
              have w9_τ33 : τ33.1 9 = τ30.1 9 := hf_τ33.1 9 (by decide)
              have w12_τ33 : τ33.1 12 = τ30.1 12 := hf_τ33.1 12 (by decide)
              have w13_τ33 : τ33.1 13 = τ30.1 13 := hf_τ33.1 13 (by decide)
              have w14_τ33 : τ33.1 14 = τ30.1 14 := hf_τ33.1 14 (by decide)
              have w15_τ33 : τ33.1 15 = τ30.1 15 := hf_τ33.1 15 (by decide)
              have w16_τ33 : τ33.1 16 = τ30.1 16 := hf_τ33.1 16 (by decide)
              have w17_τ33 : τ33.1 17 = τ30.1 17 := hf_τ33.1 17 (by decide)
              have w18_τ33 : τ33.1 18 = τ30.1 18 := hf_τ33.1 18 (by decide)
              have w19_τ33 : τ33.1 19 = τ30.1 19 := hf_τ33.1 19 (by decide)
              have w20_τ33 : τ33.1 20 = τ30.1 20 := hf_τ33.1 20 (by decide)
              have g6_τ33 : τ33.2.1 6 = τ30.2.1 6 := hf_τ33.2.1 6 (by decide)
              have g7_τ33 : τ33.2.1 7 = τ30.2.1 7 := hf_τ33.2.1 7 (by decide)
              have g8_τ33 : τ33.2.1 8 = τ30.2.1 8 := hf_τ33.2.1 8 (by decide)
              have g9_τ33 : τ33.2.1 9 = τ30.2.1 9 := hf_τ33.2.1 9 (by decide)
              have g10_τ33 : τ33.2.1 10 = τ30.2.1 10 := hf_τ33.2.1 10 (by decide)
              have g11_τ33 : τ33.2.1 11 = τ30.2.1 11 := hf_τ33.2.1 11 (by decide)
              have g12_τ33 : τ33.2.1 12 = τ30.2.1 12 := hf_τ33.2.1 12 (by decide)
              have g14_τ33 : τ33.2.1 14 = τ30.2.1 14 := hf_τ33.2.1 14 (by decide)
              have g15_τ33 : τ33.2.1 15 = τ30.2.1 15 := hf_τ33.2.1 15 (by decide)
              have g18_τ33 : τ33.2.1 18 = τ30.2.1 18 := hf_τ33.2.1 18 (by decide)
              have g19_τ33 : τ33.2.1 19 = τ30.2.1 19 := hf_τ33.2.1 19 (by decide)
              have g21_τ33 : τ33.2.1 21 = τ30.2.1 21 := hf_τ33.2.1 21 (by decide)
              have g22_τ33 : τ33.2.1 22 = τ30.2.1 22 := hf_τ33.2.1 22 (by decide)
              have g25_τ33 : τ33.2.1 25 = τ30.2.1 25 := hf_τ33.2.1 25 (by decide)
              have g26_τ33 : τ33.2.1 26 = τ30.2.1 26 := hf_τ33.2.1 26 (by decide)
              have g28_τ33 : τ33.2.1 28 = τ30.2.1 28 := hf_τ33.2.1 28 (by decide)
              have g51_τ33 : τ33.2.1 51 = τ30.2.1 51 := hf_τ33.2.1 51 (by decide)
              have g52_τ33 : τ33.2.1 52 = τ30.2.1 52 := hf_τ33.2.1 52 (by decide)
              have g53_τ33 : τ33.2.1 53 = τ30.2.1 53 := hf_τ33.2.1 53 (by decide)
              have g54_τ33 : τ33.2.1 54 = τ30.2.1 54 := hf_τ33.2.1 54 (by decide)
              have g55_τ33 : τ33.2.1 55 = τ30.2.1 55 := hf_τ33.2.1 55 (by decide)
              first | (have ca_τ33 := congr (congrArg ca g9_τ33) w3_τ33) | skip
              first | (have o6_τ33 := congrArg oc g6_τ33) | skip
              first | (have o7_τ33 := congrArg oc g7_τ33) | skip
              have Y20 : ca (τ33.2.1 12) ((τ33.1 3)) ≤ (τ33.1 4) := by rw [show (ca (τ33.2.1 12) ((τ33.1 3)) ≤ (τ33.1 4)) = (ca (τ30.2.1 12) ((τ30.1 3)) ≤ (τ30.1 4)) from by rw [w3_τ33, w4_τ33, g12_τ33]]; exact Y20
              have Y8 : j_eq ((σ.1 9)) (σ.2.1 28) (τ33.2.1 28) := by rw [show (j_eq ((σ.1 9)) (σ.2.1 28) (τ33.2.1 28)) = (j_eq ((σ.1 9)) (σ.2.1 28) (τ30.2.1 28)) from by rw [g28_τ33]]; exact Y8
              have Y1 : j_l2 (τ33.2.1 6) (τ33.1 3) := by rw [show (j_l2 (τ33.2.1 6) (τ33.1 3)) = (j_l2 (τ30.2.1 6) (τ30.1 3)) from by rw [w3_τ33, g6_τ33]]; exact Y1
              have PA : J_pa (τ33.2.1 21) (τ33.2.1 22) := by rw [show (J_pa (τ33.2.1 21) (τ33.2.1 22)) = (J_pa (τ30.2.1 21) (τ30.2.1 22)) from by rw [g21_τ33, g22_τ33]]; exact PA
              have W0_ : j_e0 (σ.1 3) (σ.2.1 8) (τ33.2.1 51) := by rw [show (j_e0 (σ.1 3) (σ.2.1 8) (τ33.2.1 51)) = (j_e0 (σ.1 3) (σ.2.1 8) (τ30.2.1 51)) from by rw [g51_τ33]]; exact W0_
              have W1_ : j_e0 (σ.1 3) (σ.2.1 9) (τ33.2.1 52) := by rw [show (j_e0 (σ.1 3) (σ.2.1 9) (τ33.2.1 52)) = (j_e0 (σ.1 3) (σ.2.1 9) (τ30.2.1 52)) from by rw [g52_τ33]]; exact W1_
              have W2_ : j_e0 (σ.1 3) (σ.2.1 12) (τ33.2.1 53) := by rw [show (j_e0 (σ.1 3) (σ.2.1 12) (τ33.2.1 53)) = (j_e0 (σ.1 3) (σ.2.1 12) (τ30.2.1 53)) from by rw [g53_τ33]]; exact W2_
              have W3_ : j_e0 (σ.1 3) (σ.2.1 10) (τ33.2.1 54) := by rw [show (j_e0 (σ.1 3) (σ.2.1 10) (τ33.2.1 54)) = (j_e0 (σ.1 3) (σ.2.1 10) (τ30.2.1 54)) from by rw [g54_τ33]]; exact W3_
              have W4_ : j_e0 (σ.1 3) (σ.2.1 11) (τ33.2.1 55) := by rw [show (j_e0 (σ.1 3) (σ.2.1 11) (τ33.2.1 55)) = (j_e0 (σ.1 3) (σ.2.1 11) (τ30.2.1 55)) from by rw [g55_τ33]]; exact W4_
              have SYt : oc (τ33.2.1 6) ≤ (τ33.1 3) := by rw [show (oc (τ33.2.1 6) ≤ (τ33.1 3)) = (oc (τ30.2.1 6) ≤ (τ30.1 3)) from by rw [w3_τ33, g6_τ33]]; exact SYt
              have LAt : oc (τ33.2.1 7) ≤ (τ33.1 5) := by rw [show (oc (τ33.2.1 7) ≤ (τ33.1 5)) = (oc (τ30.2.1 7) ≤ (τ30.1 5)) from by rw [w5_τ33, g7_τ33]]; exact LAt
              have AVt : (τ33.1 12) ≤ ca (τ33.2.1 9) (τ33.1 3) := by rw [show ((τ33.1 12) ≤ ca (τ33.2.1 9) (τ33.1 3)) = ((τ30.1 12) ≤ ca (τ30.2.1 9) (τ30.1 3)) from by rw [w3_τ33, w12_τ33, g9_τ33]]; exact AVt
              have STt : j_l2 (τ33.2.1 6) (τ33.1 3) := by rw [show (j_l2 (τ33.2.1 6) (τ33.1 3)) = (j_l2 (τ30.2.1 6) (τ30.1 3)) from by rw [w3_τ33, g6_τ33]]; exact STt
              have A6 : ∀ j, (-1) ≤ τ33.2.1 6 j ∧ τ33.2.1 6 j ≤ 999 := fun j => hT.2 6 j
              have A7 : ∀ j, (-1) ≤ τ33.2.1 7 j ∧ τ33.2.1 7 j ≤ 1499 := fun j => hT.2 7 j
              have A8 : ∀ j, 0 ≤ τ33.2.1 8 j ∧ τ33.2.1 8 j ≤ 1 := fun j => hT.2 8 j
              have A9 : ∀ j, 0 ≤ τ33.2.1 9 j ∧ τ33.2.1 9 j ≤ 1 := fun j => hT.2 9 j
              have A10 : ∀ j, (-1) ≤ τ33.2.1 10 j ∧ τ33.2.1 10 j ≤ 999 := fun j => hT.2 10 j
              have A11 : ∀ j, (-1) ≤ τ33.2.1 11 j ∧ τ33.2.1 11 j ≤ 1499 := fun j => hT.2 11 j
              have A12 : ∀ j, 0 ≤ τ33.2.1 12 j ∧ τ33.2.1 12 j ≤ 1 := fun j => hT.2 12 j
              have A14 : ∀ j, 0 ≤ τ33.2.1 14 j ∧ τ33.2.1 14 j ≤ 30000 := fun j => hT.2 14 j
              have A15 : ∀ j, 0 ≤ τ33.2.1 15 j ∧ τ33.2.1 15 j ≤ 300 := fun j => hT.2 15 j
              have A18 : ∀ j, 0 ≤ τ33.2.1 18 j ∧ τ33.2.1 18 j ≤ 90000 := fun j => hT.2 18 j
              have A19 : ∀ j, 0 ≤ τ33.2.1 19 j ∧ τ33.2.1 19 j ≤ 60 := fun j => hT.2 19 j
              have A21 : ∀ j, 0 ≤ τ33.2.1 21 j ∧ τ33.2.1 21 j ≤ 20000 := fun j => hT.2 21 j
              have A22 : ∀ j, 0 ≤ τ33.2.1 22 j ∧ τ33.2.1 22 j ≤ 20000 := fun j => hT.2 22 j
              have A25 : ∀ j, 0 ≤ τ33.2.1 25 j ∧ τ33.2.1 25 j ≤ 20000 := fun j => hT.2 25 j
              have A26 : ∀ j, 0 ≤ τ33.2.1 26 j ∧ τ33.2.1 26 j ≤ 20000 := fun j => hT.2 26 j
              have A28 : ∀ j, 0 ≤ τ33.2.1 28 j ∧ τ33.2.1 28 j ≤ 1 := fun j => hT.2 28 j
              have A51 : ∀ j, 0 ≤ τ33.2.1 51 j ∧ τ33.2.1 51 j ≤ 1 := fun j => hT.2 51 j
              have A52 : ∀ j, 0 ≤ τ33.2.1 52 j ∧ τ33.2.1 52 j ≤ 1 := fun j => hT.2 52 j
              have A53 : ∀ j, 0 ≤ τ33.2.1 53 j ∧ τ33.2.1 53 j ≤ 1 := fun j => hT.2 53 j
              have A54 : ∀ j, (-1) ≤ τ33.2.1 54 j ∧ τ33.2.1 54 j ≤ 999 := fun j => hT.2 54 j
              have A55 : ∀ j, (-1) ≤ τ33.2.1 55 j ∧ τ33.2.1 55 j ≤ 1499 := fun j => hT.2 55 j
              have v0 : 0 ≤ τ33.1 0 ∧ τ33.1 0 ≤ 60000 := hT.1 0
              have v1 : 0 ≤ τ33.1 1 ∧ τ33.1 1 ≤ 1 := hT.1 1
              have v2 : 0 ≤ τ33.1 2 ∧ τ33.1 2 ≤ 30000 := hT.1 2
              have v3 : 0 ≤ τ33.1 3 ∧ τ33.1 3 ≤ 1000 := hT.1 3
              have v4 : 0 ≤ τ33.1 4 ∧ τ33.1 4 ≤ 100 := hT.1 4
              have v5 : 0 ≤ τ33.1 5 ∧ τ33.1 5 ≤ 1500 := hT.1 5
              have v6 : 0 ≤ τ33.1 6 ∧ τ33.1 6 ≤ 30000 := hT.1 6
              have v7 : 0 ≤ τ33.1 7 ∧ τ33.1 7 ≤ 90000 := hT.1 7
              have v8 : 0 ≤ τ33.1 8 ∧ τ33.1 8 ≤ 20000 := hT.1 8
              have v9 : 0 ≤ τ33.1 9 ∧ τ33.1 9 ≤ 20000 := hT.1 9
              have v12 : 0 ≤ τ33.1 12 ∧ τ33.1 12 ≤ 1000 := hT.1 12
              have v13 : 0 ≤ τ33.1 13 ∧ τ33.1 13 ≤ 1500 := hT.1 13
              have v14 : 0 ≤ τ33.1 14 ∧ τ33.1 14 ≤ 1000 := hT.1 14
              have v15 : 0 ≤ τ33.1 15 ∧ τ33.1 15 ≤ 50 := hT.1 15
              have v16 : 0 ≤ τ33.1 16 ∧ τ33.1 16 ≤ 60000 := hT.1 16
              have v17 : 0 ≤ τ33.1 17 ∧ τ33.1 17 ≤ 60000 := hT.1 17
              have v18 : 0 ≤ τ33.1 18 ∧ τ33.1 18 ≤ 60000 := hT.1 18
              have v19 : (-1) ≤ τ33.1 19 ∧ τ33.1 19 ≤ 125 := hT.1 19
              have v20 : 0 ≤ τ33.1 20 ∧ τ33.1 20 ≤ 19 := hT.1 20
              have v38 : 0 ≤ τ33.1 38 ∧ τ33.1 38 ≤ 1500 := hT.1 38
              have v49 : 0 ≤ τ33.1 49 ∧ τ33.1 49 ≤ 1 := hT.1 49
              exact ⟨hT, (show oc (τ33.2.1 6) ≤ (τ33.1 3) from SYt), (show oc (τ33.2.1 7) ≤ (τ33.1 5) from LAt), (show (τ33.1 12) ≤ ca (τ33.2.1 9) (τ33.1 3) from AVt), (show j_l2 (τ33.2.1 6) (τ33.1 3) from Y1), (show ca (τ33.2.1 12) ((τ33.1 3)) ≤ (τ33.1 4) from Y20), (show J_pa (τ33.2.1 21) (τ33.2.1 22) from PA), (show (τ33.1 7) ≤ 60 * (τ33.1 5) from by (first | omega | (simp only [st_s] <;> omega) | assumption | omega)), (show (τ33.1 13) ≤ (τ33.1 5) from by (first | omega | (simp only [st_s] <;> omega) | assumption | omega)), (show m_J τ33 from by (first | (exfalso; omega) | exact m_J_f (by exact i61_12 (by omega)) hf_τ33 rfl rfl | exact m_J_f (by exact (show m_J τ30 from m_J_b p9 agk hT0 Y8k (by omega) (u_of hf_τ30 [14, 15, 18, 19, 21, 22, 25, 26, 28] rfl) (by by_cases z : σ.1 5 = 0; exact Or.inl z; exact Or.inr ⟨by omega, by omega, by omega, by omega⟩))) hf_τ33 rfl rfl)), (show (τ33.1 0) = 0 from by (first | omega | (simp only [st_s] <;> omega) | assumption | omega)), (show (τ33.1 1) = 0 from by (first | omega | (simp only [st_s] <;> omega) | assumption | omega))⟩
          ·
            refine ⟨fun c23 => ?_, fun c23 => ?_⟩
            ·
              refine h116 _ _ _ _ _ _ _ ?_
              refine ⟨fun c27 => ?_, fun c27 => ?_⟩
              ·
                refine h136 _ _ ?_
                replace ag := ag_v (i := 0) (x := 0) ag (Or.inl rfl)
                replace hT := mT_v (i := 0) hT (show (0 : Int) ≤ 0 ∧ 0 ≤ 60000 from by (first | omega | (simp only [st_s] <;> omega) | assumption | omega))
                replace ag := ag_v (i := 1) (x := 0) ag (Or.inl rfl)
                replace hT := mT_v (i := 1) hT (show (0 : Int) ≤ 0 ∧ 0 ≤ 1 from by (first | omega | (simp only [st_s] <;> omega) | assumption | omega))
                refine ⟨_, K_X13_forgetTrees hT (show 0 ≤ (σ.1 5) from by (first | omega | (simp only [st_s] <;> omega) | assumption | omega)) (show (σ.1 5) ≤ 1500 from by (first | omega | (simp only [st_s] <;> omega) | assumption | omega)), ?_⟩
                intro τ33 hn_τ33 hf_τ33 hq
                obtain ⟨hT, q31_1, q31_2⟩ := hq
                replace q31_1 : (τ33.1 38) = 0 := q31_1
                replace q31_2 : (τ33.1 49) = 0 := q31_2
                replace ag : m_ag σ τ33 := ag_r ag hf_τ33 rfl rfl
                have w0_τ33 : τ33.1 0 = 0 := hf_τ33.1 0 (by decide)
                have w1_τ33 : τ33.1 1 = 0 := hf_τ33.1 1 (by decide)
                have w2_τ33 : τ33.1 2 = τ_61.1 2 := hf_τ33.1 2 (by decide)
                have w3_τ33 : τ33.1 3 = τ_61.1 3 := hf_τ33.1 3 (by decide)
                have w4_τ33 : τ33.1 4 = τ_61.1 4 := hf_τ33.1 4 (by decide)
                have w5_τ33 : τ33.1 5 = τ_61.1 5 := hf_τ33.1 5 (by decide)
                have w6_τ33 : τ33.1 6 = τ_61.1 6 := hf_τ33.1 6 (by decide)
                have w7_τ33 : τ33.1 7 = τ_61.1 7 := hf_τ33.1 7 (by decide)
                have w8_τ33 : τ33.1 8 = τ_61.1 8 := hf_τ33.1 8 (by decide)
                have w9_τ33 : τ33.1 9 = τ_61.1 9 := hf_τ33.1 9 (by decide)
                have w12_τ33 : τ33.1 12 = τ_61.1 12 := hf_τ33.1 12 (by decide)
                have w13_τ33 : τ33.1 13 = τ_61.1 13 := hf_τ33.1 13 (by decide)
                have w14_τ33 : τ33.1 14 = τ_61.1 14 := hf_τ33.1 14 (by decide)
                have w15_τ33 : τ33.1 15 = τ_61.1 15 := hf_τ33.1 15 (by decide)
                have w16_τ33 : τ33.1 16 = τ_61.1 16 := hf_τ33.1 16 (by decide)
                have w17_τ33 : τ33.1 17 = τ_61.1 17 := hf_τ33.1 17 (by decide)
                have w18_τ33 : τ33.1 18 = τ_61.1 18 := hf_τ33.1 18 (by decide)
                have w19_τ33 : τ33.1 19 = τ_61.1 19 := hf_τ33.1 19 (by decide)
                have w20_τ33 : τ33.1 20 = τ_61.1 20 := hf_τ33.1 20 (by decide)
                have g6_τ33 : τ33.2.1 6 = τ_61.2.1 6 := hf_τ33.2.1 6 (by decide)
                have g7_τ33 : τ33.2.1 7 = τ_61.2.1 7 := hf_τ33.2.1 7 (by decide)
                have g8_τ33 : τ33.2.1 8 = τ_61.2.1 8 := hf_τ33.2.1 8 (by decide)
                have g9_τ33 : τ33.2.1 9 = τ_61.2.1 9 := hf_τ33.2.1 9 (by decide)
                have g10_τ33 : τ33.2.1 10 = τ_61.2.1 10 := hf_τ33.2.1 10 (by decide)
                have g11_τ33 : τ33.2.1 11 = τ_61.2.1 11 := hf_τ33.2.1 11 (by decide)
                have g12_τ33 : τ33.2.1 12 = τ_61.2.1 12 := hf_τ33.2.1 12 (by decide)
                have g14_τ33 : τ33.2.1 14 = τ_61.2.1 14 := hf_τ33.2.1 14 (by decide)
                have g15_τ33 : τ33.2.1 15 = τ_61.2.1 15 := hf_τ33.2.1 15 (by decide)
                have g18_τ33 : τ33.2.1 18 = τ_61.2.1 18 := hf_τ33.2.1 18 (by decide)
                have g19_τ33 : τ33.2.1 19 = τ_61.2.1 19 := hf_τ33.2.1 19 (by decide)
                have g21_τ33 : τ33.2.1 21 = τ_61.2.1 21 := hf_τ33.2.1 21 (by decide)
                have g22_τ33 : τ33.2.1 22 = τ_61.2.1 22 := hf_τ33.2.1 22 (by decide)
                have g25_τ33 : τ33.2.1 25 = τ_61.2.1 25 := hf_τ33.2.1 25 (by decide)
                have g26_τ33 : τ33.2.1 26 = τ_61.2.1 26 := hf_τ33.2.1 26 (by decide)
                have g28_τ33 : τ33.2.1 28 = τ_61.2.1 28 := hf_τ33.2.1 28 (by decide)
                have g51_τ33 : τ33.2.1 51 = τ_61.2.1 51 := hf_τ33.2.1 51 (by decide)
                have g52_τ33 : τ33.2.1 52 = τ_61.2.1 52 := hf_τ33.2.1 52 (by decide)
                have g53_τ33 : τ33.2.1 53 = τ_61.2.1 53 := hf_τ33.2.1 53 (by decide)
                have g54_τ33 : τ33.2.1 54 = τ_61.2.1 54 := hf_τ33.2.1 54 (by decide)
                have g55_τ33 : τ33.2.1 55 = τ_61.2.1 55 := hf_τ33.2.1 55 (by decide)
                first | (have ca_τ33 := congr (congrArg ca g9_τ33) w3_τ33) | skip
                first | (have o6_τ33 := congrArg oc g6_τ33) | skip
                first | (have o7_τ33 := congrArg oc g7_τ33) | skip
                have Y20 : ca (τ33.2.1 12) ((τ33.1 3)) ≤ (τ33.1 4) := by rw [show (ca (τ33.2.1 12) ((τ33.1 3)) ≤ (τ33.1 4)) = (ca (τ_61.2.1 12) ((τ_61.1 3)) ≤ (τ_61.1 4)) from by rw [w3_τ33, w4_τ33, g12_τ33]]; exact Y20
                have Y8 : j_eq ((σ.1 9)) (σ.2.1 28) (τ33.2.1 28) := by rw [show (j_eq ((σ.1 9)) (σ.2.1 28) (τ33.2.1 28)) = (j_eq ((σ.1 9)) (σ.2.1 28) (τ_61.2.1 28)) from by rw [g28_τ33]]; exact Y8
                have Y1 : j_l2 (τ33.2.1 6) (τ33.1 3) := by rw [show (j_l2 (τ33.2.1 6) (τ33.1 3)) = (j_l2 (τ_61.2.1 6) (τ_61.1 3)) from by rw [w3_τ33, g6_τ33]]; exact Y1
                have PA : J_pa (τ33.2.1 21) (τ33.2.1 22) := by rw [show (J_pa (τ33.2.1 21) (τ33.2.1 22)) = (J_pa (τ_61.2.1 21) (τ_61.2.1 22)) from by rw [g21_τ33, g22_τ33]]; exact PA
                have W0_ : j_e0 (σ.1 3) (σ.2.1 8) (τ33.2.1 51) := by rw [show (j_e0 (σ.1 3) (σ.2.1 8) (τ33.2.1 51)) = (j_e0 (σ.1 3) (σ.2.1 8) (τ_61.2.1 51)) from by rw [g51_τ33]]; exact W0_
                have W1_ : j_e0 (σ.1 3) (σ.2.1 9) (τ33.2.1 52) := by rw [show (j_e0 (σ.1 3) (σ.2.1 9) (τ33.2.1 52)) = (j_e0 (σ.1 3) (σ.2.1 9) (τ_61.2.1 52)) from by rw [g52_τ33]]; exact W1_
                have W2_ : j_e0 (σ.1 3) (σ.2.1 12) (τ33.2.1 53) := by rw [show (j_e0 (σ.1 3) (σ.2.1 12) (τ33.2.1 53)) = (j_e0 (σ.1 3) (σ.2.1 12) (τ_61.2.1 53)) from by rw [g53_τ33]]; exact W2_
                have W3_ : j_e0 (σ.1 3) (σ.2.1 10) (τ33.2.1 54) := by rw [show (j_e0 (σ.1 3) (σ.2.1 10) (τ33.2.1 54)) = (j_e0 (σ.1 3) (σ.2.1 10) (τ_61.2.1 54)) from by rw [g54_τ33]]; exact W3_
                have W4_ : j_e0 (σ.1 3) (σ.2.1 11) (τ33.2.1 55) := by rw [show (j_e0 (σ.1 3) (σ.2.1 11) (τ33.2.1 55)) = (j_e0 (σ.1 3) (σ.2.1 11) (τ_61.2.1 55)) from by rw [g55_τ33]]; exact W4_
                have SYt : oc (τ33.2.1 6) ≤ (τ33.1 3) := by rw [show (oc (τ33.2.1 6) ≤ (τ33.1 3)) = (oc (τ_61.2.1 6) ≤ (τ_61.1 3)) from by rw [w3_τ33, g6_τ33]]; exact SYt
                have AVt : (τ33.1 12) ≤ ca (τ33.2.1 9) (τ33.1 3) := by rw [show ((τ33.1 12) ≤ ca (τ33.2.1 9) (τ33.1 3)) = ((τ_61.1 12) ≤ ca (τ_61.2.1 9) (τ_61.1 3)) from by rw [w3_τ33, w12_τ33, g9_τ33]]; exact AVt
                have STt : j_l2 (τ33.2.1 6) (τ33.1 3) := by rw [show (j_l2 (τ33.2.1 6) (τ33.1 3)) = (j_l2 (τ_61.2.1 6) (τ_61.1 3)) from by rw [w3_τ33, g6_τ33]]; exact STt
                have A6 : ∀ j, (-1) ≤ τ33.2.1 6 j ∧ τ33.2.1 6 j ≤ 999 := fun j => hT.2 6 j
                have A7 : ∀ j, (-1) ≤ τ33.2.1 7 j ∧ τ33.2.1 7 j ≤ 1499 := fun j => hT.2 7 j
                have A8 : ∀ j, 0 ≤ τ33.2.1 8 j ∧ τ33.2.1 8 j ≤ 1 := fun j => hT.2 8 j
                have A9 : ∀ j, 0 ≤ τ33.2.1 9 j ∧ τ33.2.1 9 j ≤ 1 := fun j => hT.2 9 j
                have A10 : ∀ j, (-1) ≤ τ33.2.1 10 j ∧ τ33.2.1 10 j ≤ 999 := fun j => hT.2 10 j
                have A11 : ∀ j, (-1) ≤ τ33.2.1 11 j ∧ τ33.2.1 11 j ≤ 1499 := fun j => hT.2 11 j
                have A12 : ∀ j, 0 ≤ τ33.2.1 12 j ∧ τ33.2.1 12 j ≤ 1 := fun j => hT.2 12 j
                have A14 : ∀ j, 0 ≤ τ33.2.1 14 j ∧ τ33.2.1 14 j ≤ 30000 := fun j => hT.2 14 j
                have A15 : ∀ j, 0 ≤ τ33.2.1 15 j ∧ τ33.2.1 15 j ≤ 300 := fun j => hT.2 15 j
                have A18 : ∀ j, 0 ≤ τ33.2.1 18 j ∧ τ33.2.1 18 j ≤ 90000 := fun j => hT.2 18 j
                have A19 : ∀ j, 0 ≤ τ33.2.1 19 j ∧ τ33.2.1 19 j ≤ 60 := fun j => hT.2 19 j
                have A21 : ∀ j, 0 ≤ τ33.2.1 21 j ∧ τ33.2.1 21 j ≤ 20000 := fun j => hT.2 21 j
                have A22 : ∀ j, 0 ≤ τ33.2.1 22 j ∧ τ33.2.1 22 j ≤ 20000 := fun j => hT.2 22 j
                have A25 : ∀ j, 0 ≤ τ33.2.1 25 j ∧ τ33.2.1 25 j ≤ 20000 := fun j => hT.2 25 j
                have A26 : ∀ j, 0 ≤ τ33.2.1 26 j ∧ τ33.2.1 26 j ≤ 20000 := fun j => hT.2 26 j
                have A28 : ∀ j, 0 ≤ τ33.2.1 28 j ∧ τ33.2.1 28 j ≤ 1 := fun j => hT.2 28 j
                have A51 : ∀ j, 0 ≤ τ33.2.1 51 j ∧ τ33.2.1 51 j ≤ 1 := fun j => hT.2 51 j
                have A52 : ∀ j, 0 ≤ τ33.2.1 52 j ∧ τ33.2.1 52 j ≤ 1 := fun j => hT.2 52 j
                have A53 : ∀ j, 0 ≤ τ33.2.1 53 j ∧ τ33.2.1 53 j ≤ 1 := fun j => hT.2 53 j
                have A54 : ∀ j, (-1) ≤ τ33.2.1 54 j ∧ τ33.2.1 54 j ≤ 999 := fun j => hT.2 54 j
                have A55 : ∀ j, (-1) ≤ τ33.2.1 55 j ∧ τ33.2.1 55 j ≤ 1499 := fun j => hT.2 55 j
                have v0 : 0 ≤ τ33.1 0 ∧ τ33.1 0 ≤ 60000 := hT.1 0
                have v1 : 0 ≤ τ33.1 1 ∧ τ33.1 1 ≤ 1 := hT.1 1
                have v2 : 0 ≤ τ33.1 2 ∧ τ33.1 2 ≤ 30000 := hT.1 2
                have v3 : 0 ≤ τ33.1 3 ∧ τ33.1 3 ≤ 1000 := hT.1 3
                have v4 : 0 ≤ τ33.1 4 ∧ τ33.1 4 ≤ 100 := hT.1 4
                have v5 : 0 ≤ τ33.1 5 ∧ τ33.1 5 ≤ 1500 := hT.1 5
                have v6 : 0 ≤ τ33.1 6 ∧ τ33.1 6 ≤ 30000 := hT.1 6
                have v7 : 0 ≤ τ33.1 7 ∧ τ33.1 7 ≤ 90000 := hT.1 7
                have v8 : 0 ≤ τ33.1 8 ∧ τ33.1 8 ≤ 20000 := hT.1 8
                have v9 : 0 ≤ τ33.1 9 ∧ τ33.1 9 ≤ 20000 := hT.1 9
                have v12 : 0 ≤ τ33.1 12 ∧ τ33.1 12 ≤ 1000 := hT.1 12
                have v13 : 0 ≤ τ33.1 13 ∧ τ33.1 13 ≤ 1500 := hT.1 13
                have v14 : 0 ≤ τ33.1 14 ∧ τ33.1 14 ≤ 1000 := hT.1 14
                have v15 : 0 ≤ τ33.1 15 ∧ τ33.1 15 ≤ 50 := hT.1 15
                have v16 : 0 ≤ τ33.1 16 ∧ τ33.1 16 ≤ 60000 := hT.1 16
                have v17 : 0 ≤ τ33.1 17 ∧ τ33.1 17 ≤ 60000 := hT.1 17
                have v18 : 0 ≤ τ33.1 18 ∧ τ33.1 18 ≤ 60000 := hT.1 18
                have v19 : (-1) ≤ τ33.1 19 ∧ τ33.1 19 ≤ 125 := hT.1 19
                have v20 : 0 ≤ τ33.1 20 ∧ τ33.1 20 ≤ 19 := hT.1 20
                have v38 : 0 ≤ τ33.1 38 ∧ τ33.1 38 ≤ 1500 := hT.1 38
                have v49 : 0 ≤ τ33.1 49 ∧ τ33.1 49 ≤ 1 := hT.1 49
                have av3 : σ.1 3 ≤ τ33.1 3 := ag.1 3 (by decide)
                have av5 : σ.1 5 ≤ τ33.1 5 := ag.1 5 (by decide)
                have av6 : σ.1 6 ≤ τ33.1 6 := ag.1 6 (by decide)
                have av7 : σ.1 7 ≤ τ33.1 7 := ag.1 7 (by decide)
                have av8 : σ.1 8 ≤ τ33.1 8 := ag.1 8 (by decide)
                have av9 : σ.1 9 ≤ τ33.1 9 := ag.1 9 (by decide)
                exact ⟨hT, (show oc (τ33.2.1 6) ≤ (τ33.1 3) from SYt), (show oc (τ33.2.1 7) ≤ (τ33.1 5) from by (first | omega | (simp only [st_s] <;> omega) | assumption | omega)), (show (τ33.1 12) ≤ ca (τ33.2.1 9) (τ33.1 3) from AVt), (show j_l2 (τ33.2.1 6) (τ33.1 3) from Y1), (show ca (τ33.2.1 12) ((τ33.1 3)) ≤ (τ33.1 4) from Y20), (show J_pa (τ33.2.1 21) (τ33.2.1 22) from PA), (show (τ33.1 7) ≤ 60 * (τ33.1 5) from by (first | omega | (simp only [st_s] <;> omega) | assumption | omega)), (show (τ33.1 13) ≤ (τ33.1 5) from by (first | omega | (simp only [st_s] <;> omega) | assumption | omega)), (show m_J τ33 from by (first | (exfalso; omega) | exact m_J_f (by exact i61_12 (by omega)) hf_τ33 rfl rfl | exact m_J_f (by exact (show m_J τ30 from m_J_b p9 agk hT0 Y8k (by omega) (u_of hf_τ30 [14, 15, 18, 19, 21, 22, 25, 26, 28] rfl) (by by_cases z : σ.1 5 = 0; exact Or.inl z; exact Or.inr ⟨by omega, by omega, by omega, by omega⟩))) hf_τ33 rfl rfl)), (show (τ33.1 0) = 0 from by (first | omega | (simp only [st_s] <;> omega) | assumption | omega)), (show (τ33.1 1) = 0 from by (first | omega | (simp only [st_s] <;> omega) | assumption | omega))⟩
              ·
                have hz : ¬ σ.1 5 = 0 → τ_61.2.1 14 (σ.1 5 - 1) + τ_61.2.1 15 (σ.1 5 - 1) ≤ 30000 ∧ τ_61.2.1 18 (σ.1 5 - 1) + τ_61.2.1 19 (σ.1 5 - 1) ≤ 60 * σ.1 5 ∧ τ_61.2.1 21 (σ.1 5 - 1) + τ_61.2.1 22 (σ.1 5 - 1) ≤ 20000 ∧ τ_61.2.1 25 (σ.1 5 - 1) + τ_61.2.1 26 (σ.1 5 - 1) ≤ 20000 := by intro z; obtain ⟨⟨a1, a2, a3, a4⟩, a5, a6, a7⟩ := p9 (σ.1 5 - 1) (by omega) (by omega); have e := fun (k : Nat) (hk : (k, 5, (0 : Int)) ∈ m_gT) => ag.2 (k, 5, 0) hk (σ.1 5 - 1) (by show σ.1 5 - 1 < σ.1 5 + 0; omega); have e14 : τ_61.2.1 14 (σ.1 5 - 1) = σ.2.1 14 (σ.1 5 - 1) := e 14 (by decide); have e15 : τ_61.2.1 15 (σ.1 5 - 1) = σ.2.1 15 (σ.1 5 - 1) := e 15 (by decide); have e18 : τ_61.2.1 18 (σ.1 5 - 1) = σ.2.1 18 (σ.1 5 - 1) := e 18 (by decide); have e19 : τ_61.2.1 19 (σ.1 5 - 1) = σ.2.1 19 (σ.1 5 - 1) := e 19 (by decide); have e21 : τ_61.2.1 21 (σ.1 5 - 1) = σ.2.1 21 (σ.1 5 - 1) := e 21 (by decide); have e22 : τ_61.2.1 22 (σ.1 5 - 1) = σ.2.1 22 (σ.1 5 - 1) := e 22 (by decide); have e25 : τ_61.2.1 25 (σ.1 5 - 1) = σ.2.1 25 (σ.1 5 - 1) := e 25 (by decide); have e26 : τ_61.2.1 26 (σ.1 5 - 1) = σ.2.1 26 (σ.1 5 - 1) := e 26 (by decide); refine ⟨?_, ?_, ?_, ?_⟩ <;> omega
                have Y8k := Y8
                have agk := ag
                refine ⟨_, K_X13_forgetText hT (show 0 ≤ (σ.1 3) from by (first | omega | (simp only [st_s] <;> omega) | assumption | omega)) (show (σ.1 3) ≤ 1000 from by (first | omega | (simp only [st_s] <;> omega) | assumption | omega)) (show 0 ≤ (σ.1 5) from by (first | omega | (simp only [st_s] <;> omega) | assumption | omega)) (show (σ.1 5) ≤ 1500 from by (first | omega | (simp only [st_s] <;> omega) | assumption | omega)) (show 0 ≤ (σ.1 2) from by (first | omega | (simp only [st_s] <;> omega) | assumption | omega)) (show (σ.1 2) ≤ 30000 from by (first | omega | (simp only [st_s] <;> omega) | assumption | omega)) (show 0 ≤ (σ.1 12) from by (first | omega | (simp only [st_s] <;> omega) | assumption | omega)) (show 0 ≤ (σ.1 13) from by (first | omega | (simp only [st_s] <;> omega) | assumption | omega)) (show (σ.1 13) ≤ (σ.1 5) from by (first | omega | (simp only [st_s] <;> omega) | assumption | omega)) (show 0 ≤ (σ.1 14) from by (first | omega | (simp only [st_s] <;> omega) | assumption | omega)) (show (τ_61.1 12) ≤ ca (τ_61.2.1 9) (τ_61.1 3) from AVt) (show ca (τ_61.2.1 53) (σ.1 3) ≤ 100 from by (rw [ca_e0 W2_ (Int.le_refl _)]; omega)) (show (σ.1 12) ≤ ca (τ_61.2.1 52) (σ.1 3) from by (rw [ca_e0 W1_ (Int.le_refl _)]; omega)) (show ¬ (σ.1 5) = 0 → τ_61.2.1 14 ((σ.1 5) - 1) + τ_61.2.1 15 ((σ.1 5) - 1) ≤ 30000 ∧ τ_61.2.1 18 ((σ.1 5) - 1) + τ_61.2.1 19 ((σ.1 5) - 1) ≤ 60 * (σ.1 5) ∧ τ_61.2.1 21 ((σ.1 5) - 1) + τ_61.2.1 22 ((σ.1 5) - 1) ≤ 20000 ∧ τ_61.2.1 25 ((σ.1 5) - 1) + τ_61.2.1 26 ((σ.1 5) - 1) ≤ 20000 from by exact hz), ?_⟩
                intro τ30 hn_τ30 hf_τ30 hq
                obtain ⟨hT, q28_1, q28_2, q28_3, q28_4, q28_5, q28_6, q28_7, q28_8, q28_9, q28_10, q28_11, q28_12, q28_13⟩ := hq
                replace q28_1 : (τ30.1 3) = (σ.1 3) := q28_1
                replace q28_2 : (τ30.1 5) = (σ.1 5) := q28_2
                replace q28_3 : oc (τ30.2.1 6) ≤ (τ30.1 3) := q28_3
                replace q28_4 : oc (τ30.2.1 7) ≤ (τ30.1 5) := q28_4
                replace q28_5 : (τ30.1 12) ≤ ca (τ30.2.1 9) (τ30.1 3) := q28_5
                replace q28_6 : j_l2 (τ30.2.1 6) (τ30.1 3) := q28_6
                replace q28_7 : ca (τ30.2.1 12) ((τ30.1 3)) ≤ (τ30.1 4) := q28_7
                replace q28_8 : (τ30.1 13) ≤ (τ30.1 5) := q28_8
                replace q28_9 : (τ30.1 7) ≤ 60 * (τ30.1 5) := q28_9
                replace q28_10 : ((σ.1 5) = 0 ∨ (τ30.1 6) = τ_61.2.1 14 ((σ.1 5) - 1) + τ_61.2.1 15 ((σ.1 5) - 1)) := q28_10
                replace q28_11 : ((σ.1 5) = 0 ∨ (τ30.1 7) = τ_61.2.1 18 ((σ.1 5) - 1) + τ_61.2.1 19 ((σ.1 5) - 1)) ∧ (τ30.1 7) ≤ 60 * (σ.1 5) := q28_11
                replace q28_12 : ((σ.1 5) = 0 ∨ (τ30.1 8) = τ_61.2.1 21 ((σ.1 5) - 1) + τ_61.2.1 22 ((σ.1 5) - 1)) := q28_12
                replace q28_13 : ((σ.1 5) = 0 ∨ (τ30.1 9) = τ_61.2.1 25 ((σ.1 5) - 1) + τ_61.2.1 26 ((σ.1 5) - 1)) := q28_13
                have w0_τ30 : τ30.1 0 = τ_61.1 0 := hf_τ30.1 0 (by decide)
                have w1_τ30 : τ30.1 1 = τ_61.1 1 := hf_τ30.1 1 (by decide)
                have w15_τ30 : τ30.1 15 = τ_61.1 15 := hf_τ30.1 15 (by decide)
                have w16_τ30 : τ30.1 16 = τ_61.1 16 := hf_τ30.1 16 (by decide)
                have w17_τ30 : τ30.1 17 = τ_61.1 17 := hf_τ30.1 17 (by decide)
                have w18_τ30 : τ30.1 18 = τ_61.1 18 := hf_τ30.1 18 (by decide)
                have w19_τ30 : τ30.1 19 = τ_61.1 19 := hf_τ30.1 19 (by decide)
                have w20_τ30 : τ30.1 20 = τ_61.1 20 := hf_τ30.1 20 (by decide)
                have w38_τ30 : τ30.1 38 = τ_61.1 38 := hf_τ30.1 38 (by decide)
                have w49_τ30 : τ30.1 49 = τ_61.1 49 := hf_τ30.1 49 (by decide)
                have g14_τ30 : τ30.2.1 14 = τ_61.2.1 14 := hf_τ30.2.1 14 (by decide)
                have g15_τ30 : τ30.2.1 15 = τ_61.2.1 15 := hf_τ30.2.1 15 (by decide)
                have g18_τ30 : τ30.2.1 18 = τ_61.2.1 18 := hf_τ30.2.1 18 (by decide)
                have g19_τ30 : τ30.2.1 19 = τ_61.2.1 19 := hf_τ30.2.1 19 (by decide)
                have g21_τ30 : τ30.2.1 21 = τ_61.2.1 21 := hf_τ30.2.1 21 (by decide)
                have g22_τ30 : τ30.2.1 22 = τ_61.2.1 22 := hf_τ30.2.1 22 (by decide)
                have g25_τ30 : τ30.2.1 25 = τ_61.2.1 25 := hf_τ30.2.1 25 (by decide)
                have g26_τ30 : τ30.2.1 26 = τ_61.2.1 26 := hf_τ30.2.1 26 (by decide)
                have g28_τ30 : τ30.2.1 28 = τ_61.2.1 28 := hf_τ30.2.1 28 (by decide)
                have g51_τ30 : τ30.2.1 51 = τ_61.2.1 51 := hf_τ30.2.1 51 (by decide)
                have g52_τ30 : τ30.2.1 52 = τ_61.2.1 52 := hf_τ30.2.1 52 (by decide)
                have g53_τ30 : τ30.2.1 53 = τ_61.2.1 53 := hf_τ30.2.1 53 (by decide)
                have g54_τ30 : τ30.2.1 54 = τ_61.2.1 54 := hf_τ30.2.1 54 (by decide)
                have g55_τ30 : τ30.2.1 55 = τ_61.2.1 55 := hf_τ30.2.1 55 (by decide)
                first | (have ca_τ30 := congr (congrArg ca g9_τ30) w3_τ30) | skip
                first | (have o6_τ30 := congrArg oc g6_τ30) | skip
                first | (have o7_τ30 := congrArg oc g7_τ30) | skip
                have Y20 : ca (τ30.2.1 12) ((τ30.1 3)) ≤ (τ30.1 4) := q28_7
                have Y8 : j_eq ((σ.1 9)) (σ.2.1 28) (τ30.2.1 28) := by rw [show (j_eq ((σ.1 9)) (σ.2.1 28) (τ30.2.1 28)) = (j_eq ((σ.1 9)) (σ.2.1 28) (τ_61.2.1 28)) from by rw [g28_τ30]]; exact Y8
                have Y1 : j_l2 (τ30.2.1 6) (τ30.1 3) := q28_6
                have PA : J_pa (τ30.2.1 21) (τ30.2.1 22) := by rw [show (J_pa (τ30.2.1 21) (τ30.2.1 22)) = (J_pa (τ_61.2.1 21) (τ_61.2.1 22)) from by rw [g21_τ30, g22_τ30]]; exact PA
                have W0_ : j_e0 (σ.1 3) (σ.2.1 8) (τ30.2.1 51) := by rw [show (j_e0 (σ.1 3) (σ.2.1 8) (τ30.2.1 51)) = (j_e0 (σ.1 3) (σ.2.1 8) (τ_61.2.1 51)) from by rw [g51_τ30]]; exact W0_
                have W1_ : j_e0 (σ.1 3) (σ.2.1 9) (τ30.2.1 52) := by rw [show (j_e0 (σ.1 3) (σ.2.1 9) (τ30.2.1 52)) = (j_e0 (σ.1 3) (σ.2.1 9) (τ_61.2.1 52)) from by rw [g52_τ30]]; exact W1_
                have W2_ : j_e0 (σ.1 3) (σ.2.1 12) (τ30.2.1 53) := by rw [show (j_e0 (σ.1 3) (σ.2.1 12) (τ30.2.1 53)) = (j_e0 (σ.1 3) (σ.2.1 12) (τ_61.2.1 53)) from by rw [g53_τ30]]; exact W2_
                have W3_ : j_e0 (σ.1 3) (σ.2.1 10) (τ30.2.1 54) := by rw [show (j_e0 (σ.1 3) (σ.2.1 10) (τ30.2.1 54)) = (j_e0 (σ.1 3) (σ.2.1 10) (τ_61.2.1 54)) from by rw [g54_τ30]]; exact W3_
                have W4_ : j_e0 (σ.1 3) (σ.2.1 11) (τ30.2.1 55) := by rw [show (j_e0 (σ.1 3) (σ.2.1 11) (τ30.2.1 55)) = (j_e0 (σ.1 3) (σ.2.1 11) (τ_61.2.1 55)) from by rw [g55_τ30]]; exact W4_
                have SYt : oc (τ30.2.1 6) ≤ (τ30.1 3) := q28_3
                have LAt : oc (τ30.2.1 7) ≤ (τ30.1 5) := q28_4
                have AVt : (τ30.1 12) ≤ ca (τ30.2.1 9) (τ30.1 3) := q28_5
                have STt : j_l2 (τ30.2.1 6) (τ30.1 3) := q28_6
                have A6 : ∀ j, (-1) ≤ τ30.2.1 6 j ∧ τ30.2.1 6 j ≤ 999 := fun j => hT.2 6 j
                have A7 : ∀ j, (-1) ≤ τ30.2.1 7 j ∧ τ30.2.1 7 j ≤ 1499 := fun j => hT.2 7 j
                have A8 : ∀ j, 0 ≤ τ30.2.1 8 j ∧ τ30.2.1 8 j ≤ 1 := fun j => hT.2 8 j
                have A9 : ∀ j, 0 ≤ τ30.2.1 9 j ∧ τ30.2.1 9 j ≤ 1 := fun j => hT.2 9 j
                have A10 : ∀ j, (-1) ≤ τ30.2.1 10 j ∧ τ30.2.1 10 j ≤ 999 := fun j => hT.2 10 j
                have A11 : ∀ j, (-1) ≤ τ30.2.1 11 j ∧ τ30.2.1 11 j ≤ 1499 := fun j => hT.2 11 j
                have A12 : ∀ j, 0 ≤ τ30.2.1 12 j ∧ τ30.2.1 12 j ≤ 1 := fun j => hT.2 12 j
                have A14 : ∀ j, 0 ≤ τ30.2.1 14 j ∧ τ30.2.1 14 j ≤ 30000 := fun j => hT.2 14 j
                have A15 : ∀ j, 0 ≤ τ30.2.1 15 j ∧ τ30.2.1 15 j ≤ 300 := fun j => hT.2 15 j
                have A18 : ∀ j, 0 ≤ τ30.2.1 18 j ∧ τ30.2.1 18 j ≤ 90000 := fun j => hT.2 18 j
                have A19 : ∀ j, 0 ≤ τ30.2.1 19 j ∧ τ30.2.1 19 j ≤ 60 := fun j => hT.2 19 j
                have A21 : ∀ j, 0 ≤ τ30.2.1 21 j ∧ τ30.2.1 21 j ≤ 20000 := fun j => hT.2 21 j
                have A22 : ∀ j, 0 ≤ τ30.2.1 22 j ∧ τ30.2.1 22 j ≤ 20000 := fun j => hT.2 22 j
                have A25 : ∀ j, 0 ≤ τ30.2.1 25 j ∧ τ30.2.1 25 j ≤ 20000 := fun j => hT.2 25 j
                have A26 : ∀ j, 0 ≤ τ30.2.1 26 j ∧ τ30.2.1 26 j ≤ 20000 := fun j => hT.2 26 j
                have A28 : ∀ j, 0 ≤ τ30.2.1 28 j ∧ τ30.2.1 28 j ≤ 1 := fun j => hT.2 28 j
                have A51 : ∀ j, 0 ≤ τ30.2.1 51 j ∧ τ30.2.1 51 j ≤ 1 := fun j => hT.2 51 j
                have A52 : ∀ j, 0 ≤ τ30.2.1 52 j ∧ τ30.2.1 52 j ≤ 1 := fun j => hT.2 52 j
                have A53 : ∀ j, 0 ≤ τ30.2.1 53 j ∧ τ30.2.1 53 j ≤ 1 := fun j => hT.2 53 j
                have A54 : ∀ j, (-1) ≤ τ30.2.1 54 j ∧ τ30.2.1 54 j ≤ 999 := fun j => hT.2 54 j
                have A55 : ∀ j, (-1) ≤ τ30.2.1 55 j ∧ τ30.2.1 55 j ≤ 1499 := fun j => hT.2 55 j
                have v0 : 0 ≤ τ30.1 0 ∧ τ30.1 0 ≤ 60000 := hT.1 0
                have v1 : 0 ≤ τ30.1 1 ∧ τ30.1 1 ≤ 1 := hT.1 1
                have v2 : 0 ≤ τ30.1 2 ∧ τ30.1 2 ≤ 30000 := hT.1 2
                have v3 : 0 ≤ τ30.1 3 ∧ τ30.1 3 ≤ 1000 := hT.1 3
                have v4 : 0 ≤ τ30.1 4 ∧ τ30.1 4 ≤ 100 := hT.1 4
                have v5 : 0 ≤ τ30.1 5 ∧ τ30.1 5 ≤ 1500 := hT.1 5
                have v6 : 0 ≤ τ30.1 6 ∧ τ30.1 6 ≤ 30000 := hT.1 6
                have v7 : 0 ≤ τ30.1 7 ∧ τ30.1 7 ≤ 90000 := hT.1 7
                have v8 : 0 ≤ τ30.1 8 ∧ τ30.1 8 ≤ 20000 := hT.1 8
                have v9 : 0 ≤ τ30.1 9 ∧ τ30.1 9 ≤ 20000 := hT.1 9
                have v12 : 0 ≤ τ30.1 12 ∧ τ30.1 12 ≤ 1000 := hT.1 12
                have v13 : 0 ≤ τ30.1 13 ∧ τ30.1 13 ≤ 1500 := hT.1 13
                have v14 : 0 ≤ τ30.1 14 ∧ τ30.1 14 ≤ 1000 := hT.1 14
                have v15 : 0 ≤ τ30.1 15 ∧ τ30.1 15 ≤ 50 := hT.1 15
                have v16 : 0 ≤ τ30.1 16 ∧ τ30.1 16 ≤ 60000 := hT.1 16
                have v17 : 0 ≤ τ30.1 17 ∧ τ30.1 17 ≤ 60000 := hT.1 17
                have v18 : 0 ≤ τ30.1 18 ∧ τ30.1 18 ≤ 60000 := hT.1 18
                have v19 : (-1) ≤ τ30.1 19 ∧ τ30.1 19 ≤ 125 := hT.1 19
                have v20 : 0 ≤ τ30.1 20 ∧ τ30.1 20 ≤ 19 := hT.1 20
                have v38 : 0 ≤ τ30.1 38 ∧ τ30.1 38 ≤ 1500 := hT.1 38
                have v49 : 0 ≤ τ30.1 49 ∧ τ30.1 49 ≤ 1 := hT.1 49
                refine h136 _ _ ?_
                replace hT := mT_v (i := 0) hT (show (0 : Int) ≤ 0 ∧ 0 ≤ 60000 from by (first | omega | (simp only [st_s] <;> omega) | assumption | omega))
                replace hT := mT_v (i := 1) hT (show (0 : Int) ≤ 0 ∧ 0 ≤ 1 from by (first | omega | (simp only [st_s] <;> omega) | assumption | omega))
                refine ⟨_, K_X13_forgetTrees hT (show 0 ≤ (σ.1 5) from by (first | omega | (simp only [st_s] <;> omega) | assumption | omega)) (show (σ.1 5) ≤ 1500 from by (first | omega | (simp only [st_s] <;> omega) | assumption | omega)), ?_⟩
                intro τ33 hn_τ33 hf_τ33 hq
                obtain ⟨hT, q31_1, q31_2⟩ := hq
                replace q31_1 : (τ33.1 38) = 0 := q31_1
                replace q31_2 : (τ33.1 49) = 0 := q31_2
                have w0_τ33 : τ33.1 0 = 0 := hf_τ33.1 0 (by decide)
                have w1_τ33 : τ33.1 1 = 0 := hf_τ33.1 1 (by decide)
                have w2_τ33 : τ33.1 2 = τ30.1 2 := hf_τ33.1 2 (by decide)
                have w3_τ33 : τ33.1 3 = τ30.1 3 := hf_τ33.1 3 (by decide)
                have w4_τ33 : τ33.1 4 = τ30.1 4 := hf_τ33.1 4 (by decide)
                have w5_τ33 : τ33.1 5 = τ30.1 5 := hf_τ33.1 5 (by decide)
                have w6_τ33 : τ33.1 6 = τ30.1 6 := hf_τ33.1 6 (by decide)
                have w7_τ33 : τ33.1 7 = τ30.1 7 := hf_τ33.1 7 (by decide)
                have w8_τ33 : τ33.1 8 = τ30.1 8 := hf_τ33.1 8 (by decide)
                have w9_τ33 : τ33.1 9 = τ30.1 9 := hf_τ33.1 9 (by decide)
                have w12_τ33 : τ33.1 12 = τ30.1 12 := hf_τ33.1 12 (by decide)
                have w13_τ33 : τ33.1 13 = τ30.1 13 := hf_τ33.1 13 (by decide)
                have w14_τ33 : τ33.1 14 = τ30.1 14 := hf_τ33.1 14 (by decide)
                have w15_τ33 : τ33.1 15 = τ30.1 15 := hf_τ33.1 15 (by decide)
                have w16_τ33 : τ33.1 16 = τ30.1 16 := hf_τ33.1 16 (by decide)
                have w17_τ33 : τ33.1 17 = τ30.1 17 := hf_τ33.1 17 (by decide)
                have w18_τ33 : τ33.1 18 = τ30.1 18 := hf_τ33.1 18 (by decide)
                have w19_τ33 : τ33.1 19 = τ30.1 19 := hf_τ33.1 19 (by decide)
                have w20_τ33 : τ33.1 20 = τ30.1 20 := hf_τ33.1 20 (by decide)
                have g6_τ33 : τ33.2.1 6 = τ30.2.1 6 := hf_τ33.2.1 6 (by decide)
                have g7_τ33 : τ33.2.1 7 = τ30.2.1 7 := hf_τ33.2.1 7 (by decide)
                have g8_τ33 : τ33.2.1 8 = τ30.2.1 8 := hf_τ33.2.1 8 (by decide)
                have g9_τ33 : τ33.2.1 9 = τ30.2.1 9 := hf_τ33.2.1 9 (by decide)
                have g10_τ33 : τ33.2.1 10 = τ30.2.1 10 := hf_τ33.2.1 10 (by decide)
                have g11_τ33 : τ33.2.1 11 = τ30.2.1 11 := hf_τ33.2.1 11 (by decide)
                have g12_τ33 : τ33.2.1 12 = τ30.2.1 12 := hf_τ33.2.1 12 (by decide)
                have g14_τ33 : τ33.2.1 14 = τ30.2.1 14 := hf_τ33.2.1 14 (by decide)
                have g15_τ33 : τ33.2.1 15 = τ30.2.1 15 := hf_τ33.2.1 15 (by decide)
                have g18_τ33 : τ33.2.1 18 = τ30.2.1 18 := hf_τ33.2.1 18 (by decide)
                have g19_τ33 : τ33.2.1 19 = τ30.2.1 19 := hf_τ33.2.1 19 (by decide)
                have g21_τ33 : τ33.2.1 21 = τ30.2.1 21 := hf_τ33.2.1 21 (by decide)
                have g22_τ33 : τ33.2.1 22 = τ30.2.1 22 := hf_τ33.2.1 22 (by decide)
                have g25_τ33 : τ33.2.1 25 = τ30.2.1 25 := hf_τ33.2.1 25 (by decide)
                have g26_τ33 : τ33.2.1 26 = τ30.2.1 26 := hf_τ33.2.1 26 (by decide)
                have g28_τ33 : τ33.2.1 28 = τ30.2.1 28 := hf_τ33.2.1 28 (by decide)
                have g51_τ33 : τ33.2.1 51 = τ30.2.1 51 := hf_τ33.2.1 51 (by decide)
                have g52_τ33 : τ33.2.1 52 = τ30.2.1 52 := hf_τ33.2.1 52 (by decide)
                have g53_τ33 : τ33.2.1 53 = τ30.2.1 53 := hf_τ33.2.1 53 (by decide)
                have g54_τ33 : τ33.2.1 54 = τ30.2.1 54 := hf_τ33.2.1 54 (by decide)
                have g55_τ33 : τ33.2.1 55 = τ30.2.1 55 := hf_τ33.2.1 55 (by decide)
                first | (have ca_τ33 := congr (congrArg ca g9_τ33) w3_τ33) | skip
                first | (have o6_τ33 := congrArg oc g6_τ33) | skip
                first | (have o7_τ33 := congrArg oc g7_τ33) | skip
                have Y20 : ca (τ33.2.1 12) ((τ33.1 3)) ≤ (τ33.1 4) := by rw [show (ca (τ33.2.1 12) ((τ33.1 3)) ≤ (τ33.1 4)) = (ca (τ30.2.1 12) ((τ30.1 3)) ≤ (τ30.1 4)) from by rw [w3_τ33, w4_τ33, g12_τ33]]; exact Y20
                have Y8 : j_eq ((σ.1 9)) (σ.2.1 28) (τ33.2.1 28) := by rw [show (j_eq ((σ.1 9)) (σ.2.1 28) (τ33.2.1 28)) = (j_eq ((σ.1 9)) (σ.2.1 28) (τ30.2.1 28)) from by rw [g28_τ33]]; exact Y8
                have Y1 : j_l2 (τ33.2.1 6) (τ33.1 3) := by rw [show (j_l2 (τ33.2.1 6) (τ33.1 3)) = (j_l2 (τ30.2.1 6) (τ30.1 3)) from by rw [w3_τ33, g6_τ33]]; exact Y1
                have PA : J_pa (τ33.2.1 21) (τ33.2.1 22) := by rw [show (J_pa (τ33.2.1 21) (τ33.2.1 22)) = (J_pa (τ30.2.1 21) (τ30.2.1 22)) from by rw [g21_τ33, g22_τ33]]; exact PA
                have W0_ : j_e0 (σ.1 3) (σ.2.1 8) (τ33.2.1 51) := by rw [show (j_e0 (σ.1 3) (σ.2.1 8) (τ33.2.1 51)) = (j_e0 (σ.1 3) (σ.2.1 8) (τ30.2.1 51)) from by rw [g51_τ33]]; exact W0_
                have W1_ : j_e0 (σ.1 3) (σ.2.1 9) (τ33.2.1 52) := by rw [show (j_e0 (σ.1 3) (σ.2.1 9) (τ33.2.1 52)) = (j_e0 (σ.1 3) (σ.2.1 9) (τ30.2.1 52)) from by rw [g52_τ33]]; exact W1_
                have W2_ : j_e0 (σ.1 3) (σ.2.1 12) (τ33.2.1 53) := by rw [show (j_e0 (σ.1 3) (σ.2.1 12) (τ33.2.1 53)) = (j_e0 (σ.1 3) (σ.2.1 12) (τ30.2.1 53)) from by rw [g53_τ33]]; exact W2_
                have W3_ : j_e0 (σ.1 3) (σ.2.1 10) (τ33.2.1 54) := by rw [show (j_e0 (σ.1 3) (σ.2.1 10) (τ33.2.1 54)) = (j_e0 (σ.1 3) (σ.2.1 10) (τ30.2.1 54)) from by rw [g54_τ33]]; exact W3_
                have W4_ : j_e0 (σ.1 3) (σ.2.1 11) (τ33.2.1 55) := by rw [show (j_e0 (σ.1 3) (σ.2.1 11) (τ33.2.1 55)) = (j_e0 (σ.1 3) (σ.2.1 11) (τ30.2.1 55)) from by rw [g55_τ33]]; exact W4_
                have SYt : oc (τ33.2.1 6) ≤ (τ33.1 3) := by rw [show (oc (τ33.2.1 6) ≤ (τ33.1 3)) = (oc (τ30.2.1 6) ≤ (τ30.1 3)) from by rw [w3_τ33, g6_τ33]]; exact SYt
                have LAt : oc (τ33.2.1 7) ≤ (τ33.1 5) := by rw [show (oc (τ33.2.1 7) ≤ (τ33.1 5)) = (oc (τ30.2.1 7) ≤ (τ30.1 5)) from by rw [w5_τ33, g7_τ33]]; exact LAt
                have AVt : (τ33.1 12) ≤ ca (τ33.2.1 9) (τ33.1 3) := by rw [show ((τ33.1 12) ≤ ca (τ33.2.1 9) (τ33.1 3)) = ((τ30.1 12) ≤ ca (τ30.2.1 9) (τ30.1 3)) from by rw [w3_τ33, w12_τ33, g9_τ33]]; exact AVt
                have STt : j_l2 (τ33.2.1 6) (τ33.1 3) := by rw [show (j_l2 (τ33.2.1 6) (τ33.1 3)) = (j_l2 (τ30.2.1 6) (τ30.1 3)) from by rw [w3_τ33, g6_τ33]]; exact STt
                have A6 : ∀ j, (-1) ≤ τ33.2.1 6 j ∧ τ33.2.1 6 j ≤ 999 := fun j => hT.2 6 j
                have A7 : ∀ j, (-1) ≤ τ33.2.1 7 j ∧ τ33.2.1 7 j ≤ 1499 := fun j => hT.2 7 j
                have A8 : ∀ j, 0 ≤ τ33.2.1 8 j ∧ τ33.2.1 8 j ≤ 1 := fun j => hT.2 8 j
                have A9 : ∀ j, 0 ≤ τ33.2.1 9 j ∧ τ33.2.1 9 j ≤ 1 := fun j => hT.2 9 j
                have A10 : ∀ j, (-1) ≤ τ33.2.1 10 j ∧ τ33.2.1 10 j ≤ 999 := fun j => hT.2 10 j
                have A11 : ∀ j, (-1) ≤ τ33.2.1 11 j ∧ τ33.2.1 11 j ≤ 1499 := fun j => hT.2 11 j
                have A12 : ∀ j, 0 ≤ τ33.2.1 12 j ∧ τ33.2.1 12 j ≤ 1 := fun j => hT.2 12 j
                have A14 : ∀ j, 0 ≤ τ33.2.1 14 j ∧ τ33.2.1 14 j ≤ 30000 := fun j => hT.2 14 j
                have A15 : ∀ j, 0 ≤ τ33.2.1 15 j ∧ τ33.2.1 15 j ≤ 300 := fun j => hT.2 15 j
                have A18 : ∀ j, 0 ≤ τ33.2.1 18 j ∧ τ33.2.1 18 j ≤ 90000 := fun j => hT.2 18 j
                have A19 : ∀ j, 0 ≤ τ33.2.1 19 j ∧ τ33.2.1 19 j ≤ 60 := fun j => hT.2 19 j
                have A21 : ∀ j, 0 ≤ τ33.2.1 21 j ∧ τ33.2.1 21 j ≤ 20000 := fun j => hT.2 21 j
                have A22 : ∀ j, 0 ≤ τ33.2.1 22 j ∧ τ33.2.1 22 j ≤ 20000 := fun j => hT.2 22 j
                have A25 : ∀ j, 0 ≤ τ33.2.1 25 j ∧ τ33.2.1 25 j ≤ 20000 := fun j => hT.2 25 j
                have A26 : ∀ j, 0 ≤ τ33.2.1 26 j ∧ τ33.2.1 26 j ≤ 20000 := fun j => hT.2 26 j
                have A28 : ∀ j, 0 ≤ τ33.2.1 28 j ∧ τ33.2.1 28 j ≤ 1 := fun j => hT.2 28 j
                have A51 : ∀ j, 0 ≤ τ33.2.1 51 j ∧ τ33.2.1 51 j ≤ 1 := fun j => hT.2 51 j
                have A52 : ∀ j, 0 ≤ τ33.2.1 52 j ∧ τ33.2.1 52 j ≤ 1 := fun j => hT.2 52 j
                have A53 : ∀ j, 0 ≤ τ33.2.1 53 j ∧ τ33.2.1 53 j ≤ 1 := fun j => hT.2 53 j
                have A54 : ∀ j, (-1) ≤ τ33.2.1 54 j ∧ τ33.2.1 54 j ≤ 999 := fun j => hT.2 54 j
                have A55 : ∀ j, (-1) ≤ τ33.2.1 55 j ∧ τ33.2.1 55 j ≤ 1499 := fun j => hT.2 55 j
                have v0 : 0 ≤ τ33.1 0 ∧ τ33.1 0 ≤ 60000 := hT.1 0
                have v1 : 0 ≤ τ33.1 1 ∧ τ33.1 1 ≤ 1 := hT.1 1
                have v2 : 0 ≤ τ33.1 2 ∧ τ33.1 2 ≤ 30000 := hT.1 2
                have v3 : 0 ≤ τ33.1 3 ∧ τ33.1 3 ≤ 1000 := hT.1 3
                have v4 : 0 ≤ τ33.1 4 ∧ τ33.1 4 ≤ 100 := hT.1 4
                have v5 : 0 ≤ τ33.1 5 ∧ τ33.1 5 ≤ 1500 := hT.1 5
                have v6 : 0 ≤ τ33.1 6 ∧ τ33.1 6 ≤ 30000 := hT.1 6
                have v7 : 0 ≤ τ33.1 7 ∧ τ33.1 7 ≤ 90000 := hT.1 7
                have v8 : 0 ≤ τ33.1 8 ∧ τ33.1 8 ≤ 20000 := hT.1 8
                have v9 : 0 ≤ τ33.1 9 ∧ τ33.1 9 ≤ 20000 := hT.1 9
                have v12 : 0 ≤ τ33.1 12 ∧ τ33.1 12 ≤ 1000 := hT.1 12
                have v13 : 0 ≤ τ33.1 13 ∧ τ33.1 13 ≤ 1500 := hT.1 13
                have v14 : 0 ≤ τ33.1 14 ∧ τ33.1 14 ≤ 1000 := hT.1 14
                have v15 : 0 ≤ τ33.1 15 ∧ τ33.1 15 ≤ 50 := hT.1 15
                have v16 : 0 ≤ τ33.1 16 ∧ τ33.1 16 ≤ 60000 := hT.1 16
                have v17 : 0 ≤ τ33.1 17 ∧ τ33.1 17 ≤ 60000 := hT.1 17
                have v18 : 0 ≤ τ33.1 18 ∧ τ33.1 18 ≤ 60000 := hT.1 18
                have v19 : (-1) ≤ τ33.1 19 ∧ τ33.1 19 ≤ 125 := hT.1 19
                have v20 : 0 ≤ τ33.1 20 ∧ τ33.1 20 ≤ 19 := hT.1 20
                have v38 : 0 ≤ τ33.1 38 ∧ τ33.1 38 ≤ 1500 := hT.1 38
                have v49 : 0 ≤ τ33.1 49 ∧ τ33.1 49 ≤ 1 := hT.1 49
                exact ⟨hT, (show oc (τ33.2.1 6) ≤ (τ33.1 3) from SYt), (show oc (τ33.2.1 7) ≤ (τ33.1 5) from LAt), (show (τ33.1 12) ≤ ca (τ33.2.1 9) (τ33.1 3) from AVt), (show j_l2 (τ33.2.1 6) (τ33.1 3) from Y1), (show ca (τ33.2.1 12) ((τ33.1 3)) ≤ (τ33.1 4) from Y20), (show J_pa (τ33.2.1 21) (τ33.2.1 22) from PA), (show (τ33.1 7) ≤ 60 * (τ33.1 5) from by (first | omega | (simp only [st_s] <;> omega) | assumption | omega)), (show (τ33.1 13) ≤ (τ33.1 5) from by (first | omega | (simp only [st_s] <;> omega) | assumption | omega)), (show m_J τ33 from by (first | (exfalso; omega) | exact m_J_f (by exact i61_12 (by omega)) hf_τ33 rfl rfl | exact m_J_f (by exact (show m_J τ30 from m_J_b p9 agk hT0 Y8k (by omega) (u_of hf_τ30 [14, 15, 18, 19, 21, 22, 25, 26, 28] rfl) (by by_cases z : σ.1 5 = 0; exact Or.inl z; exact Or.inr ⟨by omega, by omega, by omega, by omega⟩))) hf_τ33 rfl rfl)), (show (τ33.1 0) = 0 from by (first | omega | (simp only [st_s] <;> omega) | assumption | omega)), (show (τ33.1 1) = 0 from by (first | omega | (simp only [st_s] <;> omega) | assumption | omega))⟩
            ·
              refine ⟨_, K_X13_fail hT (show 0 ≤ 4 from by (first | omega | (simp only [st_s] <;> omega) | assumption | omega)) (show 4 ≤ 19 from by (first | omega | (simp only [st_s] <;> omega) | assumption | omega)) (show -1 ≤ (τ_61.1 0) from by (first | omega | (simp only [st_s] <;> omega) | assumption | omega)) (show (τ_61.1 0) ≤ 60000 from by (first | omega | (simp only [st_s] <;> omega) | assumption | omega)), ?_⟩
              intro τ26 hn_τ26 hf_τ26 hq
              obtain ⟨hT, q24_1, q24_2⟩ := hq
              replace q24_1 : ¬ (τ_61.1 20) = 0 → (τ26.1 20) = (τ_61.1 20) := q24_1
              replace q24_2 : (τ_61.1 20) = 0 → (τ26.1 20) = 4 := q24_2
              replace ag : m_ag σ τ26 := ag_r ag hf_τ26 rfl rfl
              have w0_τ26 : τ26.1 0 = τ_61.1 0 := hf_τ26.1 0 (by decide)
              have w1_τ26 : τ26.1 1 = τ_61.1 1 := hf_τ26.1 1 (by decide)
              have w2_τ26 : τ26.1 2 = τ_61.1 2 := hf_τ26.1 2 (by decide)
              have w3_τ26 : τ26.1 3 = τ_61.1 3 := hf_τ26.1 3 (by decide)
              have w4_τ26 : τ26.1 4 = τ_61.1 4 := hf_τ26.1 4 (by decide)
              have w5_τ26 : τ26.1 5 = τ_61.1 5 := hf_τ26.1 5 (by decide)
              have w6_τ26 : τ26.1 6 = τ_61.1 6 := hf_τ26.1 6 (by decide)
              have w7_τ26 : τ26.1 7 = τ_61.1 7 := hf_τ26.1 7 (by decide)
              have w8_τ26 : τ26.1 8 = τ_61.1 8 := hf_τ26.1 8 (by decide)
              have w9_τ26 : τ26.1 9 = τ_61.1 9 := hf_τ26.1 9 (by decide)
              have w12_τ26 : τ26.1 12 = τ_61.1 12 := hf_τ26.1 12 (by decide)
              have w13_τ26 : τ26.1 13 = τ_61.1 13 := hf_τ26.1 13 (by decide)
              have w14_τ26 : τ26.1 14 = τ_61.1 14 := hf_τ26.1 14 (by decide)
              have w15_τ26 : τ26.1 15 = τ_61.1 15 := hf_τ26.1 15 (by decide)
              have w16_τ26 : τ26.1 16 = τ_61.1 16 := hf_τ26.1 16 (by decide)
              have w17_τ26 : τ26.1 17 = τ_61.1 17 := hf_τ26.1 17 (by decide)
              have w18_τ26 : τ26.1 18 = τ_61.1 18 := hf_τ26.1 18 (by decide)
              have w19_τ26 : τ26.1 19 = τ_61.1 19 := hf_τ26.1 19 (by decide)
              have w38_τ26 : τ26.1 38 = τ_61.1 38 := hf_τ26.1 38 (by decide)
              have w49_τ26 : τ26.1 49 = τ_61.1 49 := hf_τ26.1 49 (by decide)
              have g6_τ26 : τ26.2.1 6 = τ_61.2.1 6 := hf_τ26.2.1 6 (by decide)
              have g7_τ26 : τ26.2.1 7 = τ_61.2.1 7 := hf_τ26.2.1 7 (by decide)
              have g8_τ26 : τ26.2.1 8 = τ_61.2.1 8 := hf_τ26.2.1 8 (by decide)
              have g9_τ26 : τ26.2.1 9 = τ_61.2.1 9 := hf_τ26.2.1 9 (by decide)
              have g10_τ26 : τ26.2.1 10 = τ_61.2.1 10 := hf_τ26.2.1 10 (by decide)
              have g11_τ26 : τ26.2.1 11 = τ_61.2.1 11 := hf_τ26.2.1 11 (by decide)
              have g12_τ26 : τ26.2.1 12 = τ_61.2.1 12 := hf_τ26.2.1 12 (by decide)
              have g14_τ26 : τ26.2.1 14 = τ_61.2.1 14 := hf_τ26.2.1 14 (by decide)
              have g15_τ26 : τ26.2.1 15 = τ_61.2.1 15 := hf_τ26.2.1 15 (by decide)
              have g18_τ26 : τ26.2.1 18 = τ_61.2.1 18 := hf_τ26.2.1 18 (by decide)
              have g19_τ26 : τ26.2.1 19 = τ_61.2.1 19 := hf_τ26.2.1 19 (by decide)
              have g21_τ26 : τ26.2.1 21 = τ_61.2.1 21 := hf_τ26.2.1 21 (by decide)
              have g22_τ26 : τ26.2.1 22 = τ_61.2.1 22 := hf_τ26.2.1 22 (by decide)
              have g25_τ26 : τ26.2.1 25 = τ_61.2.1 25 := hf_τ26.2.1 25 (by decide)
              have g26_τ26 : τ26.2.1 26 = τ_61.2.1 26 := hf_τ26.2.1 26 (by decide)
              have g28_τ26 : τ26.2.1 28 = τ_61.2.1 28 := hf_τ26.2.1 28 (by decide)
              have g51_τ26 : τ26.2.1 51 = τ_61.2.1 51 := hf_τ26.2.1 51 (by decide)
              have g52_τ26 : τ26.2.1 52 = τ_61.2.1 52 := hf_τ26.2.1 52 (by decide)
              have g53_τ26 : τ26.2.1 53 = τ_61.2.1 53 := hf_τ26.2.1 53 (by decide)
              have g54_τ26 : τ26.2.1 54 = τ_61.2.1 54 := hf_τ26.2.1 54 (by decide)
              have g55_τ26 : τ26.2.1 55 = τ_61.2.1 55 := hf_τ26.2.1 55 (by decide)
              first | (have ca_τ26 := congr (congrArg ca g9_τ26) w3_τ26) | skip
              first | (have o6_τ26 := congrArg oc g6_τ26) | skip
              first | (have o7_τ26 := congrArg oc g7_τ26) | skip
              have Y20 : ca (τ26.2.1 12) ((τ26.1 3)) ≤ (τ26.1 4) := by rw [show (ca (τ26.2.1 12) ((τ26.1 3)) ≤ (τ26.1 4)) = (ca (τ_61.2.1 12) ((τ_61.1 3)) ≤ (τ_61.1 4)) from by rw [w3_τ26, w4_τ26, g12_τ26]]; exact Y20
              have Y8 : j_eq ((σ.1 9)) (σ.2.1 28) (τ26.2.1 28) := by rw [show (j_eq ((σ.1 9)) (σ.2.1 28) (τ26.2.1 28)) = (j_eq ((σ.1 9)) (σ.2.1 28) (τ_61.2.1 28)) from by rw [g28_τ26]]; exact Y8
              have Y1 : j_l2 (τ26.2.1 6) (τ26.1 3) := by rw [show (j_l2 (τ26.2.1 6) (τ26.1 3)) = (j_l2 (τ_61.2.1 6) (τ_61.1 3)) from by rw [w3_τ26, g6_τ26]]; exact Y1
              have PA : J_pa (τ26.2.1 21) (τ26.2.1 22) := by rw [show (J_pa (τ26.2.1 21) (τ26.2.1 22)) = (J_pa (τ_61.2.1 21) (τ_61.2.1 22)) from by rw [g21_τ26, g22_τ26]]; exact PA
              have W0_ : j_e0 (σ.1 3) (σ.2.1 8) (τ26.2.1 51) := by rw [show (j_e0 (σ.1 3) (σ.2.1 8) (τ26.2.1 51)) = (j_e0 (σ.1 3) (σ.2.1 8) (τ_61.2.1 51)) from by rw [g51_τ26]]; exact W0_
              have W1_ : j_e0 (σ.1 3) (σ.2.1 9) (τ26.2.1 52) := by rw [show (j_e0 (σ.1 3) (σ.2.1 9) (τ26.2.1 52)) = (j_e0 (σ.1 3) (σ.2.1 9) (τ_61.2.1 52)) from by rw [g52_τ26]]; exact W1_
              have W2_ : j_e0 (σ.1 3) (σ.2.1 12) (τ26.2.1 53) := by rw [show (j_e0 (σ.1 3) (σ.2.1 12) (τ26.2.1 53)) = (j_e0 (σ.1 3) (σ.2.1 12) (τ_61.2.1 53)) from by rw [g53_τ26]]; exact W2_
              have W3_ : j_e0 (σ.1 3) (σ.2.1 10) (τ26.2.1 54) := by rw [show (j_e0 (σ.1 3) (σ.2.1 10) (τ26.2.1 54)) = (j_e0 (σ.1 3) (σ.2.1 10) (τ_61.2.1 54)) from by rw [g54_τ26]]; exact W3_
              have W4_ : j_e0 (σ.1 3) (σ.2.1 11) (τ26.2.1 55) := by rw [show (j_e0 (σ.1 3) (σ.2.1 11) (τ26.2.1 55)) = (j_e0 (σ.1 3) (σ.2.1 11) (τ_61.2.1 55)) from by rw [g55_τ26]]; exact W4_
              have SYt : oc (τ26.2.1 6) ≤ (τ26.1 3) := by rw [show (oc (τ26.2.1 6) ≤ (τ26.1 3)) = (oc (τ_61.2.1 6) ≤ (τ_61.1 3)) from by rw [w3_τ26, g6_τ26]]; exact SYt
              have AVt : (τ26.1 12) ≤ ca (τ26.2.1 9) (τ26.1 3) := by rw [show ((τ26.1 12) ≤ ca (τ26.2.1 9) (τ26.1 3)) = ((τ_61.1 12) ≤ ca (τ_61.2.1 9) (τ_61.1 3)) from by rw [w3_τ26, w12_τ26, g9_τ26]]; exact AVt
              have STt : j_l2 (τ26.2.1 6) (τ26.1 3) := by rw [show (j_l2 (τ26.2.1 6) (τ26.1 3)) = (j_l2 (τ_61.2.1 6) (τ_61.1 3)) from by rw [w3_τ26, g6_τ26]]; exact STt
              have A6 : ∀ j, (-1) ≤ τ26.2.1 6 j ∧ τ26.2.1 6 j ≤ 999 := fun j => hT.2 6 j
              have A7 : ∀ j, (-1) ≤ τ26.2.1 7 j ∧ τ26.2.1 7 j ≤ 1499 := fun j => hT.2 7 j
              have A8 : ∀ j, 0 ≤ τ26.2.1 8 j ∧ τ26.2.1 8 j ≤ 1 := fun j => hT.2 8 j
              have A9 : ∀ j, 0 ≤ τ26.2.1 9 j ∧ τ26.2.1 9 j ≤ 1 := fun j => hT.2 9 j
              have A10 : ∀ j, (-1) ≤ τ26.2.1 10 j ∧ τ26.2.1 10 j ≤ 999 := fun j => hT.2 10 j
              have A11 : ∀ j, (-1) ≤ τ26.2.1 11 j ∧ τ26.2.1 11 j ≤ 1499 := fun j => hT.2 11 j
              have A12 : ∀ j, 0 ≤ τ26.2.1 12 j ∧ τ26.2.1 12 j ≤ 1 := fun j => hT.2 12 j
              have A14 : ∀ j, 0 ≤ τ26.2.1 14 j ∧ τ26.2.1 14 j ≤ 30000 := fun j => hT.2 14 j
              have A15 : ∀ j, 0 ≤ τ26.2.1 15 j ∧ τ26.2.1 15 j ≤ 300 := fun j => hT.2 15 j
              have A18 : ∀ j, 0 ≤ τ26.2.1 18 j ∧ τ26.2.1 18 j ≤ 90000 := fun j => hT.2 18 j
              have A19 : ∀ j, 0 ≤ τ26.2.1 19 j ∧ τ26.2.1 19 j ≤ 60 := fun j => hT.2 19 j
              have A21 : ∀ j, 0 ≤ τ26.2.1 21 j ∧ τ26.2.1 21 j ≤ 20000 := fun j => hT.2 21 j
              have A22 : ∀ j, 0 ≤ τ26.2.1 22 j ∧ τ26.2.1 22 j ≤ 20000 := fun j => hT.2 22 j
              have A25 : ∀ j, 0 ≤ τ26.2.1 25 j ∧ τ26.2.1 25 j ≤ 20000 := fun j => hT.2 25 j
              have A26 : ∀ j, 0 ≤ τ26.2.1 26 j ∧ τ26.2.1 26 j ≤ 20000 := fun j => hT.2 26 j
              have A28 : ∀ j, 0 ≤ τ26.2.1 28 j ∧ τ26.2.1 28 j ≤ 1 := fun j => hT.2 28 j
              have A51 : ∀ j, 0 ≤ τ26.2.1 51 j ∧ τ26.2.1 51 j ≤ 1 := fun j => hT.2 51 j
              have A52 : ∀ j, 0 ≤ τ26.2.1 52 j ∧ τ26.2.1 52 j ≤ 1 := fun j => hT.2 52 j
              have A53 : ∀ j, 0 ≤ τ26.2.1 53 j ∧ τ26.2.1 53 j ≤ 1 := fun j => hT.2 53 j
              have A54 : ∀ j, (-1) ≤ τ26.2.1 54 j ∧ τ26.2.1 54 j ≤ 999 := fun j => hT.2 54 j
              have A55 : ∀ j, (-1) ≤ τ26.2.1 55 j ∧ τ26.2.1 55 j ≤ 1499 := fun j => hT.2 55 j
              have v0 : 0 ≤ τ26.1 0 ∧ τ26.1 0 ≤ 60000 := hT.1 0
              have v1 : 0 ≤ τ26.1 1 ∧ τ26.1 1 ≤ 1 := hT.1 1
              have v2 : 0 ≤ τ26.1 2 ∧ τ26.1 2 ≤ 30000 := hT.1 2
              have v3 : 0 ≤ τ26.1 3 ∧ τ26.1 3 ≤ 1000 := hT.1 3
              have v4 : 0 ≤ τ26.1 4 ∧ τ26.1 4 ≤ 100 := hT.1 4
              have v5 : 0 ≤ τ26.1 5 ∧ τ26.1 5 ≤ 1500 := hT.1 5
              have v6 : 0 ≤ τ26.1 6 ∧ τ26.1 6 ≤ 30000 := hT.1 6
              have v7 : 0 ≤ τ26.1 7 ∧ τ26.1 7 ≤ 90000 := hT.1 7
              have v8 : 0 ≤ τ26.1 8 ∧ τ26.1 8 ≤ 20000 := hT.1 8
              have v9 : 0 ≤ τ26.1 9 ∧ τ26.1 9 ≤ 20000 := hT.1 9
              have v12 : 0 ≤ τ26.1 12 ∧ τ26.1 12 ≤ 1000 := hT.1 12
              have v13 : 0 ≤ τ26.1 13 ∧ τ26.1 13 ≤ 1500 := hT.1 13
              have v14 : 0 ≤ τ26.1 14 ∧ τ26.1 14 ≤ 1000 := hT.1 14
              have v15 : 0 ≤ τ26.1 15 ∧ τ26.1 15 ≤ 50 := hT.1 15
              have v16 : 0 ≤ τ26.1 16 ∧ τ26.1 16 ≤ 60000 := hT.1 16
              have v17 : 0 ≤ τ26.1 17 ∧ τ26.1 17 ≤ 60000 := hT.1 17
              have v18 : 0 ≤ τ26.1 18 ∧ τ26.1 18 ≤ 60000 := hT.1 18
              have v19 : (-1) ≤ τ26.1 19 ∧ τ26.1 19 ≤ 125 := hT.1 19
              have v20 : 0 ≤ τ26.1 20 ∧ τ26.1 20 ≤ 19 := hT.1 20
              have v38 : 0 ≤ τ26.1 38 ∧ τ26.1 38 ≤ 1500 := hT.1 38
              have v49 : 0 ≤ τ26.1 49 ∧ τ26.1 49 ≤ 1 := hT.1 49
              have av3 : σ.1 3 ≤ τ26.1 3 := ag.1 3 (by decide)
              have av5 : σ.1 5 ≤ τ26.1 5 := ag.1 5 (by decide)
              have av6 : σ.1 6 ≤ τ26.1 6 := ag.1 6 (by decide)
              have av7 : σ.1 7 ≤ τ26.1 7 := ag.1 7 (by decide)
              have av8 : σ.1 8 ≤ τ26.1 8 := ag.1 8 (by decide)
              have av9 : σ.1 9 ≤ τ26.1 9 := ag.1 9 (by decide)
              refine h116 _ _ _ _ _ _ _ ?_
              refine ⟨fun c27 => ?_, fun c27 => ?_⟩
              ·
                refine h136 _ _ ?_
                replace ag := ag_v (i := 0) (x := 0) ag (Or.inl rfl)
                replace hT := mT_v (i := 0) hT (show (0 : Int) ≤ 0 ∧ 0 ≤ 60000 from by (first | omega | (simp only [st_s] <;> omega) | assumption | omega))
                replace ag := ag_v (i := 1) (x := 0) ag (Or.inl rfl)
                replace hT := mT_v (i := 1) hT (show (0 : Int) ≤ 0 ∧ 0 ≤ 1 from by (first | omega | (simp only [st_s] <;> omega) | assumption | omega))
                refine ⟨_, K_X13_forgetTrees hT (show 0 ≤ (σ.1 5) from by (first | omega | (simp only [st_s] <;> omega) | assumption | omega)) (show (σ.1 5) ≤ 1500 from by (first | omega | (simp only [st_s] <;> omega) | assumption | omega)), ?_⟩
                intro τ33 hn_τ33 hf_τ33 hq
                obtain ⟨hT, q31_1, q31_2⟩ := hq
                replace q31_1 : (τ33.1 38) = 0 := q31_1
                replace q31_2 : (τ33.1 49) = 0 := q31_2
                replace ag : m_ag σ τ33 := ag_r ag hf_τ33 rfl rfl
                have w0_τ33 : τ33.1 0 = 0 := hf_τ33.1 0 (by decide)
                have w1_τ33 : τ33.1 1 = 0 := hf_τ33.1 1 (by decide)
                have w2_τ33 : τ33.1 2 = τ26.1 2 := hf_τ33.1 2 (by decide)
                have w3_τ33 : τ33.1 3 = τ26.1 3 := hf_τ33.1 3 (by decide)
                have w4_τ33 : τ33.1 4 = τ26.1 4 := hf_τ33.1 4 (by decide)
                have w5_τ33 : τ33.1 5 = τ26.1 5 := hf_τ33.1 5 (by decide)
                have w6_τ33 : τ33.1 6 = τ26.1 6 := hf_τ33.1 6 (by decide)
                have w7_τ33 : τ33.1 7 = τ26.1 7 := hf_τ33.1 7 (by decide)
                have w8_τ33 : τ33.1 8 = τ26.1 8 := hf_τ33.1 8 (by decide)
                have w9_τ33 : τ33.1 9 = τ26.1 9 := hf_τ33.1 9 (by decide)
                have w12_τ33 : τ33.1 12 = τ26.1 12 := hf_τ33.1 12 (by decide)
                have w13_τ33 : τ33.1 13 = τ26.1 13 := hf_τ33.1 13 (by decide)
                have w14_τ33 : τ33.1 14 = τ26.1 14 := hf_τ33.1 14 (by decide)
                have w15_τ33 : τ33.1 15 = τ26.1 15 := hf_τ33.1 15 (by decide)
                have w16_τ33 : τ33.1 16 = τ26.1 16 := hf_τ33.1 16 (by decide)
                have w17_τ33 : τ33.1 17 = τ26.1 17 := hf_τ33.1 17 (by decide)
                have w18_τ33 : τ33.1 18 = τ26.1 18 := hf_τ33.1 18 (by decide)
                have w19_τ33 : τ33.1 19 = τ26.1 19 := hf_τ33.1 19 (by decide)
                have w20_τ33 : τ33.1 20 = τ26.1 20 := hf_τ33.1 20 (by decide)
                have g6_τ33 : τ33.2.1 6 = τ26.2.1 6 := hf_τ33.2.1 6 (by decide)
                have g7_τ33 : τ33.2.1 7 = τ26.2.1 7 := hf_τ33.2.1 7 (by decide)
                have g8_τ33 : τ33.2.1 8 = τ26.2.1 8 := hf_τ33.2.1 8 (by decide)
                have g9_τ33 : τ33.2.1 9 = τ26.2.1 9 := hf_τ33.2.1 9 (by decide)
                have g10_τ33 : τ33.2.1 10 = τ26.2.1 10 := hf_τ33.2.1 10 (by decide)
                have g11_τ33 : τ33.2.1 11 = τ26.2.1 11 := hf_τ33.2.1 11 (by decide)
                have g12_τ33 : τ33.2.1 12 = τ26.2.1 12 := hf_τ33.2.1 12 (by decide)
                have g14_τ33 : τ33.2.1 14 = τ26.2.1 14 := hf_τ33.2.1 14 (by decide)
                have g15_τ33 : τ33.2.1 15 = τ26.2.1 15 := hf_τ33.2.1 15 (by decide)
                have g18_τ33 : τ33.2.1 18 = τ26.2.1 18 := hf_τ33.2.1 18 (by decide)
                have g19_τ33 : τ33.2.1 19 = τ26.2.1 19 := hf_τ33.2.1 19 (by decide)
                have g21_τ33 : τ33.2.1 21 = τ26.2.1 21 := hf_τ33.2.1 21 (by decide)
                have g22_τ33 : τ33.2.1 22 = τ26.2.1 22 := hf_τ33.2.1 22 (by decide)
                have g25_τ33 : τ33.2.1 25 = τ26.2.1 25 := hf_τ33.2.1 25 (by decide)
                have g26_τ33 : τ33.2.1 26 = τ26.2.1 26 := hf_τ33.2.1 26 (by decide)
                have g28_τ33 : τ33.2.1 28 = τ26.2.1 28 := hf_τ33.2.1 28 (by decide)
                have g51_τ33 : τ33.2.1 51 = τ26.2.1 51 := hf_τ33.2.1 51 (by decide)
                have g52_τ33 : τ33.2.1 52 = τ26.2.1 52 := hf_τ33.2.1 52 (by decide)
                have g53_τ33 : τ33.2.1 53 = τ26.2.1 53 := hf_τ33.2.1 53 (by decide)
                have g54_τ33 : τ33.2.1 54 = τ26.2.1 54 := hf_τ33.2.1 54 (by decide)
                have g55_τ33 : τ33.2.1 55 = τ26.2.1 55 := hf_τ33.2.1 55 (by decide)
                first | (have ca_τ33 := congr (congrArg ca g9_τ33) w3_τ33) | skip
                first | (have o6_τ33 := congrArg oc g6_τ33) | skip
                first | (have o7_τ33 := congrArg oc g7_τ33) | skip
                have Y20 : ca (τ33.2.1 12) ((τ33.1 3)) ≤ (τ33.1 4) := by rw [show (ca (τ33.2.1 12) ((τ33.1 3)) ≤ (τ33.1 4)) = (ca (τ26.2.1 12) ((τ26.1 3)) ≤ (τ26.1 4)) from by rw [w3_τ33, w4_τ33, g12_τ33]]; exact Y20
                have Y8 : j_eq ((σ.1 9)) (σ.2.1 28) (τ33.2.1 28) := by rw [show (j_eq ((σ.1 9)) (σ.2.1 28) (τ33.2.1 28)) = (j_eq ((σ.1 9)) (σ.2.1 28) (τ26.2.1 28)) from by rw [g28_τ33]]; exact Y8
                have Y1 : j_l2 (τ33.2.1 6) (τ33.1 3) := by rw [show (j_l2 (τ33.2.1 6) (τ33.1 3)) = (j_l2 (τ26.2.1 6) (τ26.1 3)) from by rw [w3_τ33, g6_τ33]]; exact Y1
                have PA : J_pa (τ33.2.1 21) (τ33.2.1 22) := by rw [show (J_pa (τ33.2.1 21) (τ33.2.1 22)) = (J_pa (τ26.2.1 21) (τ26.2.1 22)) from by rw [g21_τ33, g22_τ33]]; exact PA
                have W0_ : j_e0 (σ.1 3) (σ.2.1 8) (τ33.2.1 51) := by rw [show (j_e0 (σ.1 3) (σ.2.1 8) (τ33.2.1 51)) = (j_e0 (σ.1 3) (σ.2.1 8) (τ26.2.1 51)) from by rw [g51_τ33]]; exact W0_
                have W1_ : j_e0 (σ.1 3) (σ.2.1 9) (τ33.2.1 52) := by rw [show (j_e0 (σ.1 3) (σ.2.1 9) (τ33.2.1 52)) = (j_e0 (σ.1 3) (σ.2.1 9) (τ26.2.1 52)) from by rw [g52_τ33]]; exact W1_
                have W2_ : j_e0 (σ.1 3) (σ.2.1 12) (τ33.2.1 53) := by rw [show (j_e0 (σ.1 3) (σ.2.1 12) (τ33.2.1 53)) = (j_e0 (σ.1 3) (σ.2.1 12) (τ26.2.1 53)) from by rw [g53_τ33]]; exact W2_
                have W3_ : j_e0 (σ.1 3) (σ.2.1 10) (τ33.2.1 54) := by rw [show (j_e0 (σ.1 3) (σ.2.1 10) (τ33.2.1 54)) = (j_e0 (σ.1 3) (σ.2.1 10) (τ26.2.1 54)) from by rw [g54_τ33]]; exact W3_
                have W4_ : j_e0 (σ.1 3) (σ.2.1 11) (τ33.2.1 55) := by rw [show (j_e0 (σ.1 3) (σ.2.1 11) (τ33.2.1 55)) = (j_e0 (σ.1 3) (σ.2.1 11) (τ26.2.1 55)) from by rw [g55_τ33]]; exact W4_
                have SYt : oc (τ33.2.1 6) ≤ (τ33.1 3) := by rw [show (oc (τ33.2.1 6) ≤ (τ33.1 3)) = (oc (τ26.2.1 6) ≤ (τ26.1 3)) from by rw [w3_τ33, g6_τ33]]; exact SYt
                have AVt : (τ33.1 12) ≤ ca (τ33.2.1 9) (τ33.1 3) := by rw [show ((τ33.1 12) ≤ ca (τ33.2.1 9) (τ33.1 3)) = ((τ26.1 12) ≤ ca (τ26.2.1 9) (τ26.1 3)) from by rw [w3_τ33, w12_τ33, g9_τ33]]; exact AVt
                have STt : j_l2 (τ33.2.1 6) (τ33.1 3) := by rw [show (j_l2 (τ33.2.1 6) (τ33.1 3)) = (j_l2 (τ26.2.1 6) (τ26.1 3)) from by rw [w3_τ33, g6_τ33]]; exact STt
                have A6 : ∀ j, (-1) ≤ τ33.2.1 6 j ∧ τ33.2.1 6 j ≤ 999 := fun j => hT.2 6 j
                have A7 : ∀ j, (-1) ≤ τ33.2.1 7 j ∧ τ33.2.1 7 j ≤ 1499 := fun j => hT.2 7 j
                have A8 : ∀ j, 0 ≤ τ33.2.1 8 j ∧ τ33.2.1 8 j ≤ 1 := fun j => hT.2 8 j
                have A9 : ∀ j, 0 ≤ τ33.2.1 9 j ∧ τ33.2.1 9 j ≤ 1 := fun j => hT.2 9 j
                have A10 : ∀ j, (-1) ≤ τ33.2.1 10 j ∧ τ33.2.1 10 j ≤ 999 := fun j => hT.2 10 j
                have A11 : ∀ j, (-1) ≤ τ33.2.1 11 j ∧ τ33.2.1 11 j ≤ 1499 := fun j => hT.2 11 j
                have A12 : ∀ j, 0 ≤ τ33.2.1 12 j ∧ τ33.2.1 12 j ≤ 1 := fun j => hT.2 12 j
                have A14 : ∀ j, 0 ≤ τ33.2.1 14 j ∧ τ33.2.1 14 j ≤ 30000 := fun j => hT.2 14 j
                have A15 : ∀ j, 0 ≤ τ33.2.1 15 j ∧ τ33.2.1 15 j ≤ 300 := fun j => hT.2 15 j
                have A18 : ∀ j, 0 ≤ τ33.2.1 18 j ∧ τ33.2.1 18 j ≤ 90000 := fun j => hT.2 18 j
                have A19 : ∀ j, 0 ≤ τ33.2.1 19 j ∧ τ33.2.1 19 j ≤ 60 := fun j => hT.2 19 j
                have A21 : ∀ j, 0 ≤ τ33.2.1 21 j ∧ τ33.2.1 21 j ≤ 20000 := fun j => hT.2 21 j
                have A22 : ∀ j, 0 ≤ τ33.2.1 22 j ∧ τ33.2.1 22 j ≤ 20000 := fun j => hT.2 22 j
                have A25 : ∀ j, 0 ≤ τ33.2.1 25 j ∧ τ33.2.1 25 j ≤ 20000 := fun j => hT.2 25 j
                have A26 : ∀ j, 0 ≤ τ33.2.1 26 j ∧ τ33.2.1 26 j ≤ 20000 := fun j => hT.2 26 j
                have A28 : ∀ j, 0 ≤ τ33.2.1 28 j ∧ τ33.2.1 28 j ≤ 1 := fun j => hT.2 28 j
                have A51 : ∀ j, 0 ≤ τ33.2.1 51 j ∧ τ33.2.1 51 j ≤ 1 := fun j => hT.2 51 j
                have A52 : ∀ j, 0 ≤ τ33.2.1 52 j ∧ τ33.2.1 52 j ≤ 1 := fun j => hT.2 52 j
                have A53 : ∀ j, 0 ≤ τ33.2.1 53 j ∧ τ33.2.1 53 j ≤ 1 := fun j => hT.2 53 j
                have A54 : ∀ j, (-1) ≤ τ33.2.1 54 j ∧ τ33.2.1 54 j ≤ 999 := fun j => hT.2 54 j
                have A55 : ∀ j, (-1) ≤ τ33.2.1 55 j ∧ τ33.2.1 55 j ≤ 1499 := fun j => hT.2 55 j
                have v0 : 0 ≤ τ33.1 0 ∧ τ33.1 0 ≤ 60000 := hT.1 0
                have v1 : 0 ≤ τ33.1 1 ∧ τ33.1 1 ≤ 1 := hT.1 1
                have v2 : 0 ≤ τ33.1 2 ∧ τ33.1 2 ≤ 30000 := hT.1 2
                have v3 : 0 ≤ τ33.1 3 ∧ τ33.1 3 ≤ 1000 := hT.1 3
                have v4 : 0 ≤ τ33.1 4 ∧ τ33.1 4 ≤ 100 := hT.1 4
                have v5 : 0 ≤ τ33.1 5 ∧ τ33.1 5 ≤ 1500 := hT.1 5
                have v6 : 0 ≤ τ33.1 6 ∧ τ33.1 6 ≤ 30000 := hT.1 6
                have v7 : 0 ≤ τ33.1 7 ∧ τ33.1 7 ≤ 90000 := hT.1 7
                have v8 : 0 ≤ τ33.1 8 ∧ τ33.1 8 ≤ 20000 := hT.1 8
                have v9 : 0 ≤ τ33.1 9 ∧ τ33.1 9 ≤ 20000 := hT.1 9
                have v12 : 0 ≤ τ33.1 12 ∧ τ33.1 12 ≤ 1000 := hT.1 12
                have v13 : 0 ≤ τ33.1 13 ∧ τ33.1 13 ≤ 1500 := hT.1 13
                have v14 : 0 ≤ τ33.1 14 ∧ τ33.1 14 ≤ 1000 := hT.1 14
                have v15 : 0 ≤ τ33.1 15 ∧ τ33.1 15 ≤ 50 := hT.1 15
                have v16 : 0 ≤ τ33.1 16 ∧ τ33.1 16 ≤ 60000 := hT.1 16
                have v17 : 0 ≤ τ33.1 17 ∧ τ33.1 17 ≤ 60000 := hT.1 17
                have v18 : 0 ≤ τ33.1 18 ∧ τ33.1 18 ≤ 60000 := hT.1 18
                have v19 : (-1) ≤ τ33.1 19 ∧ τ33.1 19 ≤ 125 := hT.1 19
                have v20 : 0 ≤ τ33.1 20 ∧ τ33.1 20 ≤ 19 := hT.1 20
                have v38 : 0 ≤ τ33.1 38 ∧ τ33.1 38 ≤ 1500 := hT.1 38
                have v49 : 0 ≤ τ33.1 49 ∧ τ33.1 49 ≤ 1 := hT.1 49
                have av3 : σ.1 3 ≤ τ33.1 3 := ag.1 3 (by decide)
                have av5 : σ.1 5 ≤ τ33.1 5 := ag.1 5 (by decide)
                have av6 : σ.1 6 ≤ τ33.1 6 := ag.1 6 (by decide)
                have av7 : σ.1 7 ≤ τ33.1 7 := ag.1 7 (by decide)
                have av8 : σ.1 8 ≤ τ33.1 8 := ag.1 8 (by decide)
                have av9 : σ.1 9 ≤ τ33.1 9 := ag.1 9 (by decide)
                exact ⟨hT, (show oc (τ33.2.1 6) ≤ (τ33.1 3) from SYt), (show oc (τ33.2.1 7) ≤ (τ33.1 5) from by (first | omega | (simp only [st_s] <;> omega) | assumption | omega)), (show (τ33.1 12) ≤ ca (τ33.2.1 9) (τ33.1 3) from AVt), (show j_l2 (τ33.2.1 6) (τ33.1 3) from Y1), (show ca (τ33.2.1 12) ((τ33.1 3)) ≤ (τ33.1 4) from Y20), (show J_pa (τ33.2.1 21) (τ33.2.1 22) from PA), (show (τ33.1 7) ≤ 60 * (τ33.1 5) from by (first | omega | (simp only [st_s] <;> omega) | assumption | omega)), (show (τ33.1 13) ≤ (τ33.1 5) from by (first | omega | (simp only [st_s] <;> omega) | assumption | omega)), (show m_J τ33 from by (first | (exfalso; omega) | exact m_J_f (by exact i61_12 (by omega)) hf_τ33 rfl rfl | exact m_J_f (by exact (show m_J τ30 from m_J_b p9 agk hT0 Y8k (by omega) (u_of hf_τ30 [14, 15, 18, 19, 21, 22, 25, 26, 28] rfl) (by by_cases z : σ.1 5 = 0; exact Or.inl z; exact Or.inr ⟨by omega, by omega, by omega, by omega⟩))) hf_τ33 rfl rfl)), (show (τ33.1 0) = 0 from by (first | omega | (simp only [st_s] <;> omega) | assumption | omega)), (show (τ33.1 1) = 0 from by (first | omega | (simp only [st_s] <;> omega) | assumption | omega))⟩
              ·
                have hz : ¬ σ.1 5 = 0 → τ26.2.1 14 (σ.1 5 - 1) + τ26.2.1 15 (σ.1 5 - 1) ≤ 30000 ∧ τ26.2.1 18 (σ.1 5 - 1) + τ26.2.1 19 (σ.1 5 - 1) ≤ 60 * σ.1 5 ∧ τ26.2.1 21 (σ.1 5 - 1) + τ26.2.1 22 (σ.1 5 - 1) ≤ 20000 ∧ τ26.2.1 25 (σ.1 5 - 1) + τ26.2.1 26 (σ.1 5 - 1) ≤ 20000 := by intro z; obtain ⟨⟨a1, a2, a3, a4⟩, a5, a6, a7⟩ := p9 (σ.1 5 - 1) (by omega) (by omega); have e := fun (k : Nat) (hk : (k, 5, (0 : Int)) ∈ m_gT) => ag.2 (k, 5, 0) hk (σ.1 5 - 1) (by show σ.1 5 - 1 < σ.1 5 + 0; omega); have e14 : τ26.2.1 14 (σ.1 5 - 1) = σ.2.1 14 (σ.1 5 - 1) := e 14 (by decide); have e15 : τ26.2.1 15 (σ.1 5 - 1) = σ.2.1 15 (σ.1 5 - 1) := e 15 (by decide); have e18 : τ26.2.1 18 (σ.1 5 - 1) = σ.2.1 18 (σ.1 5 - 1) := e 18 (by decide); have e19 : τ26.2.1 19 (σ.1 5 - 1) = σ.2.1 19 (σ.1 5 - 1) := e 19 (by decide); have e21 : τ26.2.1 21 (σ.1 5 - 1) = σ.2.1 21 (σ.1 5 - 1) := e 21 (by decide); have e22 : τ26.2.1 22 (σ.1 5 - 1) = σ.2.1 22 (σ.1 5 - 1) := e 22 (by decide); have e25 : τ26.2.1 25 (σ.1 5 - 1) = σ.2.1 25 (σ.1 5 - 1) := e 25 (by decide); have e26 : τ26.2.1 26 (σ.1 5 - 1) = σ.2.1 26 (σ.1 5 - 1) := e 26 (by decide); refine ⟨?_, ?_, ?_, ?_⟩ <;> omega
                have Y8k := Y8
                have agk := ag
                refine ⟨_, K_X13_forgetText hT (show 0 ≤ (σ.1 3) from by (first | omega | (simp only [st_s] <;> omega) | assumption | omega)) (show (σ.1 3) ≤ 1000 from by (first | omega | (simp only [st_s] <;> omega) | assumption | omega)) (show 0 ≤ (σ.1 5) from by (first | omega | (simp only [st_s] <;> omega) | assumption | omega)) (show (σ.1 5) ≤ 1500 from by (first | omega | (simp only [st_s] <;> omega) | assumption | omega)) (show 0 ≤ (σ.1 2) from by (first | omega | (simp only [st_s] <;> omega) | assumption | omega)) (show (σ.1 2) ≤ 30000 from by (first | omega | (simp only [st_s] <;> omega) | assumption | omega)) (show 0 ≤ (σ.1 12) from by (first | omega | (simp only [st_s] <;> omega) | assumption | omega)) (show 0 ≤ (σ.1 13) from by (first | omega | (simp only [st_s] <;> omega) | assumption | omega)) (show (σ.1 13) ≤ (σ.1 5) from by (first | omega | (simp only [st_s] <;> omega) | assumption | omega)) (show 0 ≤ (σ.1 14) from by (first | omega | (simp only [st_s] <;> omega) | assumption | omega)) (show (τ26.1 12) ≤ ca (τ26.2.1 9) (τ26.1 3) from AVt) (show ca (τ26.2.1 53) (σ.1 3) ≤ 100 from by (rw [ca_e0 W2_ (Int.le_refl _)]; omega)) (show (σ.1 12) ≤ ca (τ26.2.1 52) (σ.1 3) from by (rw [ca_e0 W1_ (Int.le_refl _)]; omega)) (show ¬ (σ.1 5) = 0 → τ26.2.1 14 ((σ.1 5) - 1) + τ26.2.1 15 ((σ.1 5) - 1) ≤ 30000 ∧ τ26.2.1 18 ((σ.1 5) - 1) + τ26.2.1 19 ((σ.1 5) - 1) ≤ 60 * (σ.1 5) ∧ τ26.2.1 21 ((σ.1 5) - 1) + τ26.2.1 22 ((σ.1 5) - 1) ≤ 20000 ∧ τ26.2.1 25 ((σ.1 5) - 1) + τ26.2.1 26 ((σ.1 5) - 1) ≤ 20000 from by exact hz), ?_⟩
                intro τ30 hn_τ30 hf_τ30 hq
                obtain ⟨hT, q28_1, q28_2, q28_3, q28_4, q28_5, q28_6, q28_7, q28_8, q28_9, q28_10, q28_11, q28_12, q28_13⟩ := hq
                replace q28_1 : (τ30.1 3) = (σ.1 3) := q28_1
                replace q28_2 : (τ30.1 5) = (σ.1 5) := q28_2
                replace q28_3 : oc (τ30.2.1 6) ≤ (τ30.1 3) := q28_3
                replace q28_4 : oc (τ30.2.1 7) ≤ (τ30.1 5) := q28_4
                replace q28_5 : (τ30.1 12) ≤ ca (τ30.2.1 9) (τ30.1 3) := q28_5
                replace q28_6 : j_l2 (τ30.2.1 6) (τ30.1 3) := q28_6
                replace q28_7 : ca (τ30.2.1 12) ((τ30.1 3)) ≤ (τ30.1 4) := q28_7
                replace q28_8 : (τ30.1 13) ≤ (τ30.1 5) := q28_8
                replace q28_9 : (τ30.1 7) ≤ 60 * (τ30.1 5) := q28_9
                replace q28_10 : ((σ.1 5) = 0 ∨ (τ30.1 6) = τ26.2.1 14 ((σ.1 5) - 1) + τ26.2.1 15 ((σ.1 5) - 1)) := q28_10
                replace q28_11 : ((σ.1 5) = 0 ∨ (τ30.1 7) = τ26.2.1 18 ((σ.1 5) - 1) + τ26.2.1 19 ((σ.1 5) - 1)) ∧ (τ30.1 7) ≤ 60 * (σ.1 5) := q28_11
                replace q28_12 : ((σ.1 5) = 0 ∨ (τ30.1 8) = τ26.2.1 21 ((σ.1 5) - 1) + τ26.2.1 22 ((σ.1 5) - 1)) := q28_12
                replace q28_13 : ((σ.1 5) = 0 ∨ (τ30.1 9) = τ26.2.1 25 ((σ.1 5) - 1) + τ26.2.1 26 ((σ.1 5) - 1)) := q28_13
                have w0_τ30 : τ30.1 0 = τ26.1 0 := hf_τ30.1 0 (by decide)
                have w1_τ30 : τ30.1 1 = τ26.1 1 := hf_τ30.1 1 (by decide)
                have w15_τ30 : τ30.1 15 = τ26.1 15 := hf_τ30.1 15 (by decide)
                have w16_τ30 : τ30.1 16 = τ26.1 16 := hf_τ30.1 16 (by decide)
                have w17_τ30 : τ30.1 17 = τ26.1 17 := hf_τ30.1 17 (by decide)
                have w18_τ30 : τ30.1 18 = τ26.1 18 := hf_τ30.1 18 (by decide)
                have w19_τ30 : τ30.1 19 = τ26.1 19 := hf_τ30.1 19 (by decide)
                have w20_τ30 : τ30.1 20 = τ26.1 20 := hf_τ30.1 20 (by decide)
                have w38_τ30 : τ30.1 38 = τ26.1 38 := hf_τ30.1 38 (by decide)
                have w49_τ30 : τ30.1 49 = τ26.1 49 := hf_τ30.1 49 (by decide)
                have g14_τ30 : τ30.2.1 14 = τ26.2.1 14 := hf_τ30.2.1 14 (by decide)
                have g15_τ30 : τ30.2.1 15 = τ26.2.1 15 := hf_τ30.2.1 15 (by decide)
                have g18_τ30 : τ30.2.1 18 = τ26.2.1 18 := hf_τ30.2.1 18 (by decide)
                have g19_τ30 : τ30.2.1 19 = τ26.2.1 19 := hf_τ30.2.1 19 (by decide)
                have g21_τ30 : τ30.2.1 21 = τ26.2.1 21 := hf_τ30.2.1 21 (by decide)
                have g22_τ30 : τ30.2.1 22 = τ26.2.1 22 := hf_τ30.2.1 22 (by decide)
                have g25_τ30 : τ30.2.1 25 = τ26.2.1 25 := hf_τ30.2.1 25 (by decide)
                have g26_τ30 : τ30.2.1 26 = τ26.2.1 26 := hf_τ30.2.1 26 (by decide)
                have g28_τ30 : τ30.2.1 28 = τ26.2.1 28 := hf_τ30.2.1 28 (by decide)
                have g51_τ30 : τ30.2.1 51 = τ26.2.1 51 := hf_τ30.2.1 51 (by decide)
                have g52_τ30 : τ30.2.1 52 = τ26.2.1 52 := hf_τ30.2.1 52 (by decide)
                have g53_τ30 : τ30.2.1 53 = τ26.2.1 53 := hf_τ30.2.1 53 (by decide)
                have g54_τ30 : τ30.2.1 54 = τ26.2.1 54 := hf_τ30.2.1 54 (by decide)
                have g55_τ30 : τ30.2.1 55 = τ26.2.1 55 := hf_τ30.2.1 55 (by decide)
                first | (have ca_τ30 := congr (congrArg ca g9_τ30) w3_τ30) | skip
                first | (have o6_τ30 := congrArg oc g6_τ30) | skip
                first | (have o7_τ30 := congrArg oc g7_τ30) | skip
                have Y20 : ca (τ30.2.1 12) ((τ30.1 3)) ≤ (τ30.1 4) := q28_7
                have Y8 : j_eq ((σ.1 9)) (σ.2.1 28) (τ30.2.1 28) := by rw [show (j_eq ((σ.1 9)) (σ.2.1 28) (τ30.2.1 28)) = (j_eq ((σ.1 9)) (σ.2.1 28) (τ26.2.1 28)) from by rw [g28_τ30]]; exact Y8
                have Y1 : j_l2 (τ30.2.1 6) (τ30.1 3) := q28_6
                have PA : J_pa (τ30.2.1 21) (τ30.2.1 22) := by rw [show (J_pa (τ30.2.1 21) (τ30.2.1 22)) = (J_pa (τ26.2.1 21) (τ26.2.1 22)) from by rw [g21_τ30, g22_τ30]]; exact PA
                have W0_ : j_e0 (σ.1 3) (σ.2.1 8) (τ30.2.1 51) := by rw [show (j_e0 (σ.1 3) (σ.2.1 8) (τ30.2.1 51)) = (j_e0 (σ.1 3) (σ.2.1 8) (τ26.2.1 51)) from by rw [g51_τ30]]; exact W0_
                have W1_ : j_e0 (σ.1 3) (σ.2.1 9) (τ30.2.1 52) := by rw [show (j_e0 (σ.1 3) (σ.2.1 9) (τ30.2.1 52)) = (j_e0 (σ.1 3) (σ.2.1 9) (τ26.2.1 52)) from by rw [g52_τ30]]; exact W1_
                have W2_ : j_e0 (σ.1 3) (σ.2.1 12) (τ30.2.1 53) := by rw [show (j_e0 (σ.1 3) (σ.2.1 12) (τ30.2.1 53)) = (j_e0 (σ.1 3) (σ.2.1 12) (τ26.2.1 53)) from by rw [g53_τ30]]; exact W2_
                have W3_ : j_e0 (σ.1 3) (σ.2.1 10) (τ30.2.1 54) := by rw [show (j_e0 (σ.1 3) (σ.2.1 10) (τ30.2.1 54)) = (j_e0 (σ.1 3) (σ.2.1 10) (τ26.2.1 54)) from by rw [g54_τ30]]; exact W3_
                have W4_ : j_e0 (σ.1 3) (σ.2.1 11) (τ30.2.1 55) := by rw [show (j_e0 (σ.1 3) (σ.2.1 11) (τ30.2.1 55)) = (j_e0 (σ.1 3) (σ.2.1 11) (τ26.2.1 55)) from by rw [g55_τ30]]; exact W4_
                have SYt : oc (τ30.2.1 6) ≤ (τ30.1 3) := q28_3
                have LAt : oc (τ30.2.1 7) ≤ (τ30.1 5) := q28_4
                have AVt : (τ30.1 12) ≤ ca (τ30.2.1 9) (τ30.1 3) := q28_5
                have STt : j_l2 (τ30.2.1 6) (τ30.1 3) := q28_6
                have A6 : ∀ j, (-1) ≤ τ30.2.1 6 j ∧ τ30.2.1 6 j ≤ 999 := fun j => hT.2 6 j
                have A7 : ∀ j, (-1) ≤ τ30.2.1 7 j ∧ τ30.2.1 7 j ≤ 1499 := fun j => hT.2 7 j
                have A8 : ∀ j, 0 ≤ τ30.2.1 8 j ∧ τ30.2.1 8 j ≤ 1 := fun j => hT.2 8 j
                have A9 : ∀ j, 0 ≤ τ30.2.1 9 j ∧ τ30.2.1 9 j ≤ 1 := fun j => hT.2 9 j
                have A10 : ∀ j, (-1) ≤ τ30.2.1 10 j ∧ τ30.2.1 10 j ≤ 999 := fun j => hT.2 10 j
                have A11 : ∀ j, (-1) ≤ τ30.2.1 11 j ∧ τ30.2.1 11 j ≤ 1499 := fun j => hT.2 11 j
                have A12 : ∀ j, 0 ≤ τ30.2.1 12 j ∧ τ30.2.1 12 j ≤ 1 := fun j => hT.2 12 j
                have A14 : ∀ j, 0 ≤ τ30.2.1 14 j ∧ τ30.2.1 14 j ≤ 30000 := fun j => hT.2 14 j
                have A15 : ∀ j, 0 ≤ τ30.2.1 15 j ∧ τ30.2.1 15 j ≤ 300 := fun j => hT.2 15 j
                have A18 : ∀ j, 0 ≤ τ30.2.1 18 j ∧ τ30.2.1 18 j ≤ 90000 := fun j => hT.2 18 j
                have A19 : ∀ j, 0 ≤ τ30.2.1 19 j ∧ τ30.2.1 19 j ≤ 60 := fun j => hT.2 19 j
                have A21 : ∀ j, 0 ≤ τ30.2.1 21 j ∧ τ30.2.1 21 j ≤ 20000 := fun j => hT.2 21 j
                have A22 : ∀ j, 0 ≤ τ30.2.1 22 j ∧ τ30.2.1 22 j ≤ 20000 := fun j => hT.2 22 j
                have A25 : ∀ j, 0 ≤ τ30.2.1 25 j ∧ τ30.2.1 25 j ≤ 20000 := fun j => hT.2 25 j
                have A26 : ∀ j, 0 ≤ τ30.2.1 26 j ∧ τ30.2.1 26 j ≤ 20000 := fun j => hT.2 26 j
                have A28 : ∀ j, 0 ≤ τ30.2.1 28 j ∧ τ30.2.1 28 j ≤ 1 := fun j => hT.2 28 j
                have A51 : ∀ j, 0 ≤ τ30.2.1 51 j ∧ τ30.2.1 51 j ≤ 1 := fun j => hT.2 51 j
                have A52 : ∀ j, 0 ≤ τ30.2.1 52 j ∧ τ30.2.1 52 j ≤ 1 := fun j => hT.2 52 j
                have A53 : ∀ j, 0 ≤ τ30.2.1 53 j ∧ τ30.2.1 53 j ≤ 1 := fun j => hT.2 53 j
                have A54 : ∀ j, (-1) ≤ τ30.2.1 54 j ∧ τ30.2.1 54 j ≤ 999 := fun j => hT.2 54 j
                have A55 : ∀ j, (-1) ≤ τ30.2.1 55 j ∧ τ30.2.1 55 j ≤ 1499 := fun j => hT.2 55 j
                have v0 : 0 ≤ τ30.1 0 ∧ τ30.1 0 ≤ 60000 := hT.1 0
                have v1 : 0 ≤ τ30.1 1 ∧ τ30.1 1 ≤ 1 := hT.1 1
                have v2 : 0 ≤ τ30.1 2 ∧ τ30.1 2 ≤ 30000 := hT.1 2
                have v3 : 0 ≤ τ30.1 3 ∧ τ30.1 3 ≤ 1000 := hT.1 3
                have v4 : 0 ≤ τ30.1 4 ∧ τ30.1 4 ≤ 100 := hT.1 4
                have v5 : 0 ≤ τ30.1 5 ∧ τ30.1 5 ≤ 1500 := hT.1 5
                have v6 : 0 ≤ τ30.1 6 ∧ τ30.1 6 ≤ 30000 := hT.1 6
                have v7 : 0 ≤ τ30.1 7 ∧ τ30.1 7 ≤ 90000 := hT.1 7
                have v8 : 0 ≤ τ30.1 8 ∧ τ30.1 8 ≤ 20000 := hT.1 8
                have v9 : 0 ≤ τ30.1 9 ∧ τ30.1 9 ≤ 20000 := hT.1 9
                have v12 : 0 ≤ τ30.1 12 ∧ τ30.1 12 ≤ 1000 := hT.1 12
                have v13 : 0 ≤ τ30.1 13 ∧ τ30.1 13 ≤ 1500 := hT.1 13
                have v14 : 0 ≤ τ30.1 14 ∧ τ30.1 14 ≤ 1000 := hT.1 14
                have v15 : 0 ≤ τ30.1 15 ∧ τ30.1 15 ≤ 50 := hT.1 15
                have v16 : 0 ≤ τ30.1 16 ∧ τ30.1 16 ≤ 60000 := hT.1 16
                have v17 : 0 ≤ τ30.1 17 ∧ τ30.1 17 ≤ 60000 := hT.1 17
                have v18 : 0 ≤ τ30.1 18 ∧ τ30.1 18 ≤ 60000 := hT.1 18
                have v19 : (-1) ≤ τ30.1 19 ∧ τ30.1 19 ≤ 125 := hT.1 19
                have v20 : 0 ≤ τ30.1 20 ∧ τ30.1 20 ≤ 19 := hT.1 20
                have v38 : 0 ≤ τ30.1 38 ∧ τ30.1 38 ≤ 1500 := hT.1 38
                have v49 : 0 ≤ τ30.1 49 ∧ τ30.1 49 ≤ 1 := hT.1 49
                refine h136 _ _ ?_
                replace hT := mT_v (i := 0) hT (show (0 : Int) ≤ 0 ∧ 0 ≤ 60000 from by (first | omega | (simp only [st_s] <;> omega) | assumption | omega))
                replace hT := mT_v (i := 1) hT (show (0 : Int) ≤ 0 ∧ 0 ≤ 1 from by (first | omega | (simp only [st_s] <;> omega) | assumption | omega))
                refine ⟨_, K_X13_forgetTrees hT (show 0 ≤ (σ.1 5) from by (first | omega | (simp only [st_s] <;> omega) | assumption | omega)) (show (σ.1 5) ≤ 1500 from by (first | omega | (simp only [st_s] <;> omega) | assumption | omega)), ?_⟩
                intro τ33 hn_τ33 hf_τ33 hq
                obtain ⟨hT, q31_1, q31_2⟩ := hq
                replace q31_1 : (τ33.1 38) = 0 := q31_1
                replace q31_2 : (τ33.1 49) = 0 := q31_2
                have w0_τ33 : τ33.1 0 = 0 := hf_τ33.1 0 (by decide)
                have w1_τ33 : τ33.1 1 = 0 := hf_τ33.1 1 (by decide)
                have w2_τ33 : τ33.1 2 = τ30.1 2 := hf_τ33.1 2 (by decide)
                have w3_τ33 : τ33.1 3 = τ30.1 3 := hf_τ33.1 3 (by decide)
                have w4_τ33 : τ33.1 4 = τ30.1 4 := hf_τ33.1 4 (by decide)
                have w5_τ33 : τ33.1 5 = τ30.1 5 := hf_τ33.1 5 (by decide)
                have w6_τ33 : τ33.1 6 = τ30.1 6 := hf_τ33.1 6 (by decide)
                have w7_τ33 : τ33.1 7 = τ30.1 7 := hf_τ33.1 7 (by decide)
                have w8_τ33 : τ33.1 8 = τ30.1 8 := hf_τ33.1 8 (by decide)
                have w9_τ33 : τ33.1 9 = τ30.1 9 := hf_τ33.1 9 (by decide)
                have w12_τ33 : τ33.1 12 = τ30.1 12 := hf_τ33.1 12 (by decide)
                have w13_τ33 : τ33.1 13 = τ30.1 13 := hf_τ33.1 13 (by decide)
                have w14_τ33 : τ33.1 14 = τ30.1 14 := hf_τ33.1 14 (by decide)
                have w15_τ33 : τ33.1 15 = τ30.1 15 := hf_τ33.1 15 (by decide)
                have w16_τ33 : τ33.1 16 = τ30.1 16 := hf_τ33.1 16 (by decide)
                have w17_τ33 : τ33.1 17 = τ30.1 17 := hf_τ33.1 17 (by decide)
                have w18_τ33 : τ33.1 18 = τ30.1 18 := hf_τ33.1 18 (by decide)
                have w19_τ33 : τ33.1 19 = τ30.1 19 := hf_τ33.1 19 (by decide)
                have w20_τ33 : τ33.1 20 = τ30.1 20 := hf_τ33.1 20 (by decide)
                have g6_τ33 : τ33.2.1 6 = τ30.2.1 6 := hf_τ33.2.1 6 (by decide)
                have g7_τ33 : τ33.2.1 7 = τ30.2.1 7 := hf_τ33.2.1 7 (by decide)
                have g8_τ33 : τ33.2.1 8 = τ30.2.1 8 := hf_τ33.2.1 8 (by decide)
                have g9_τ33 : τ33.2.1 9 = τ30.2.1 9 := hf_τ33.2.1 9 (by decide)
                have g10_τ33 : τ33.2.1 10 = τ30.2.1 10 := hf_τ33.2.1 10 (by decide)
                have g11_τ33 : τ33.2.1 11 = τ30.2.1 11 := hf_τ33.2.1 11 (by decide)
                have g12_τ33 : τ33.2.1 12 = τ30.2.1 12 := hf_τ33.2.1 12 (by decide)
                have g14_τ33 : τ33.2.1 14 = τ30.2.1 14 := hf_τ33.2.1 14 (by decide)
                have g15_τ33 : τ33.2.1 15 = τ30.2.1 15 := hf_τ33.2.1 15 (by decide)
                have g18_τ33 : τ33.2.1 18 = τ30.2.1 18 := hf_τ33.2.1 18 (by decide)
                have g19_τ33 : τ33.2.1 19 = τ30.2.1 19 := hf_τ33.2.1 19 (by decide)
                have g21_τ33 : τ33.2.1 21 = τ30.2.1 21 := hf_τ33.2.1 21 (by decide)
                have g22_τ33 : τ33.2.1 22 = τ30.2.1 22 := hf_τ33.2.1 22 (by decide)
                have g25_τ33 : τ33.2.1 25 = τ30.2.1 25 := hf_τ33.2.1 25 (by decide)
                have g26_τ33 : τ33.2.1 26 = τ30.2.1 26 := hf_τ33.2.1 26 (by decide)
                have g28_τ33 : τ33.2.1 28 = τ30.2.1 28 := hf_τ33.2.1 28 (by decide)
                have g51_τ33 : τ33.2.1 51 = τ30.2.1 51 := hf_τ33.2.1 51 (by decide)
                have g52_τ33 : τ33.2.1 52 = τ30.2.1 52 := hf_τ33.2.1 52 (by decide)
                have g53_τ33 : τ33.2.1 53 = τ30.2.1 53 := hf_τ33.2.1 53 (by decide)
                have g54_τ33 : τ33.2.1 54 = τ30.2.1 54 := hf_τ33.2.1 54 (by decide)
                have g55_τ33 : τ33.2.1 55 = τ30.2.1 55 := hf_τ33.2.1 55 (by decide)
                first | (have ca_τ33 := congr (congrArg ca g9_τ33) w3_τ33) | skip
                first | (have o6_τ33 := congrArg oc g6_τ33) | skip
                first | (have o7_τ33 := congrArg oc g7_τ33) | skip
                have Y20 : ca (τ33.2.1 12) ((τ33.1 3)) ≤ (τ33.1 4) := by rw [show (ca (τ33.2.1 12) ((τ33.1 3)) ≤ (τ33.1 4)) = (ca (τ30.2.1 12) ((τ30.1 3)) ≤ (τ30.1 4)) from by rw [w3_τ33, w4_τ33, g12_τ33]]; exact Y20
                have Y8 : j_eq ((σ.1 9)) (σ.2.1 28) (τ33.2.1 28) := by rw [show (j_eq ((σ.1 9)) (σ.2.1 28) (τ33.2.1 28)) = (j_eq ((σ.1 9)) (σ.2.1 28) (τ30.2.1 28)) from by rw [g28_τ33]]; exact Y8
                have Y1 : j_l2 (τ33.2.1 6) (τ33.1 3) := by rw [show (j_l2 (τ33.2.1 6) (τ33.1 3)) = (j_l2 (τ30.2.1 6) (τ30.1 3)) from by rw [w3_τ33, g6_τ33]]; exact Y1
                have PA : J_pa (τ33.2.1 21) (τ33.2.1 22) := by rw [show (J_pa (τ33.2.1 21) (τ33.2.1 22)) = (J_pa (τ30.2.1 21) (τ30.2.1 22)) from by rw [g21_τ33, g22_τ33]]; exact PA
                have W0_ : j_e0 (σ.1 3) (σ.2.1 8) (τ33.2.1 51) := by rw [show (j_e0 (σ.1 3) (σ.2.1 8) (τ33.2.1 51)) = (j_e0 (σ.1 3) (σ.2.1 8) (τ30.2.1 51)) from by rw [g51_τ33]]; exact W0_
                have W1_ : j_e0 (σ.1 3) (σ.2.1 9) (τ33.2.1 52) := by rw [show (j_e0 (σ.1 3) (σ.2.1 9) (τ33.2.1 52)) = (j_e0 (σ.1 3) (σ.2.1 9) (τ30.2.1 52)) from by rw [g52_τ33]]; exact W1_
                have W2_ : j_e0 (σ.1 3) (σ.2.1 12) (τ33.2.1 53) := by rw [show (j_e0 (σ.1 3) (σ.2.1 12) (τ33.2.1 53)) = (j_e0 (σ.1 3) (σ.2.1 12) (τ30.2.1 53)) from by rw [g53_τ33]]; exact W2_
                have W3_ : j_e0 (σ.1 3) (σ.2.1 10) (τ33.2.1 54) := by rw [show (j_e0 (σ.1 3) (σ.2.1 10) (τ33.2.1 54)) = (j_e0 (σ.1 3) (σ.2.1 10) (τ30.2.1 54)) from by rw [g54_τ33]]; exact W3_
                have W4_ : j_e0 (σ.1 3) (σ.2.1 11) (τ33.2.1 55) := by rw [show (j_e0 (σ.1 3) (σ.2.1 11) (τ33.2.1 55)) = (j_e0 (σ.1 3) (σ.2.1 11) (τ30.2.1 55)) from by rw [g55_τ33]]; exact W4_
                have SYt : oc (τ33.2.1 6) ≤ (τ33.1 3) := by rw [show (oc (τ33.2.1 6) ≤ (τ33.1 3)) = (oc (τ30.2.1 6) ≤ (τ30.1 3)) from by rw [w3_τ33, g6_τ33]]; exact SYt
                have LAt : oc (τ33.2.1 7) ≤ (τ33.1 5) := by rw [show (oc (τ33.2.1 7) ≤ (τ33.1 5)) = (oc (τ30.2.1 7) ≤ (τ30.1 5)) from by rw [w5_τ33, g7_τ33]]; exact LAt
                have AVt : (τ33.1 12) ≤ ca (τ33.2.1 9) (τ33.1 3) := by rw [show ((τ33.1 12) ≤ ca (τ33.2.1 9) (τ33.1 3)) = ((τ30.1 12) ≤ ca (τ30.2.1 9) (τ30.1 3)) from by rw [w3_τ33, w12_τ33, g9_τ33]]; exact AVt
                have STt : j_l2 (τ33.2.1 6) (τ33.1 3) := by rw [show (j_l2 (τ33.2.1 6) (τ33.1 3)) = (j_l2 (τ30.2.1 6) (τ30.1 3)) from by rw [w3_τ33, g6_τ33]]; exact STt
                have A6 : ∀ j, (-1) ≤ τ33.2.1 6 j ∧ τ33.2.1 6 j ≤ 999 := fun j => hT.2 6 j
                have A7 : ∀ j, (-1) ≤ τ33.2.1 7 j ∧ τ33.2.1 7 j ≤ 1499 := fun j => hT.2 7 j
                have A8 : ∀ j, 0 ≤ τ33.2.1 8 j ∧ τ33.2.1 8 j ≤ 1 := fun j => hT.2 8 j
                have A9 : ∀ j, 0 ≤ τ33.2.1 9 j ∧ τ33.2.1 9 j ≤ 1 := fun j => hT.2 9 j
                have A10 : ∀ j, (-1) ≤ τ33.2.1 10 j ∧ τ33.2.1 10 j ≤ 999 := fun j => hT.2 10 j
                have A11 : ∀ j, (-1) ≤ τ33.2.1 11 j ∧ τ33.2.1 11 j ≤ 1499 := fun j => hT.2 11 j
                have A12 : ∀ j, 0 ≤ τ33.2.1 12 j ∧ τ33.2.1 12 j ≤ 1 := fun j => hT.2 12 j
                have A14 : ∀ j, 0 ≤ τ33.2.1 14 j ∧ τ33.2.1 14 j ≤ 30000 := fun j => hT.2 14 j
                have A15 : ∀ j, 0 ≤ τ33.2.1 15 j ∧ τ33.2.1 15 j ≤ 300 := fun j => hT.2 15 j
                have A18 : ∀ j, 0 ≤ τ33.2.1 18 j ∧ τ33.2.1 18 j ≤ 90000 := fun j => hT.2 18 j
                have A19 : ∀ j, 0 ≤ τ33.2.1 19 j ∧ τ33.2.1 19 j ≤ 60 := fun j => hT.2 19 j
                have A21 : ∀ j, 0 ≤ τ33.2.1 21 j ∧ τ33.2.1 21 j ≤ 20000 := fun j => hT.2 21 j
                have A22 : ∀ j, 0 ≤ τ33.2.1 22 j ∧ τ33.2.1 22 j ≤ 20000 := fun j => hT.2 22 j
                have A25 : ∀ j, 0 ≤ τ33.2.1 25 j ∧ τ33.2.1 25 j ≤ 20000 := fun j => hT.2 25 j
                have A26 : ∀ j, 0 ≤ τ33.2.1 26 j ∧ τ33.2.1 26 j ≤ 20000 := fun j => hT.2 26 j
                have A28 : ∀ j, 0 ≤ τ33.2.1 28 j ∧ τ33.2.1 28 j ≤ 1 := fun j => hT.2 28 j
                have A51 : ∀ j, 0 ≤ τ33.2.1 51 j ∧ τ33.2.1 51 j ≤ 1 := fun j => hT.2 51 j
                have A52 : ∀ j, 0 ≤ τ33.2.1 52 j ∧ τ33.2.1 52 j ≤ 1 := fun j => hT.2 52 j
                have A53 : ∀ j, 0 ≤ τ33.2.1 53 j ∧ τ33.2.1 53 j ≤ 1 := fun j => hT.2 53 j
                have A54 : ∀ j, (-1) ≤ τ33.2.1 54 j ∧ τ33.2.1 54 j ≤ 999 := fun j => hT.2 54 j
                have A55 : ∀ j, (-1) ≤ τ33.2.1 55 j ∧ τ33.2.1 55 j ≤ 1499 := fun j => hT.2 55 j
                have v0 : 0 ≤ τ33.1 0 ∧ τ33.1 0 ≤ 60000 := hT.1 0
                have v1 : 0 ≤ τ33.1 1 ∧ τ33.1 1 ≤ 1 := hT.1 1
                have v2 : 0 ≤ τ33.1 2 ∧ τ33.1 2 ≤ 30000 := hT.1 2
                have v3 : 0 ≤ τ33.1 3 ∧ τ33.1 3 ≤ 1000 := hT.1 3
                have v4 : 0 ≤ τ33.1 4 ∧ τ33.1 4 ≤ 100 := hT.1 4
                have v5 : 0 ≤ τ33.1 5 ∧ τ33.1 5 ≤ 1500 := hT.1 5
                have v6 : 0 ≤ τ33.1 6 ∧ τ33.1 6 ≤ 30000 := hT.1 6
                have v7 : 0 ≤ τ33.1 7 ∧ τ33.1 7 ≤ 90000 := hT.1 7
                have v8 : 0 ≤ τ33.1 8 ∧ τ33.1 8 ≤ 20000 := hT.1 8
                have v9 : 0 ≤ τ33.1 9 ∧ τ33.1 9 ≤ 20000 := hT.1 9
                have v12 : 0 ≤ τ33.1 12 ∧ τ33.1 12 ≤ 1000 := hT.1 12
                have v13 : 0 ≤ τ33.1 13 ∧ τ33.1 13 ≤ 1500 := hT.1 13
                have v14 : 0 ≤ τ33.1 14 ∧ τ33.1 14 ≤ 1000 := hT.1 14
                have v15 : 0 ≤ τ33.1 15 ∧ τ33.1 15 ≤ 50 := hT.1 15
                have v16 : 0 ≤ τ33.1 16 ∧ τ33.1 16 ≤ 60000 := hT.1 16
                have v17 : 0 ≤ τ33.1 17 ∧ τ33.1 17 ≤ 60000 := hT.1 17
                have v18 : 0 ≤ τ33.1 18 ∧ τ33.1 18 ≤ 60000 := hT.1 18
                have v19 : (-1) ≤ τ33.1 19 ∧ τ33.1 19 ≤ 125 := hT.1 19
                have v20 : 0 ≤ τ33.1 20 ∧ τ33.1 20 ≤ 19 := hT.1 20
                have v38 : 0 ≤ τ33.1 38 ∧ τ33.1 38 ≤ 1500 := hT.1 38
                have v49 : 0 ≤ τ33.1 49 ∧ τ33.1 49 ≤ 1 := hT.1 49
                exact ⟨hT, (show oc (τ33.2.1 6) ≤ (τ33.1 3) from SYt), (show oc (τ33.2.1 7) ≤ (τ33.1 5) from LAt), (show (τ33.1 12) ≤ ca (τ33.2.1 9) (τ33.1 3) from AVt), (show j_l2 (τ33.2.1 6) (τ33.1 3) from Y1), (show ca (τ33.2.1 12) ((τ33.1 3)) ≤ (τ33.1 4) from Y20), (show J_pa (τ33.2.1 21) (τ33.2.1 22) from PA), (show (τ33.1 7) ≤ 60 * (τ33.1 5) from by (first | omega | (simp only [st_s] <;> omega) | assumption | omega)), (show (τ33.1 13) ≤ (τ33.1 5) from by (first | omega | (simp only [st_s] <;> omega) | assumption | omega)), (show m_J τ33 from by (first | (exfalso; omega) | exact m_J_f (by exact i61_12 (by omega)) hf_τ33 rfl rfl | exact m_J_f (by exact (show m_J τ30 from m_J_b p9 agk hT0 Y8k (by omega) (u_of hf_τ30 [14, 15, 18, 19, 21, 22, 25, 26, 28] rfl) (by by_cases z : σ.1 5 = 0; exact Or.inl z; exact Or.inr ⟨by omega, by omega, by omega, by omega⟩))) hf_τ33 rfl rfl)), (show (τ33.1 0) = 0 from by (first | omega | (simp only [st_s] <;> omega) | assumption | omega)), (show (τ33.1 1) = 0 from by (first | omega | (simp only [st_s] <;> omega) | assumption | omega))⟩
        ·
          refine ⟨_, K_X13_readStatement hT (show (τ_61.1 17) + (τ_61.1 18) ≤ (τ_61.1 0) from by (first | omega | (simp only [st_s] <;> omega) | assumption | omega)) (show (τ_61.1 16) ≤ (τ_61.1 0) from by (first | omega | (simp only [st_s] <;> omega) | assumption | omega)) (show oc (τ_61.2.1 6) ≤ (τ_61.1 3) from SYt) (show oc (τ_61.2.1 7) ≤ (τ_61.1 5) from by (first | omega | (simp only [st_s] <;> omega) | assumption | omega)) (show (τ_61.1 12) ≤ ca (τ_61.2.1 9) (τ_61.1 3) from AVt) (show j_l2 (τ_61.2.1 6) (τ_61.1 3) from Y1) (show ca (τ_61.2.1 12) ((τ_61.1 3)) ≤ (τ_61.1 4) from Y20) (show J_pa (τ_61.2.1 21) (τ_61.2.1 22) from PA) (show (τ_61.1 7) ≤ 60 * (τ_61.1 5) from by (first | omega | (simp only [st_s] <;> omega) | assumption | omega)) (show (τ_61.1 13) ≤ (τ_61.1 5) from by (first | omega | (simp only [st_s] <;> omega) | assumption | omega)), ?_⟩
          intro τ17 hn_τ17 hf_τ17 hq
          obtain ⟨hT, q15_1, q15_2, q15_3, q15_4, q15_5, q15_6, q15_7, q15_8, q15_9, q15_10, q15_11, q15_12, q15_13, q15_14, q15_15, q15_16⟩ := hq
          replace q15_1 : (τ17.1 16) ≤ (τ17.1 0) := q15_1
          replace q15_2 : (τ17.1 17) + (τ17.1 18) ≤ (τ17.1 0) := q15_2
          replace q15_3 : ¬ (τ_61.1 20) = 0 → (τ17.1 20) = (τ_61.1 20) := q15_3
          replace q15_4 : oc (τ17.2.1 6) ≤ (τ17.1 3) := q15_4
          replace q15_5 : (τ17.1 12) ≤ ca (τ17.2.1 9) (τ17.1 3) := q15_5
          replace q15_6 : j_l2 (τ17.2.1 6) (τ17.1 3) := q15_6
          replace q15_7 : ca (τ17.2.1 12) ((τ17.1 3)) ≤ (τ17.1 4) := q15_7
          replace q15_8 : J_pa (τ17.2.1 21) (τ17.2.1 22) := q15_8
          replace q15_9 : (τ17.1 13) ≤ (τ17.1 5) := q15_9
          replace q15_10 : (τ17.1 20) = 0 → oc (τ17.2.1 7) ≤ (τ17.1 5) := q15_10
          replace q15_11 : (τ17.1 20) = 0 → (τ17.1 7) ≤ 60 * (τ17.1 5) := q15_11
          replace q15_12 : j_eq ((τ_61.1 9)) (τ_61.2.1 28) (τ17.2.1 28) := q15_12
          replace q15_13 : (τ17.1 20) = 0 → m_J τ_61 → m_J τ17 := q15_13
          replace q15_14 : (τ_61.1 5) ≤ (τ17.1 5) := q15_14
          replace q15_15 : (τ_61.1 16) ≤ (τ17.1 16) := q15_15
          replace q15_16 : m_ag τ_61 τ17 := q15_16
          replace ag : m_ag σ τ17 := ag_t ag q15_16 rfl
          have w0_τ17 : τ17.1 0 = τ_61.1 0 := hf_τ17.1 0 (by decide)
          have w1_τ17 : τ17.1 1 = τ_61.1 1 := hf_τ17.1 1 (by decide)
          have w38_τ17 : τ17.1 38 = τ_61.1 38 := hf_τ17.1 38 (by decide)
          have w49_τ17 : τ17.1 49 = τ_61.1 49 := hf_τ17.1 49 (by decide)
          have g51_τ17 : τ17.2.1 51 = τ_61.2.1 51 := hf_τ17.2.1 51 (by decide)
          have g52_τ17 : τ17.2.1 52 = τ_61.2.1 52 := hf_τ17.2.1 52 (by decide)
          have g53_τ17 : τ17.2.1 53 = τ_61.2.1 53 := hf_τ17.2.1 53 (by decide)
          have g54_τ17 : τ17.2.1 54 = τ_61.2.1 54 := hf_τ17.2.1 54 (by decide)
          have g55_τ17 : τ17.2.1 55 = τ_61.2.1 55 := hf_τ17.2.1 55 (by decide)
          first | (have ca_τ17 := congr (congrArg ca g9_τ17) w3_τ17) | skip
          first | (have o6_τ17 := congrArg oc g6_τ17) | skip
          first | (have o7_τ17 := congrArg oc g7_τ17) | skip
          have Y20 : ca (τ17.2.1 12) ((τ17.1 3)) ≤ (τ17.1 4) := q15_7
          have Y1 : j_l2 (τ17.2.1 6) (τ17.1 3) := q15_6
          have PA : J_pa (τ17.2.1 21) (τ17.2.1 22) := q15_8
          have W0_ : j_e0 (σ.1 3) (σ.2.1 8) (τ17.2.1 51) := by rw [show (j_e0 (σ.1 3) (σ.2.1 8) (τ17.2.1 51)) = (j_e0 (σ.1 3) (σ.2.1 8) (τ_61.2.1 51)) from by rw [g51_τ17]]; exact W0_
          have W1_ : j_e0 (σ.1 3) (σ.2.1 9) (τ17.2.1 52) := by rw [show (j_e0 (σ.1 3) (σ.2.1 9) (τ17.2.1 52)) = (j_e0 (σ.1 3) (σ.2.1 9) (τ_61.2.1 52)) from by rw [g52_τ17]]; exact W1_
          have W2_ : j_e0 (σ.1 3) (σ.2.1 12) (τ17.2.1 53) := by rw [show (j_e0 (σ.1 3) (σ.2.1 12) (τ17.2.1 53)) = (j_e0 (σ.1 3) (σ.2.1 12) (τ_61.2.1 53)) from by rw [g53_τ17]]; exact W2_
          have W3_ : j_e0 (σ.1 3) (σ.2.1 10) (τ17.2.1 54) := by rw [show (j_e0 (σ.1 3) (σ.2.1 10) (τ17.2.1 54)) = (j_e0 (σ.1 3) (σ.2.1 10) (τ_61.2.1 54)) from by rw [g54_τ17]]; exact W3_
          have W4_ : j_e0 (σ.1 3) (σ.2.1 11) (τ17.2.1 55) := by rw [show (j_e0 (σ.1 3) (σ.2.1 11) (τ17.2.1 55)) = (j_e0 (σ.1 3) (σ.2.1 11) (τ_61.2.1 55)) from by rw [g55_τ17]]; exact W4_
          have SYt : oc (τ17.2.1 6) ≤ (τ17.1 3) := q15_4
          have AVt : (τ17.1 12) ≤ ca (τ17.2.1 9) (τ17.1 3) := q15_5
          have STt : j_l2 (τ17.2.1 6) (τ17.1 3) := q15_6
          have A6 : ∀ j, (-1) ≤ τ17.2.1 6 j ∧ τ17.2.1 6 j ≤ 999 := fun j => hT.2 6 j
          have A7 : ∀ j, (-1) ≤ τ17.2.1 7 j ∧ τ17.2.1 7 j ≤ 1499 := fun j => hT.2 7 j
          have A8 : ∀ j, 0 ≤ τ17.2.1 8 j ∧ τ17.2.1 8 j ≤ 1 := fun j => hT.2 8 j
          have A9 : ∀ j, 0 ≤ τ17.2.1 9 j ∧ τ17.2.1 9 j ≤ 1 := fun j => hT.2 9 j
          have A10 : ∀ j, (-1) ≤ τ17.2.1 10 j ∧ τ17.2.1 10 j ≤ 999 := fun j => hT.2 10 j
          have A11 : ∀ j, (-1) ≤ τ17.2.1 11 j ∧ τ17.2.1 11 j ≤ 1499 := fun j => hT.2 11 j
          have A12 : ∀ j, 0 ≤ τ17.2.1 12 j ∧ τ17.2.1 12 j ≤ 1 := fun j => hT.2 12 j
          have A14 : ∀ j, 0 ≤ τ17.2.1 14 j ∧ τ17.2.1 14 j ≤ 30000 := fun j => hT.2 14 j
          have A15 : ∀ j, 0 ≤ τ17.2.1 15 j ∧ τ17.2.1 15 j ≤ 300 := fun j => hT.2 15 j
          have A18 : ∀ j, 0 ≤ τ17.2.1 18 j ∧ τ17.2.1 18 j ≤ 90000 := fun j => hT.2 18 j
          have A19 : ∀ j, 0 ≤ τ17.2.1 19 j ∧ τ17.2.1 19 j ≤ 60 := fun j => hT.2 19 j
          have A21 : ∀ j, 0 ≤ τ17.2.1 21 j ∧ τ17.2.1 21 j ≤ 20000 := fun j => hT.2 21 j
          have A22 : ∀ j, 0 ≤ τ17.2.1 22 j ∧ τ17.2.1 22 j ≤ 20000 := fun j => hT.2 22 j
          have A25 : ∀ j, 0 ≤ τ17.2.1 25 j ∧ τ17.2.1 25 j ≤ 20000 := fun j => hT.2 25 j
          have A26 : ∀ j, 0 ≤ τ17.2.1 26 j ∧ τ17.2.1 26 j ≤ 20000 := fun j => hT.2 26 j
          have A28 : ∀ j, 0 ≤ τ17.2.1 28 j ∧ τ17.2.1 28 j ≤ 1 := fun j => hT.2 28 j
          have A51 : ∀ j, 0 ≤ τ17.2.1 51 j ∧ τ17.2.1 51 j ≤ 1 := fun j => hT.2 51 j
          have A52 : ∀ j, 0 ≤ τ17.2.1 52 j ∧ τ17.2.1 52 j ≤ 1 := fun j => hT.2 52 j
          have A53 : ∀ j, 0 ≤ τ17.2.1 53 j ∧ τ17.2.1 53 j ≤ 1 := fun j => hT.2 53 j
          have A54 : ∀ j, (-1) ≤ τ17.2.1 54 j ∧ τ17.2.1 54 j ≤ 999 := fun j => hT.2 54 j
          have A55 : ∀ j, (-1) ≤ τ17.2.1 55 j ∧ τ17.2.1 55 j ≤ 1499 := fun j => hT.2 55 j
          have v0 : 0 ≤ τ17.1 0 ∧ τ17.1 0 ≤ 60000 := hT.1 0
          have v1 : 0 ≤ τ17.1 1 ∧ τ17.1 1 ≤ 1 := hT.1 1
          have v2 : 0 ≤ τ17.1 2 ∧ τ17.1 2 ≤ 30000 := hT.1 2
          have v3 : 0 ≤ τ17.1 3 ∧ τ17.1 3 ≤ 1000 := hT.1 3
          have v4 : 0 ≤ τ17.1 4 ∧ τ17.1 4 ≤ 100 := hT.1 4
          have v5 : 0 ≤ τ17.1 5 ∧ τ17.1 5 ≤ 1500 := hT.1 5
          have v6 : 0 ≤ τ17.1 6 ∧ τ17.1 6 ≤ 30000 := hT.1 6
          have v7 : 0 ≤ τ17.1 7 ∧ τ17.1 7 ≤ 90000 := hT.1 7
          have v8 : 0 ≤ τ17.1 8 ∧ τ17.1 8 ≤ 20000 := hT.1 8
          have v9 : 0 ≤ τ17.1 9 ∧ τ17.1 9 ≤ 20000 := hT.1 9
          have v12 : 0 ≤ τ17.1 12 ∧ τ17.1 12 ≤ 1000 := hT.1 12
          have v13 : 0 ≤ τ17.1 13 ∧ τ17.1 13 ≤ 1500 := hT.1 13
          have v14 : 0 ≤ τ17.1 14 ∧ τ17.1 14 ≤ 1000 := hT.1 14
          have v15 : 0 ≤ τ17.1 15 ∧ τ17.1 15 ≤ 50 := hT.1 15
          have v16 : 0 ≤ τ17.1 16 ∧ τ17.1 16 ≤ 60000 := hT.1 16
          have v17 : 0 ≤ τ17.1 17 ∧ τ17.1 17 ≤ 60000 := hT.1 17
          have v18 : 0 ≤ τ17.1 18 ∧ τ17.1 18 ≤ 60000 := hT.1 18
          have v19 : (-1) ≤ τ17.1 19 ∧ τ17.1 19 ≤ 125 := hT.1 19
          have v20 : 0 ≤ τ17.1 20 ∧ τ17.1 20 ≤ 19 := hT.1 20
          have v38 : 0 ≤ τ17.1 38 ∧ τ17.1 38 ≤ 1500 := hT.1 38
          have v49 : 0 ≤ τ17.1 49 ∧ τ17.1 49 ≤ 1 := hT.1 49
          have av3 : σ.1 3 ≤ τ17.1 3 := ag.1 3 (by decide)
          have av5 : σ.1 5 ≤ τ17.1 5 := ag.1 5 (by decide)
          have av6 : σ.1 6 ≤ τ17.1 6 := ag.1 6 (by decide)
          have av7 : σ.1 7 ≤ τ17.1 7 := ag.1 7 (by decide)
          have av8 : σ.1 8 ≤ τ17.1 8 := ag.1 8 (by decide)
          have av9 : σ.1 9 ≤ τ17.1 9 := ag.1 9 (by decide)
          have Y8 := j_eqt Y8 (j_eqw q15_12 (show σ.1 9 ≤ τ_61.1 9 from by omega))
          refine ⟨fun c18 => ?_, fun c18 => ?_⟩
          ·
            exact ih_61 _ (show (3 * ((τ17.1 0) - (τ17.1 16)) + z_0 ((τ17.1 20)) + 1 - z_0 ((τ17.1 19)) : Int) < ((m_61 : Nat) : Int) from by (have zz0 := z_e ((τ17.1 20)); have zz1 := z_e ((τ17.1 19)); (first | omega | (simp only [st_s] <;> omega) | assumption | omega))) hT ag (show (τ17.1 16) ≤ (τ17.1 0) from by (first | omega | (simp only [st_s] <;> omega) | assumption | omega)) (show (τ17.1 17) + (τ17.1 18) ≤ (τ17.1 0) from by (first | omega | (simp only [st_s] <;> omega) | assumption | omega)) (show oc (τ17.2.1 6) ≤ (τ17.1 3) from SYt) (show (τ17.1 12) ≤ ca (τ17.2.1 9) (τ17.1 3) from AVt) (show j_l2 (τ17.2.1 6) (τ17.1 3) from Y1) (show ca (τ17.2.1 12) ((τ17.1 3)) ≤ (τ17.1 4) from Y20) (show J_pa (τ17.2.1 21) (τ17.2.1 22) from PA) (show (τ17.1 13) ≤ (τ17.1 5) from by (first | omega | (simp only [st_s] <;> omega) | assumption | omega)) (show (τ17.1 20) = 0 → oc (τ17.2.1 7) ≤ (τ17.1 5) from by (first | omega | (simp only [st_s] <;> omega) | assumption | omega)) (show (τ17.1 20) = 0 → (τ17.1 7) ≤ 60 * (τ17.1 5) from by (first | omega | (simp only [st_s] <;> omega) | assumption | omega)) (show j_eq ((σ.1 9)) (σ.2.1 28) (τ17.2.1 28) from Y8) (show (τ17.1 20) = 0 → m_J τ17 from by (intro hf; first | (exfalso; omega) | exact m_J_f (q15_13 (by omega) (i61_12 (by omega))) hf_τ21 rfl rfl | exact m_J_f (by exact (show m_J τ3 from m_J_f p9 hf_τ3 rfl rfl)) hf_τ6 rfl rfl)) (show (σ.1 5) ≤ (τ17.1 5) from by (first | omega | (simp only [st_s] <;> omega) | assumption | omega)) (show j_e0 (σ.1 3) (σ.2.1 8) (τ17.2.1 51) from W0_) (show j_e0 (σ.1 3) (σ.2.1 9) (τ17.2.1 52) from W1_) (show j_e0 (σ.1 3) (σ.2.1 12) (τ17.2.1 53) from W2_) (show j_e0 (σ.1 3) (σ.2.1 10) (τ17.2.1 54) from W3_) (show j_e0 (σ.1 3) (σ.2.1 11) (τ17.2.1 55) from W4_)
          ·
            refine ⟨_, K_X13_next hT (show (τ17.1 16) ≤ (τ17.1 0) from by (first | omega | (simp only [st_s] <;> omega) | assumption | omega)), ?_⟩
            intro τ21 hn_τ21 hf_τ21 hq
            obtain ⟨hT, q19_1, q19_2, q19_3, q19_4, q19_5⟩ := hq
            replace q19_1 : (τ21.1 16) ≤ (τ21.1 0) := q19_1
            replace q19_2 : (τ21.1 17) + (τ21.1 18) ≤ (τ21.1 0) := q19_2
            replace q19_3 : (τ17.1 16) ≤ (τ21.1 16) := q19_3
            replace q19_4 : ¬ (τ17.1 20) = 0 → (τ21.1 20) = (τ17.1 20) := q19_4
            replace q19_5 : (τ21.1 20) = 0 → ¬ (τ21.1 19) = 0 → (τ17.1 16) < (τ21.1 16) ∧ 0 < (τ21.1 18) := q19_5
            replace ag : m_ag σ τ21 := ag_r ag hf_τ21 rfl rfl
            have w0_τ21 : τ21.1 0 = τ17.1 0 := hf_τ21.1 0 (by decide)
            have w1_τ21 : τ21.1 1 = τ17.1 1 := hf_τ21.1 1 (by decide)
            have w2_τ21 : τ21.1 2 = τ17.1 2 := hf_τ21.1 2 (by decide)
            have w3_τ21 : τ21.1 3 = τ17.1 3 := hf_τ21.1 3 (by decide)
            have w4_τ21 : τ21.1 4 = τ17.1 4 := hf_τ21.1 4 (by decide)
            have w5_τ21 : τ21.1 5 = τ17.1 5 := hf_τ21.1 5 (by decide)
            have w6_τ21 : τ21.1 6 = τ17.1 6 := hf_τ21.1 6 (by decide)
            have w7_τ21 : τ21.1 7 = τ17.1 7 := hf_τ21.1 7 (by decide)
            have w8_τ21 : τ21.1 8 = τ17.1 8 := hf_τ21.1 8 (by decide)
            have w9_τ21 : τ21.1 9 = τ17.1 9 := hf_τ21.1 9 (by decide)
            have w12_τ21 : τ21.1 12 = τ17.1 12 := hf_τ21.1 12 (by decide)
            have w13_τ21 : τ21.1 13 = τ17.1 13 := hf_τ21.1 13 (by decide)
            have w14_τ21 : τ21.1 14 = τ17.1 14 := hf_τ21.1 14 (by decide)
            have w15_τ21 : τ21.1 15 = τ17.1 15 := hf_τ21.1 15 (by decide)
            have w38_τ21 : τ21.1 38 = τ17.1 38 := hf_τ21.1 38 (by decide)
            have w49_τ21 : τ21.1 49 = τ17.1 49 := hf_τ21.1 49 (by decide)
            have g6_τ21 : τ21.2.1 6 = τ17.2.1 6 := hf_τ21.2.1 6 (by decide)
            have g7_τ21 : τ21.2.1 7 = τ17.2.1 7 := hf_τ21.2.1 7 (by decide)
            have g8_τ21 : τ21.2.1 8 = τ17.2.1 8 := hf_τ21.2.1 8 (by decide)
            have g9_τ21 : τ21.2.1 9 = τ17.2.1 9 := hf_τ21.2.1 9 (by decide)
            have g10_τ21 : τ21.2.1 10 = τ17.2.1 10 := hf_τ21.2.1 10 (by decide)
            have g11_τ21 : τ21.2.1 11 = τ17.2.1 11 := hf_τ21.2.1 11 (by decide)
            have g12_τ21 : τ21.2.1 12 = τ17.2.1 12 := hf_τ21.2.1 12 (by decide)
            have g14_τ21 : τ21.2.1 14 = τ17.2.1 14 := hf_τ21.2.1 14 (by decide)
            have g15_τ21 : τ21.2.1 15 = τ17.2.1 15 := hf_τ21.2.1 15 (by decide)
            have g18_τ21 : τ21.2.1 18 = τ17.2.1 18 := hf_τ21.2.1 18 (by decide)
            have g19_τ21 : τ21.2.1 19 = τ17.2.1 19 := hf_τ21.2.1 19 (by decide)
            have g21_τ21 : τ21.2.1 21 = τ17.2.1 21 := hf_τ21.2.1 21 (by decide)
            have g22_τ21 : τ21.2.1 22 = τ17.2.1 22 := hf_τ21.2.1 22 (by decide)
            have g25_τ21 : τ21.2.1 25 = τ17.2.1 25 := hf_τ21.2.1 25 (by decide)
            have g26_τ21 : τ21.2.1 26 = τ17.2.1 26 := hf_τ21.2.1 26 (by decide)
            have g28_τ21 : τ21.2.1 28 = τ17.2.1 28 := hf_τ21.2.1 28 (by decide)
            have g51_τ21 : τ21.2.1 51 = τ17.2.1 51 := hf_τ21.2.1 51 (by decide)
            have g52_τ21 : τ21.2.1 52 = τ17.2.1 52 := hf_τ21.2.1 52 (by decide)
            have g53_τ21 : τ21.2.1 53 = τ17.2.1 53 := hf_τ21.2.1 53 (by decide)
            have g54_τ21 : τ21.2.1 54 = τ17.2.1 54 := hf_τ21.2.1 54 (by decide)
            have g55_τ21 : τ21.2.1 55 = τ17.2.1 55 := hf_τ21.2.1 55 (by decide)
            first | (have ca_τ21 := congr (congrArg ca g9_τ21) w3_τ21) | skip
            first | (have o6_τ21 := congrArg oc g6_τ21) | skip
            first | (have o7_τ21 := congrArg oc g7_τ21) | skip
            have Y20 : ca (τ21.2.1 12) ((τ21.1 3)) ≤ (τ21.1 4) := by rw [show (ca (τ21.2.1 12) ((τ21.1 3)) ≤ (τ21.1 4)) = (ca (τ17.2.1 12) ((τ17.1 3)) ≤ (τ17.1 4)) from by rw [w3_τ21, w4_τ21, g12_τ21]]; exact Y20
            have Y8 : j_eq ((σ.1 9)) (σ.2.1 28) (τ21.2.1 28) := by rw [show (j_eq ((σ.1 9)) (σ.2.1 28) (τ21.2.1 28)) = (j_eq ((σ.1 9)) (σ.2.1 28) (τ17.2.1 28)) from by rw [g28_τ21]]; exact Y8
            have Y1 : j_l2 (τ21.2.1 6) (τ21.1 3) := by rw [show (j_l2 (τ21.2.1 6) (τ21.1 3)) = (j_l2 (τ17.2.1 6) (τ17.1 3)) from by rw [w3_τ21, g6_τ21]]; exact Y1
            have PA : J_pa (τ21.2.1 21) (τ21.2.1 22) := by rw [show (J_pa (τ21.2.1 21) (τ21.2.1 22)) = (J_pa (τ17.2.1 21) (τ17.2.1 22)) from by rw [g21_τ21, g22_τ21]]; exact PA
            have W0_ : j_e0 (σ.1 3) (σ.2.1 8) (τ21.2.1 51) := by rw [show (j_e0 (σ.1 3) (σ.2.1 8) (τ21.2.1 51)) = (j_e0 (σ.1 3) (σ.2.1 8) (τ17.2.1 51)) from by rw [g51_τ21]]; exact W0_
            have W1_ : j_e0 (σ.1 3) (σ.2.1 9) (τ21.2.1 52) := by rw [show (j_e0 (σ.1 3) (σ.2.1 9) (τ21.2.1 52)) = (j_e0 (σ.1 3) (σ.2.1 9) (τ17.2.1 52)) from by rw [g52_τ21]]; exact W1_
            have W2_ : j_e0 (σ.1 3) (σ.2.1 12) (τ21.2.1 53) := by rw [show (j_e0 (σ.1 3) (σ.2.1 12) (τ21.2.1 53)) = (j_e0 (σ.1 3) (σ.2.1 12) (τ17.2.1 53)) from by rw [g53_τ21]]; exact W2_
            have W3_ : j_e0 (σ.1 3) (σ.2.1 10) (τ21.2.1 54) := by rw [show (j_e0 (σ.1 3) (σ.2.1 10) (τ21.2.1 54)) = (j_e0 (σ.1 3) (σ.2.1 10) (τ17.2.1 54)) from by rw [g54_τ21]]; exact W3_
            have W4_ : j_e0 (σ.1 3) (σ.2.1 11) (τ21.2.1 55) := by rw [show (j_e0 (σ.1 3) (σ.2.1 11) (τ21.2.1 55)) = (j_e0 (σ.1 3) (σ.2.1 11) (τ17.2.1 55)) from by rw [g55_τ21]]; exact W4_
            have SYt : oc (τ21.2.1 6) ≤ (τ21.1 3) := by rw [show (oc (τ21.2.1 6) ≤ (τ21.1 3)) = (oc (τ17.2.1 6) ≤ (τ17.1 3)) from by rw [w3_τ21, g6_τ21]]; exact SYt
            have AVt : (τ21.1 12) ≤ ca (τ21.2.1 9) (τ21.1 3) := by rw [show ((τ21.1 12) ≤ ca (τ21.2.1 9) (τ21.1 3)) = ((τ17.1 12) ≤ ca (τ17.2.1 9) (τ17.1 3)) from by rw [w3_τ21, w12_τ21, g9_τ21]]; exact AVt
            have STt : j_l2 (τ21.2.1 6) (τ21.1 3) := by rw [show (j_l2 (τ21.2.1 6) (τ21.1 3)) = (j_l2 (τ17.2.1 6) (τ17.1 3)) from by rw [w3_τ21, g6_τ21]]; exact STt
            have A6 : ∀ j, (-1) ≤ τ21.2.1 6 j ∧ τ21.2.1 6 j ≤ 999 := fun j => hT.2 6 j
            have A7 : ∀ j, (-1) ≤ τ21.2.1 7 j ∧ τ21.2.1 7 j ≤ 1499 := fun j => hT.2 7 j
            have A8 : ∀ j, 0 ≤ τ21.2.1 8 j ∧ τ21.2.1 8 j ≤ 1 := fun j => hT.2 8 j
            have A9 : ∀ j, 0 ≤ τ21.2.1 9 j ∧ τ21.2.1 9 j ≤ 1 := fun j => hT.2 9 j
            have A10 : ∀ j, (-1) ≤ τ21.2.1 10 j ∧ τ21.2.1 10 j ≤ 999 := fun j => hT.2 10 j
            have A11 : ∀ j, (-1) ≤ τ21.2.1 11 j ∧ τ21.2.1 11 j ≤ 1499 := fun j => hT.2 11 j
            have A12 : ∀ j, 0 ≤ τ21.2.1 12 j ∧ τ21.2.1 12 j ≤ 1 := fun j => hT.2 12 j
            have A14 : ∀ j, 0 ≤ τ21.2.1 14 j ∧ τ21.2.1 14 j ≤ 30000 := fun j => hT.2 14 j
            have A15 : ∀ j, 0 ≤ τ21.2.1 15 j ∧ τ21.2.1 15 j ≤ 300 := fun j => hT.2 15 j
            have A18 : ∀ j, 0 ≤ τ21.2.1 18 j ∧ τ21.2.1 18 j ≤ 90000 := fun j => hT.2 18 j
            have A19 : ∀ j, 0 ≤ τ21.2.1 19 j ∧ τ21.2.1 19 j ≤ 60 := fun j => hT.2 19 j
            have A21 : ∀ j, 0 ≤ τ21.2.1 21 j ∧ τ21.2.1 21 j ≤ 20000 := fun j => hT.2 21 j
            have A22 : ∀ j, 0 ≤ τ21.2.1 22 j ∧ τ21.2.1 22 j ≤ 20000 := fun j => hT.2 22 j
            have A25 : ∀ j, 0 ≤ τ21.2.1 25 j ∧ τ21.2.1 25 j ≤ 20000 := fun j => hT.2 25 j
            have A26 : ∀ j, 0 ≤ τ21.2.1 26 j ∧ τ21.2.1 26 j ≤ 20000 := fun j => hT.2 26 j
            have A28 : ∀ j, 0 ≤ τ21.2.1 28 j ∧ τ21.2.1 28 j ≤ 1 := fun j => hT.2 28 j
            have A51 : ∀ j, 0 ≤ τ21.2.1 51 j ∧ τ21.2.1 51 j ≤ 1 := fun j => hT.2 51 j
            have A52 : ∀ j, 0 ≤ τ21.2.1 52 j ∧ τ21.2.1 52 j ≤ 1 := fun j => hT.2 52 j
            have A53 : ∀ j, 0 ≤ τ21.2.1 53 j ∧ τ21.2.1 53 j ≤ 1 := fun j => hT.2 53 j
            have A54 : ∀ j, (-1) ≤ τ21.2.1 54 j ∧ τ21.2.1 54 j ≤ 999 := fun j => hT.2 54 j
            have A55 : ∀ j, (-1) ≤ τ21.2.1 55 j ∧ τ21.2.1 55 j ≤ 1499 := fun j => hT.2 55 j
            have v0 : 0 ≤ τ21.1 0 ∧ τ21.1 0 ≤ 60000 := hT.1 0
            have v1 : 0 ≤ τ21.1 1 ∧ τ21.1 1 ≤ 1 := hT.1 1
            have v2 : 0 ≤ τ21.1 2 ∧ τ21.1 2 ≤ 30000 := hT.1 2
            have v3 : 0 ≤ τ21.1 3 ∧ τ21.1 3 ≤ 1000 := hT.1 3
            have v4 : 0 ≤ τ21.1 4 ∧ τ21.1 4 ≤ 100 := hT.1 4
            have v5 : 0 ≤ τ21.1 5 ∧ τ21.1 5 ≤ 1500 := hT.1 5
            have v6 : 0 ≤ τ21.1 6 ∧ τ21.1 6 ≤ 30000 := hT.1 6
            have v7 : 0 ≤ τ21.1 7 ∧ τ21.1 7 ≤ 90000 := hT.1 7
            have v8 : 0 ≤ τ21.1 8 ∧ τ21.1 8 ≤ 20000 := hT.1 8
            have v9 : 0 ≤ τ21.1 9 ∧ τ21.1 9 ≤ 20000 := hT.1 9
            have v12 : 0 ≤ τ21.1 12 ∧ τ21.1 12 ≤ 1000 := hT.1 12
            have v13 : 0 ≤ τ21.1 13 ∧ τ21.1 13 ≤ 1500 := hT.1 13
            have v14 : 0 ≤ τ21.1 14 ∧ τ21.1 14 ≤ 1000 := hT.1 14
            have v15 : 0 ≤ τ21.1 15 ∧ τ21.1 15 ≤ 50 := hT.1 15
            have v16 : 0 ≤ τ21.1 16 ∧ τ21.1 16 ≤ 60000 := hT.1 16
            have v17 : 0 ≤ τ21.1 17 ∧ τ21.1 17 ≤ 60000 := hT.1 17
            have v18 : 0 ≤ τ21.1 18 ∧ τ21.1 18 ≤ 60000 := hT.1 18
            have v19 : (-1) ≤ τ21.1 19 ∧ τ21.1 19 ≤ 125 := hT.1 19
            have v20 : 0 ≤ τ21.1 20 ∧ τ21.1 20 ≤ 19 := hT.1 20
            have v38 : 0 ≤ τ21.1 38 ∧ τ21.1 38 ≤ 1500 := hT.1 38
            have v49 : 0 ≤ τ21.1 49 ∧ τ21.1 49 ≤ 1 := hT.1 49
            have av3 : σ.1 3 ≤ τ21.1 3 := ag.1 3 (by decide)
            have av5 : σ.1 5 ≤ τ21.1 5 := ag.1 5 (by decide)
            have av6 : σ.1 6 ≤ τ21.1 6 := ag.1 6 (by decide)
            have av7 : σ.1 7 ≤ τ21.1 7 := ag.1 7 (by decide)
            have av8 : σ.1 8 ≤ τ21.1 8 := ag.1 8 (by decide)
            have av9 : σ.1 9 ≤ τ21.1 9 := ag.1 9 (by decide)
            exact ih_61 _ (show (3 * ((τ21.1 0) - (τ21.1 16)) + z_0 ((τ21.1 20)) + 1 - z_0 ((τ21.1 19)) : Int) < ((m_61 : Nat) : Int) from by (have zz0 := z_e ((τ21.1 20)); have zz1 := z_e ((τ21.1 19)); (first | omega | (simp only [st_s] <;> omega) | assumption | omega))) hT ag (show (τ21.1 16) ≤ (τ21.1 0) from by (first | omega | (simp only [st_s] <;> omega) | assumption | omega)) (show (τ21.1 17) + (τ21.1 18) ≤ (τ21.1 0) from by (first | omega | (simp only [st_s] <;> omega) | assumption | omega)) (show oc (τ21.2.1 6) ≤ (τ21.1 3) from SYt) (show (τ21.1 12) ≤ ca (τ21.2.1 9) (τ21.1 3) from AVt) (show j_l2 (τ21.2.1 6) (τ21.1 3) from Y1) (show ca (τ21.2.1 12) ((τ21.1 3)) ≤ (τ21.1 4) from Y20) (show J_pa (τ21.2.1 21) (τ21.2.1 22) from PA) (show (τ21.1 13) ≤ (τ21.1 5) from by (first | omega | (simp only [st_s] <;> omega) | assumption | omega)) (show (τ21.1 20) = 0 → oc (τ21.2.1 7) ≤ (τ21.1 5) from by (first | omega | (simp only [st_s] <;> omega) | assumption | omega)) (show (τ21.1 20) = 0 → (τ21.1 7) ≤ 60 * (τ21.1 5) from by (first | omega | (simp only [st_s] <;> omega) | assumption | omega)) (show j_eq ((σ.1 9)) (σ.2.1 28) (τ21.2.1 28) from Y8) (show (τ21.1 20) = 0 → m_J τ21 from by (intro hf; first | (exfalso; omega) | exact m_J_f (q15_13 (by omega) (i61_12 (by omega))) hf_τ21 rfl rfl | exact m_J_f (by exact (show m_J τ3 from m_J_f p9 hf_τ3 rfl rfl)) hf_τ6 rfl rfl)) (show (σ.1 5) ≤ (τ21.1 5) from by (first | omega | (simp only [st_s] <;> omega) | assumption | omega)) (show j_e0 (σ.1 3) (σ.2.1 8) (τ21.2.1 51) from W0_) (show j_e0 (σ.1 3) (σ.2.1 9) (τ21.2.1 52) from W1_) (show j_e0 (σ.1 3) (σ.2.1 12) (τ21.2.1 53) from W2_) (show j_e0 (σ.1 3) (σ.2.1 10) (τ21.2.1 54) from W3_) (show j_e0 (σ.1 3) (σ.2.1 11) (τ21.2.1 55) from W4_)
  refine ⟨_, K_X13_noteAll hT, ?_⟩
  intro τ3 hn_τ3 hf_τ3 hq
  obtain ⟨hT, q1_1, q1_2, q1_3, q1_4, q1_5⟩ := hq
  replace q1_1 : j_e0 (σ.1 3) (σ.2.1 8) (τ3.2.1 51) := q1_1
  replace q1_2 : j_e0 (σ.1 3) (σ.2.1 9) (τ3.2.1 52) := q1_2
  replace q1_3 : j_e0 (σ.1 3) (σ.2.1 12) (τ3.2.1 53) := q1_3
  replace q1_4 : j_e0 (σ.1 3) (σ.2.1 10) (τ3.2.1 54) := q1_4
  replace q1_5 : j_e0 (σ.1 3) (σ.2.1 11) (τ3.2.1 55) := q1_5
  replace ag : m_ag σ τ3 := ag_r ag hf_τ3 rfl rfl
  have w0_τ3 : τ3.1 0 = σ.1 0 := hf_τ3.1 0 (by decide)
  have w1_τ3 : τ3.1 1 = σ.1 1 := hf_τ3.1 1 (by decide)
  have w2_τ3 : τ3.1 2 = σ.1 2 := hf_τ3.1 2 (by decide)
  have w3_τ3 : τ3.1 3 = σ.1 3 := hf_τ3.1 3 (by decide)
  have w4_τ3 : τ3.1 4 = σ.1 4 := hf_τ3.1 4 (by decide)
  have w5_τ3 : τ3.1 5 = σ.1 5 := hf_τ3.1 5 (by decide)
  have w6_τ3 : τ3.1 6 = σ.1 6 := hf_τ3.1 6 (by decide)
  have w7_τ3 : τ3.1 7 = σ.1 7 := hf_τ3.1 7 (by decide)
  have w8_τ3 : τ3.1 8 = σ.1 8 := hf_τ3.1 8 (by decide)
  have w9_τ3 : τ3.1 9 = σ.1 9 := hf_τ3.1 9 (by decide)
  have w12_τ3 : τ3.1 12 = σ.1 12 := hf_τ3.1 12 (by decide)
  have w13_τ3 : τ3.1 13 = σ.1 13 := hf_τ3.1 13 (by decide)
  have w14_τ3 : τ3.1 14 = σ.1 14 := hf_τ3.1 14 (by decide)
  have w15_τ3 : τ3.1 15 = σ.1 15 := hf_τ3.1 15 (by decide)
  have w16_τ3 : τ3.1 16 = σ.1 16 := hf_τ3.1 16 (by decide)
  have w17_τ3 : τ3.1 17 = σ.1 17 := hf_τ3.1 17 (by decide)
  have w18_τ3 : τ3.1 18 = σ.1 18 := hf_τ3.1 18 (by decide)
  have w19_τ3 : τ3.1 19 = σ.1 19 := hf_τ3.1 19 (by decide)
  have w20_τ3 : τ3.1 20 = σ.1 20 := hf_τ3.1 20 (by decide)
  have w38_τ3 : τ3.1 38 = σ.1 38 := hf_τ3.1 38 (by decide)
  have w49_τ3 : τ3.1 49 = σ.1 49 := hf_τ3.1 49 (by decide)
  have g6_τ3 : τ3.2.1 6 = σ.2.1 6 := hf_τ3.2.1 6 (by decide)
  have g7_τ3 : τ3.2.1 7 = σ.2.1 7 := hf_τ3.2.1 7 (by decide)
  have g8_τ3 : τ3.2.1 8 = σ.2.1 8 := hf_τ3.2.1 8 (by decide)
  have g9_τ3 : τ3.2.1 9 = σ.2.1 9 := hf_τ3.2.1 9 (by decide)
  have g10_τ3 : τ3.2.1 10 = σ.2.1 10 := hf_τ3.2.1 10 (by decide)
  have g11_τ3 : τ3.2.1 11 = σ.2.1 11 := hf_τ3.2.1 11 (by decide)
  have g12_τ3 : τ3.2.1 12 = σ.2.1 12 := hf_τ3.2.1 12 (by decide)
  have g14_τ3 : τ3.2.1 14 = σ.2.1 14 := hf_τ3.2.1 14 (by decide)
  have g15_τ3 : τ3.2.1 15 = σ.2.1 15 := hf_τ3.2.1 15 (by decide)
  have g18_τ3 : τ3.2.1 18 = σ.2.1 18 := hf_τ3.2.1 18 (by decide)
  have g19_τ3 : τ3.2.1 19 = σ.2.1 19 := hf_τ3.2.1 19 (by decide)
  have g21_τ3 : τ3.2.1 21 = σ.2.1 21 := hf_τ3.2.1 21 (by decide)
  have g22_τ3 : τ3.2.1 22 = σ.2.1 22 := hf_τ3.2.1 22 (by decide)
  have g25_τ3 : τ3.2.1 25 = σ.2.1 25 := hf_τ3.2.1 25 (by decide)
  have g26_τ3 : τ3.2.1 26 = σ.2.1 26 := hf_τ3.2.1 26 (by decide)
  have g28_τ3 : τ3.2.1 28 = σ.2.1 28 := hf_τ3.2.1 28 (by decide)
  first | (have ca_τ3 := congr (congrArg ca g9_τ3) w3_τ3) | skip
  first | (have o6_τ3 := congrArg oc g6_τ3) | skip
  first | (have o7_τ3 := congrArg oc g7_τ3) | skip
  have Y20 : ca (τ3.2.1 12) ((τ3.1 3)) ≤ (τ3.1 4) := by rw [show (ca (τ3.2.1 12) ((τ3.1 3)) ≤ (τ3.1 4)) = (ca (σ.2.1 12) ((σ.1 3)) ≤ (σ.1 4)) from by rw [w3_τ3, w4_τ3, g12_τ3]]; exact Y20
  have Y8 : j_eq ((σ.1 9)) (σ.2.1 28) (τ3.2.1 28) := by rw [show (j_eq ((σ.1 9)) (σ.2.1 28) (τ3.2.1 28)) = (j_eq ((σ.1 9)) (σ.2.1 28) (σ.2.1 28)) from by rw [g28_τ3]]; exact Y8
  have Y1 : j_l2 (τ3.2.1 6) (τ3.1 3) := by rw [show (j_l2 (τ3.2.1 6) (τ3.1 3)) = (j_l2 (σ.2.1 6) (σ.1 3)) from by rw [w3_τ3, g6_τ3]]; exact Y1
  have PA : J_pa (τ3.2.1 21) (τ3.2.1 22) := by rw [show (J_pa (τ3.2.1 21) (τ3.2.1 22)) = (J_pa (σ.2.1 21) (σ.2.1 22)) from by rw [g21_τ3, g22_τ3]]; exact PA
  have SYt : oc (τ3.2.1 6) ≤ (τ3.1 3) := by rw [show (oc (τ3.2.1 6) ≤ (τ3.1 3)) = (oc (σ.2.1 6) ≤ (σ.1 3)) from by rw [w3_τ3, g6_τ3]]; exact SYt
  have LAt : oc (τ3.2.1 7) ≤ (τ3.1 5) := by rw [show (oc (τ3.2.1 7) ≤ (τ3.1 5)) = (oc (σ.2.1 7) ≤ (σ.1 5)) from by rw [w5_τ3, g7_τ3]]; exact LAt
  have AVt : (τ3.1 12) ≤ ca (τ3.2.1 9) (τ3.1 3) := by rw [show ((τ3.1 12) ≤ ca (τ3.2.1 9) (τ3.1 3)) = ((σ.1 12) ≤ ca (σ.2.1 9) (σ.1 3)) from by rw [w3_τ3, w12_τ3, g9_τ3]]; exact AVt
  have STt : j_l2 (τ3.2.1 6) (τ3.1 3) := by rw [show (j_l2 (τ3.2.1 6) (τ3.1 3)) = (j_l2 (σ.2.1 6) (σ.1 3)) from by rw [w3_τ3, g6_τ3]]; exact STt
  have A6 : ∀ j, (-1) ≤ τ3.2.1 6 j ∧ τ3.2.1 6 j ≤ 999 := fun j => hT.2 6 j
  have A7 : ∀ j, (-1) ≤ τ3.2.1 7 j ∧ τ3.2.1 7 j ≤ 1499 := fun j => hT.2 7 j
  have A8 : ∀ j, 0 ≤ τ3.2.1 8 j ∧ τ3.2.1 8 j ≤ 1 := fun j => hT.2 8 j
  have A9 : ∀ j, 0 ≤ τ3.2.1 9 j ∧ τ3.2.1 9 j ≤ 1 := fun j => hT.2 9 j
  have A10 : ∀ j, (-1) ≤ τ3.2.1 10 j ∧ τ3.2.1 10 j ≤ 999 := fun j => hT.2 10 j
  have A11 : ∀ j, (-1) ≤ τ3.2.1 11 j ∧ τ3.2.1 11 j ≤ 1499 := fun j => hT.2 11 j
  have A12 : ∀ j, 0 ≤ τ3.2.1 12 j ∧ τ3.2.1 12 j ≤ 1 := fun j => hT.2 12 j
  have A14 : ∀ j, 0 ≤ τ3.2.1 14 j ∧ τ3.2.1 14 j ≤ 30000 := fun j => hT.2 14 j
  have A15 : ∀ j, 0 ≤ τ3.2.1 15 j ∧ τ3.2.1 15 j ≤ 300 := fun j => hT.2 15 j
  have A18 : ∀ j, 0 ≤ τ3.2.1 18 j ∧ τ3.2.1 18 j ≤ 90000 := fun j => hT.2 18 j
  have A19 : ∀ j, 0 ≤ τ3.2.1 19 j ∧ τ3.2.1 19 j ≤ 60 := fun j => hT.2 19 j
  have A21 : ∀ j, 0 ≤ τ3.2.1 21 j ∧ τ3.2.1 21 j ≤ 20000 := fun j => hT.2 21 j
  have A22 : ∀ j, 0 ≤ τ3.2.1 22 j ∧ τ3.2.1 22 j ≤ 20000 := fun j => hT.2 22 j
  have A25 : ∀ j, 0 ≤ τ3.2.1 25 j ∧ τ3.2.1 25 j ≤ 20000 := fun j => hT.2 25 j
  have A26 : ∀ j, 0 ≤ τ3.2.1 26 j ∧ τ3.2.1 26 j ≤ 20000 := fun j => hT.2 26 j
  have A28 : ∀ j, 0 ≤ τ3.2.1 28 j ∧ τ3.2.1 28 j ≤ 1 := fun j => hT.2 28 j
  have A51 : ∀ j, 0 ≤ τ3.2.1 51 j ∧ τ3.2.1 51 j ≤ 1 := fun j => hT.2 51 j
  have A52 : ∀ j, 0 ≤ τ3.2.1 52 j ∧ τ3.2.1 52 j ≤ 1 := fun j => hT.2 52 j
  have A53 : ∀ j, 0 ≤ τ3.2.1 53 j ∧ τ3.2.1 53 j ≤ 1 := fun j => hT.2 53 j
  have A54 : ∀ j, (-1) ≤ τ3.2.1 54 j ∧ τ3.2.1 54 j ≤ 999 := fun j => hT.2 54 j
  have A55 : ∀ j, (-1) ≤ τ3.2.1 55 j ∧ τ3.2.1 55 j ≤ 1499 := fun j => hT.2 55 j
  have v0 : 0 ≤ τ3.1 0 ∧ τ3.1 0 ≤ 60000 := hT.1 0
  have v1 : 0 ≤ τ3.1 1 ∧ τ3.1 1 ≤ 1 := hT.1 1
  have v2 : 0 ≤ τ3.1 2 ∧ τ3.1 2 ≤ 30000 := hT.1 2
  have v3 : 0 ≤ τ3.1 3 ∧ τ3.1 3 ≤ 1000 := hT.1 3
  have v4 : 0 ≤ τ3.1 4 ∧ τ3.1 4 ≤ 100 := hT.1 4
  have v5 : 0 ≤ τ3.1 5 ∧ τ3.1 5 ≤ 1500 := hT.1 5
  have v6 : 0 ≤ τ3.1 6 ∧ τ3.1 6 ≤ 30000 := hT.1 6
  have v7 : 0 ≤ τ3.1 7 ∧ τ3.1 7 ≤ 90000 := hT.1 7
  have v8 : 0 ≤ τ3.1 8 ∧ τ3.1 8 ≤ 20000 := hT.1 8
  have v9 : 0 ≤ τ3.1 9 ∧ τ3.1 9 ≤ 20000 := hT.1 9
  have v12 : 0 ≤ τ3.1 12 ∧ τ3.1 12 ≤ 1000 := hT.1 12
  have v13 : 0 ≤ τ3.1 13 ∧ τ3.1 13 ≤ 1500 := hT.1 13
  have v14 : 0 ≤ τ3.1 14 ∧ τ3.1 14 ≤ 1000 := hT.1 14
  have v15 : 0 ≤ τ3.1 15 ∧ τ3.1 15 ≤ 50 := hT.1 15
  have v16 : 0 ≤ τ3.1 16 ∧ τ3.1 16 ≤ 60000 := hT.1 16
  have v17 : 0 ≤ τ3.1 17 ∧ τ3.1 17 ≤ 60000 := hT.1 17
  have v18 : 0 ≤ τ3.1 18 ∧ τ3.1 18 ≤ 60000 := hT.1 18
  have v19 : (-1) ≤ τ3.1 19 ∧ τ3.1 19 ≤ 125 := hT.1 19
  have v20 : 0 ≤ τ3.1 20 ∧ τ3.1 20 ≤ 19 := hT.1 20
  have v38 : 0 ≤ τ3.1 38 ∧ τ3.1 38 ≤ 1500 := hT.1 38
  have v49 : 0 ≤ τ3.1 49 ∧ τ3.1 49 ≤ 1 := hT.1 49
  have av3 : σ.1 3 ≤ τ3.1 3 := ag.1 3 (by decide)
  have av5 : σ.1 5 ≤ τ3.1 5 := ag.1 5 (by decide)
  have av6 : σ.1 6 ≤ τ3.1 6 := ag.1 6 (by decide)
  have av7 : σ.1 7 ≤ τ3.1 7 := ag.1 7 (by decide)
  have av8 : σ.1 8 ≤ τ3.1 8 := ag.1 8 (by decide)
  have av9 : σ.1 9 ≤ τ3.1 9 := ag.1 9 (by decide)
  have W0_ := q1_1
  have W1_ := q1_2
  have W2_ := q1_3
  have W3_ := q1_4
  have W4_ := q1_5
  replace ag := ag_v (i := 16) (x := 0) ag (Or.inl rfl)
  replace hT := mT_v (i := 16) hT (show (0 : Int) ≤ 0 ∧ 0 ≤ 60000 from by (first | omega | (simp only [st_s] <;> omega) | assumption | omega))
  replace ag := ag_v (i := 20) (x := 0) ag (Or.inl rfl)
  replace hT := mT_v (i := 20) hT (show (0 : Int) ≤ 0 ∧ 0 ≤ 19 from by (first | omega | (simp only [st_s] <;> omega) | assumption | omega))
  replace ag := ag_v (i := 21) (x := (-1)) ag (Or.inl rfl)
  replace hT := mT_v (i := 21) hT (show (-1 : Int) ≤ (-1) ∧ (-1) ≤ 60000 from by (first | omega | (simp only [st_s] <;> omega) | assumption | omega))
  replace ag := ag_v (i := 15) (x := 0) ag (Or.inl rfl)
  replace hT := mT_v (i := 15) hT (show (0 : Int) ≤ 0 ∧ 0 ≤ 50 from by (first | omega | (simp only [st_s] <;> omega) | assumption | omega))
  refine ⟨_, K_X13_next hT (show ((0 : Int)) ≤ (τ3.1 0) from by (first | omega | (simp only [st_s] <;> omega) | assumption | omega)), ?_⟩
  intro τ6 hn_τ6 hf_τ6 hq
  obtain ⟨hT, q4_1, q4_2, q4_3, q4_4, q4_5⟩ := hq
  replace q4_1 : (τ6.1 16) ≤ (τ6.1 0) := q4_1
  replace q4_2 : (τ6.1 17) + (τ6.1 18) ≤ (τ6.1 0) := q4_2
  replace q4_3 : ((0 : Int)) ≤ (τ6.1 16) := q4_3
  replace q4_4 : ¬ ((0 : Int)) = 0 → (τ6.1 20) = ((0 : Int)) := q4_4
  replace q4_5 : (τ6.1 20) = 0 → ¬ (τ6.1 19) = 0 → ((0 : Int)) < (τ6.1 16) ∧ 0 < (τ6.1 18) := q4_5
  replace ag : m_ag σ τ6 := ag_r ag hf_τ6 rfl rfl
  have w0_τ6 : τ6.1 0 = τ3.1 0 := hf_τ6.1 0 (by decide)
  have w1_τ6 : τ6.1 1 = τ3.1 1 := hf_τ6.1 1 (by decide)
  have w2_τ6 : τ6.1 2 = τ3.1 2 := hf_τ6.1 2 (by decide)
  have w3_τ6 : τ6.1 3 = τ3.1 3 := hf_τ6.1 3 (by decide)
  have w4_τ6 : τ6.1 4 = τ3.1 4 := hf_τ6.1 4 (by decide)
  have w5_τ6 : τ6.1 5 = τ3.1 5 := hf_τ6.1 5 (by decide)
  have w6_τ6 : τ6.1 6 = τ3.1 6 := hf_τ6.1 6 (by decide)
  have w7_τ6 : τ6.1 7 = τ3.1 7 := hf_τ6.1 7 (by decide)
  have w8_τ6 : τ6.1 8 = τ3.1 8 := hf_τ6.1 8 (by decide)
  have w9_τ6 : τ6.1 9 = τ3.1 9 := hf_τ6.1 9 (by decide)
  have w12_τ6 : τ6.1 12 = τ3.1 12 := hf_τ6.1 12 (by decide)
  have w13_τ6 : τ6.1 13 = τ3.1 13 := hf_τ6.1 13 (by decide)
  have w14_τ6 : τ6.1 14 = τ3.1 14 := hf_τ6.1 14 (by decide)
  have w15_τ6 : τ6.1 15 = 0 := hf_τ6.1 15 (by decide)
  have w38_τ6 : τ6.1 38 = τ3.1 38 := hf_τ6.1 38 (by decide)
  have w49_τ6 : τ6.1 49 = τ3.1 49 := hf_τ6.1 49 (by decide)
  have g6_τ6 : τ6.2.1 6 = τ3.2.1 6 := hf_τ6.2.1 6 (by decide)
  have g7_τ6 : τ6.2.1 7 = τ3.2.1 7 := hf_τ6.2.1 7 (by decide)
  have g8_τ6 : τ6.2.1 8 = τ3.2.1 8 := hf_τ6.2.1 8 (by decide)
  have g9_τ6 : τ6.2.1 9 = τ3.2.1 9 := hf_τ6.2.1 9 (by decide)
  have g10_τ6 : τ6.2.1 10 = τ3.2.1 10 := hf_τ6.2.1 10 (by decide)
  have g11_τ6 : τ6.2.1 11 = τ3.2.1 11 := hf_τ6.2.1 11 (by decide)
  have g12_τ6 : τ6.2.1 12 = τ3.2.1 12 := hf_τ6.2.1 12 (by decide)
  have g14_τ6 : τ6.2.1 14 = τ3.2.1 14 := hf_τ6.2.1 14 (by decide)
  have g15_τ6 : τ6.2.1 15 = τ3.2.1 15 := hf_τ6.2.1 15 (by decide)
  have g18_τ6 : τ6.2.1 18 = τ3.2.1 18 := hf_τ6.2.1 18 (by decide)
  have g19_τ6 : τ6.2.1 19 = τ3.2.1 19 := hf_τ6.2.1 19 (by decide)
  have g21_τ6 : τ6.2.1 21 = τ3.2.1 21 := hf_τ6.2.1 21 (by decide)
  have g22_τ6 : τ6.2.1 22 = τ3.2.1 22 := hf_τ6.2.1 22 (by decide)
  have g25_τ6 : τ6.2.1 25 = τ3.2.1 25 := hf_τ6.2.1 25 (by decide)
  have g26_τ6 : τ6.2.1 26 = τ3.2.1 26 := hf_τ6.2.1 26 (by decide)
  have g28_τ6 : τ6.2.1 28 = τ3.2.1 28 := hf_τ6.2.1 28 (by decide)
  have g51_τ6 : τ6.2.1 51 = τ3.2.1 51 := hf_τ6.2.1 51 (by decide)
  have g52_τ6 : τ6.2.1 52 = τ3.2.1 52 := hf_τ6.2.1 52 (by decide)
  have g53_τ6 : τ6.2.1 53 = τ3.2.1 53 := hf_τ6.2.1 53 (by decide)
  have g54_τ6 : τ6.2.1 54 = τ3.2.1 54 := hf_τ6.2.1 54 (by decide)
  have g55_τ6 : τ6.2.1 55 = τ3.2.1 55 := hf_τ6.2.1 55 (by decide)
  first | (have ca_τ6 := congr (congrArg ca g9_τ6) w3_τ6) | skip
  first | (have o6_τ6 := congrArg oc g6_τ6) | skip
  first | (have o7_τ6 := congrArg oc g7_τ6) | skip
  have Y20 : ca (τ6.2.1 12) ((τ6.1 3)) ≤ (τ6.1 4) := by rw [show (ca (τ6.2.1 12) ((τ6.1 3)) ≤ (τ6.1 4)) = (ca (τ3.2.1 12) ((τ3.1 3)) ≤ (τ3.1 4)) from by rw [w3_τ6, w4_τ6, g12_τ6]]; exact Y20
  have Y8 : j_eq ((σ.1 9)) (σ.2.1 28) (τ6.2.1 28) := by rw [show (j_eq ((σ.1 9)) (σ.2.1 28) (τ6.2.1 28)) = (j_eq ((σ.1 9)) (σ.2.1 28) (τ3.2.1 28)) from by rw [g28_τ6]]; exact Y8
  have Y1 : j_l2 (τ6.2.1 6) (τ6.1 3) := by rw [show (j_l2 (τ6.2.1 6) (τ6.1 3)) = (j_l2 (τ3.2.1 6) (τ3.1 3)) from by rw [w3_τ6, g6_τ6]]; exact Y1
  have PA : J_pa (τ6.2.1 21) (τ6.2.1 22) := by rw [show (J_pa (τ6.2.1 21) (τ6.2.1 22)) = (J_pa (τ3.2.1 21) (τ3.2.1 22)) from by rw [g21_τ6, g22_τ6]]; exact PA
  have W0_ : j_e0 (σ.1 3) (σ.2.1 8) (τ6.2.1 51) := by rw [show (j_e0 (σ.1 3) (σ.2.1 8) (τ6.2.1 51)) = (j_e0 (σ.1 3) (σ.2.1 8) (τ3.2.1 51)) from by rw [g51_τ6]]; exact W0_
  have W1_ : j_e0 (σ.1 3) (σ.2.1 9) (τ6.2.1 52) := by rw [show (j_e0 (σ.1 3) (σ.2.1 9) (τ6.2.1 52)) = (j_e0 (σ.1 3) (σ.2.1 9) (τ3.2.1 52)) from by rw [g52_τ6]]; exact W1_
  have W2_ : j_e0 (σ.1 3) (σ.2.1 12) (τ6.2.1 53) := by rw [show (j_e0 (σ.1 3) (σ.2.1 12) (τ6.2.1 53)) = (j_e0 (σ.1 3) (σ.2.1 12) (τ3.2.1 53)) from by rw [g53_τ6]]; exact W2_
  have W3_ : j_e0 (σ.1 3) (σ.2.1 10) (τ6.2.1 54) := by rw [show (j_e0 (σ.1 3) (σ.2.1 10) (τ6.2.1 54)) = (j_e0 (σ.1 3) (σ.2.1 10) (τ3.2.1 54)) from by rw [g54_τ6]]; exact W3_
  have W4_ : j_e0 (σ.1 3) (σ.2.1 11) (τ6.2.1 55) := by rw [show (j_e0 (σ.1 3) (σ.2.1 11) (τ6.2.1 55)) = (j_e0 (σ.1 3) (σ.2.1 11) (τ3.2.1 55)) from by rw [g55_τ6]]; exact W4_
  have SYt : oc (τ6.2.1 6) ≤ (τ6.1 3) := by rw [show (oc (τ6.2.1 6) ≤ (τ6.1 3)) = (oc (τ3.2.1 6) ≤ (τ3.1 3)) from by rw [w3_τ6, g6_τ6]]; exact SYt
  have LAt : oc (τ6.2.1 7) ≤ (τ6.1 5) := by rw [show (oc (τ6.2.1 7) ≤ (τ6.1 5)) = (oc (τ3.2.1 7) ≤ (τ3.1 5)) from by rw [w5_τ6, g7_τ6]]; exact LAt
  have AVt : (τ6.1 12) ≤ ca (τ6.2.1 9) (τ6.1 3) := by rw [show ((τ6.1 12) ≤ ca (τ6.2.1 9) (τ6.1 3)) = ((τ3.1 12) ≤ ca (τ3.2.1 9) (τ3.1 3)) from by rw [w3_τ6, w12_τ6, g9_τ6]]; exact AVt
  have STt : j_l2 (τ6.2.1 6) (τ6.1 3) := by rw [show (j_l2 (τ6.2.1 6) (τ6.1 3)) = (j_l2 (τ3.2.1 6) (τ3.1 3)) from by rw [w3_τ6, g6_τ6]]; exact STt
  have A6 : ∀ j, (-1) ≤ τ6.2.1 6 j ∧ τ6.2.1 6 j ≤ 999 := fun j => hT.2 6 j
  have A7 : ∀ j, (-1) ≤ τ6.2.1 7 j ∧ τ6.2.1 7 j ≤ 1499 := fun j => hT.2 7 j
  have A8 : ∀ j, 0 ≤ τ6.2.1 8 j ∧ τ6.2.1 8 j ≤ 1 := fun j => hT.2 8 j
  have A9 : ∀ j, 0 ≤ τ6.2.1 9 j ∧ τ6.2.1 9 j ≤ 1 := fun j => hT.2 9 j
  have A10 : ∀ j, (-1) ≤ τ6.2.1 10 j ∧ τ6.2.1 10 j ≤ 999 := fun j => hT.2 10 j
  have A11 : ∀ j, (-1) ≤ τ6.2.1 11 j ∧ τ6.2.1 11 j ≤ 1499 := fun j => hT.2 11 j
  have A12 : ∀ j, 0 ≤ τ6.2.1 12 j ∧ τ6.2.1 12 j ≤ 1 := fun j => hT.2 12 j
  have A14 : ∀ j, 0 ≤ τ6.2.1 14 j ∧ τ6.2.1 14 j ≤ 30000 := fun j => hT.2 14 j
  have A15 : ∀ j, 0 ≤ τ6.2.1 15 j ∧ τ6.2.1 15 j ≤ 300 := fun j => hT.2 15 j
  have A18 : ∀ j, 0 ≤ τ6.2.1 18 j ∧ τ6.2.1 18 j ≤ 90000 := fun j => hT.2 18 j
  have A19 : ∀ j, 0 ≤ τ6.2.1 19 j ∧ τ6.2.1 19 j ≤ 60 := fun j => hT.2 19 j
  have A21 : ∀ j, 0 ≤ τ6.2.1 21 j ∧ τ6.2.1 21 j ≤ 20000 := fun j => hT.2 21 j
  have A22 : ∀ j, 0 ≤ τ6.2.1 22 j ∧ τ6.2.1 22 j ≤ 20000 := fun j => hT.2 22 j
  have A25 : ∀ j, 0 ≤ τ6.2.1 25 j ∧ τ6.2.1 25 j ≤ 20000 := fun j => hT.2 25 j
  have A26 : ∀ j, 0 ≤ τ6.2.1 26 j ∧ τ6.2.1 26 j ≤ 20000 := fun j => hT.2 26 j
  have A28 : ∀ j, 0 ≤ τ6.2.1 28 j ∧ τ6.2.1 28 j ≤ 1 := fun j => hT.2 28 j
  have A51 : ∀ j, 0 ≤ τ6.2.1 51 j ∧ τ6.2.1 51 j ≤ 1 := fun j => hT.2 51 j
  have A52 : ∀ j, 0 ≤ τ6.2.1 52 j ∧ τ6.2.1 52 j ≤ 1 := fun j => hT.2 52 j
  have A53 : ∀ j, 0 ≤ τ6.2.1 53 j ∧ τ6.2.1 53 j ≤ 1 := fun j => hT.2 53 j
  have A54 : ∀ j, (-1) ≤ τ6.2.1 54 j ∧ τ6.2.1 54 j ≤ 999 := fun j => hT.2 54 j
  have A55 : ∀ j, (-1) ≤ τ6.2.1 55 j ∧ τ6.2.1 55 j ≤ 1499 := fun j => hT.2 55 j
  have v0 : 0 ≤ τ6.1 0 ∧ τ6.1 0 ≤ 60000 := hT.1 0
  have v1 : 0 ≤ τ6.1 1 ∧ τ6.1 1 ≤ 1 := hT.1 1
  have v2 : 0 ≤ τ6.1 2 ∧ τ6.1 2 ≤ 30000 := hT.1 2
  have v3 : 0 ≤ τ6.1 3 ∧ τ6.1 3 ≤ 1000 := hT.1 3
  have v4 : 0 ≤ τ6.1 4 ∧ τ6.1 4 ≤ 100 := hT.1 4
  have v5 : 0 ≤ τ6.1 5 ∧ τ6.1 5 ≤ 1500 := hT.1 5
  have v6 : 0 ≤ τ6.1 6 ∧ τ6.1 6 ≤ 30000 := hT.1 6
  have v7 : 0 ≤ τ6.1 7 ∧ τ6.1 7 ≤ 90000 := hT.1 7
  have v8 : 0 ≤ τ6.1 8 ∧ τ6.1 8 ≤ 20000 := hT.1 8
  have v9 : 0 ≤ τ6.1 9 ∧ τ6.1 9 ≤ 20000 := hT.1 9
  have v12 : 0 ≤ τ6.1 12 ∧ τ6.1 12 ≤ 1000 := hT.1 12
  have v13 : 0 ≤ τ6.1 13 ∧ τ6.1 13 ≤ 1500 := hT.1 13
  have v14 : 0 ≤ τ6.1 14 ∧ τ6.1 14 ≤ 1000 := hT.1 14
  have v15 : 0 ≤ τ6.1 15 ∧ τ6.1 15 ≤ 50 := hT.1 15
  have v16 : 0 ≤ τ6.1 16 ∧ τ6.1 16 ≤ 60000 := hT.1 16
  have v17 : 0 ≤ τ6.1 17 ∧ τ6.1 17 ≤ 60000 := hT.1 17
  have v18 : 0 ≤ τ6.1 18 ∧ τ6.1 18 ≤ 60000 := hT.1 18
  have v19 : (-1) ≤ τ6.1 19 ∧ τ6.1 19 ≤ 125 := hT.1 19
  have v20 : 0 ≤ τ6.1 20 ∧ τ6.1 20 ≤ 19 := hT.1 20
  have v38 : 0 ≤ τ6.1 38 ∧ τ6.1 38 ≤ 1500 := hT.1 38
  have v49 : 0 ≤ τ6.1 49 ∧ τ6.1 49 ≤ 1 := hT.1 49
  have av3 : σ.1 3 ≤ τ6.1 3 := ag.1 3 (by decide)
  have av5 : σ.1 5 ≤ τ6.1 5 := ag.1 5 (by decide)
  have av6 : σ.1 6 ≤ τ6.1 6 := ag.1 6 (by decide)
  have av7 : σ.1 7 ≤ τ6.1 7 := ag.1 7 (by decide)
  have av8 : σ.1 8 ≤ τ6.1 8 := ag.1 8 (by decide)
  have av9 : σ.1 9 ≤ τ6.1 9 := ag.1 9 (by decide)
  refine ⟨(⟨by (first | omega | (simp only [st_s] <;> omega) | assumption | omega), by (first | omega | (simp only [st_s] <;> omega) | assumption | omega)⟩ : rg (σ.1 3)), ?_⟩
  refine ⟨(⟨by (first | omega | (simp only [st_s] <;> omega) | assumption | omega), by (first | omega | (simp only [st_s] <;> omega) | assumption | omega)⟩ : rg (σ.1 5)), ?_⟩
  refine ⟨(⟨by (first | omega | (simp only [st_s] <;> omega) | assumption | omega), by (first | omega | (simp only [st_s] <;> omega) | assumption | omega)⟩ : rg (σ.1 2)), ?_⟩
  refine ⟨(⟨by (first | omega | (simp only [st_s] <;> omega) | assumption | omega), by (first | omega | (simp only [st_s] <;> omega) | assumption | omega)⟩ : rg (σ.1 12)), ?_⟩
  refine ⟨(⟨by (first | omega | (simp only [st_s] <;> omega) | assumption | omega), by (first | omega | (simp only [st_s] <;> omega) | assumption | omega)⟩ : rg (σ.1 13)), ?_⟩
  refine ⟨(⟨by (first | omega | (simp only [st_s] <;> omega) | assumption | omega), by (first | omega | (simp only [st_s] <;> omega) | assumption | omega)⟩ : rg (σ.1 14)), ?_⟩
  exact l_61 ((3 * ((τ6.1 0) - (τ6.1 16)) + z_0 ((τ6.1 20)) + 1 - z_0 ((τ6.1 19)) : Int).toNat + 1) _ (show (3 * ((τ6.1 0) - (τ6.1 16)) + z_0 ((τ6.1 20)) + 1 - z_0 ((τ6.1 19)) : Int) < (((3 * ((τ6.1 0) - (τ6.1 16)) + z_0 ((τ6.1 20)) + 1 - z_0 ((τ6.1 19)) : Int).toNat + 1 : Nat) : Int) from by (have zz0 := z_e ((τ6.1 20)); have zz1 := z_e ((τ6.1 19)); (first | omega | (simp only [st_s] <;> omega) | assumption | omega))) hT ag (show (τ6.1 16) ≤ (τ6.1 0) from by (first | omega | (simp only [st_s] <;> omega) | assumption | omega)) (show (τ6.1 17) + (τ6.1 18) ≤ (τ6.1 0) from by (first | omega | (simp only [st_s] <;> omega) | assumption | omega)) (show oc (τ6.2.1 6) ≤ (τ6.1 3) from SYt) (show (τ6.1 12) ≤ ca (τ6.2.1 9) (τ6.1 3) from AVt) (show j_l2 (τ6.2.1 6) (τ6.1 3) from Y1) (show ca (τ6.2.1 12) ((τ6.1 3)) ≤ (τ6.1 4) from Y20) (show J_pa (τ6.2.1 21) (τ6.2.1 22) from PA) (show (τ6.1 13) ≤ (τ6.1 5) from by (first | omega | (simp only [st_s] <;> omega) | assumption | omega)) (show (τ6.1 20) = 0 → oc (τ6.2.1 7) ≤ (τ6.1 5) from by (first | omega | (simp only [st_s] <;> omega) | assumption | omega)) (show (τ6.1 20) = 0 → (τ6.1 7) ≤ 60 * (τ6.1 5) from by (first | omega | (simp only [st_s] <;> omega) | assumption | omega)) (show j_eq ((σ.1 9)) (σ.2.1 28) (τ6.2.1 28) from Y8) (show (τ6.1 20) = 0 → m_J τ6 from by (intro hf; first | (exfalso; omega) | exact m_J_f (q15_13 (by omega) (i61_12 (by omega))) hf_τ21 rfl rfl | exact m_J_f (by exact (show m_J τ3 from m_J_f p9 hf_τ3 rfl rfl)) hf_τ6 rfl rfl)) (show (σ.1 5) ≤ (τ6.1 5) from by (first | omega | (simp only [st_s] <;> omega) | assumption | omega)) (show j_e0 (σ.1 3) (σ.2.1 8) (τ6.2.1 51) from W0_) (show j_e0 (σ.1 3) (σ.2.1 9) (τ6.2.1 52) from W1_) (show j_e0 (σ.1 3) (σ.2.1 12) (τ6.2.1 53) from W2_) (show j_e0 (σ.1 3) (σ.2.1 10) (τ6.2.1 54) from W3_) (show j_e0 (σ.1 3) (σ.2.1 11) (τ6.2.1 55) from W4_)
