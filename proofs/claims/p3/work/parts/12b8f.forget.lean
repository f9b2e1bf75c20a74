
set_option maxHeartbeats 6000000 in
theorem K3_X13_forgetText {n1 : Int} {n2 : Int} {n3 : Int} {n4 : Int} {n5 : Int} {n6 : Int} {σ : S0} (hT : m_T σ) (p1 : 0 ≤ n1) (p2 : n1 ≤ 1000) (p3 : 0 ≤ n2) (p4 : n2 ≤ 1500) (p5 : 0 ≤ n3) (p6 : n3 ≤ 30000) (p7 : 0 ≤ n4) (p8 : 0 ≤ n5) (p9 : n5 ≤ n2) (p10 : 0 ≤ n6) (p11 : (σ.1 12) ≤ ca (σ.2.1 9) (σ.1 3)) (p12 : ca (σ.2.1 53) n1 ≤ 100) (p13 : n4 ≤ ca (σ.2.1 52) n1) (p14 : ¬ n2 = 0 → σ.2.1 14 (n2 - 1) + σ.2.1 15 (n2 - 1) ≤ 30000 ∧ σ.2.1 18 (n2 - 1) + σ.2.1 19 (n2 - 1) ≤ 60 * n2 ∧ σ.2.1 21 (n2 - 1) + σ.2.1 22 (n2 - 1) ≤ 20000 ∧ σ.2.1 25 (n2 - 1) + σ.2.1 26 (n2 - 1) ≤ 20000) : W_X13_forgetText n1 n2 n3 n4 n5 n6 σ (fun (τ : S0) => (m_T τ) ∧ ((τ.1 3) = n1) ∧ ((τ.1 5) = n2) ∧ (oc (τ.2.1 6) ≤ (τ.1 3)) ∧ (oc (τ.2.1 7) ≤ (τ.1 5)) ∧ ((τ.1 12) ≤ ca (τ.2.1 9) (τ.1 3)) ∧ (j_l2 (τ.2.1 6) (τ.1 3)) ∧ (ca (τ.2.1 12) ((τ.1 3)) ≤ (τ.1 4)) ∧ ((τ.1 13) ≤ (τ.1 5)) ∧ ((τ.1 7) ≤ 60 * (τ.1 5)) ∧ ((n2 = 0 ∨ (τ.1 6) = σ.2.1 14 (n2 - 1) + σ.2.1 15 (n2 - 1))) ∧ ((n2 = 0 ∨ (τ.1 7) = σ.2.1 18 (n2 - 1) + σ.2.1 19 (n2 - 1)) ∧ (τ.1 7) ≤ 60 * n2) ∧ ((n2 = 0 ∨ (τ.1 8) = σ.2.1 21 (n2 - 1) + σ.2.1 22 (n2 - 1))) ∧ ((n2 = 0 ∨ (τ.1 9) = σ.2.1 25 (n2 - 1) + σ.2.1 26 (n2 - 1))) ∧ (((σ.1 10) < n1 → (τ.1 10) = (σ.1 10)) ∧ (n1 ≤ (σ.1 10) → (τ.1 10) = -1)) ∧ (((σ.1 11) < n1 → (τ.1 11) = (σ.1 11)) ∧ (n1 ≤ (σ.1 11) → (τ.1 11) = -1)) ∧ (n5 ≤ (σ.1 13) → (τ.1 13) = n5) ∧ ((τ.1 2) = n3) ∧ (j_eq 0 (σ.2.1 8) (τ.2.1 8)) ∧ (j_e0 n1 (σ.2.1 51) (τ.2.1 8)) ∧ (j_e0 n1 (σ.2.1 54) (τ.2.1 10)) ∧ (j_e0 n1 (σ.2.1 55) (τ.2.1 11)) ∧ (j_e0 n1 (σ.2.1 53) (τ.2.1 12)) ∧ (n_tb n1 (σ.2.1 1) (σ.2.1 2) (σ.2.1 3) (τ.2.1 6))) := by
  have A1 : ∀ j, 0 ≤ σ.2.1 1 j ∧ σ.2.1 1 j ≤ 255 := fun j => hT.2 1 j
  have A2 : ∀ j, 0 ≤ σ.2.1 2 j ∧ σ.2.1 2 j ≤ 30000 := fun j => hT.2 2 j
  have A3 : ∀ j, 0 ≤ σ.2.1 3 j ∧ σ.2.1 3 j ≤ 60 := fun j => hT.2 3 j
  have A6 : ∀ j, (-1) ≤ σ.2.1 6 j ∧ σ.2.1 6 j ≤ 999 := fun j => hT.2 6 j
  have A7 : ∀ j, (-1) ≤ σ.2.1 7 j ∧ σ.2.1 7 j ≤ 1499 := fun j => hT.2 7 j
  have A8 : ∀ j, 0 ≤ σ.2.1 8 j ∧ σ.2.1 8 j ≤ 1 := fun j => hT.2 8 j
  have A9 : ∀ j, 0 ≤ σ.2.1 9 j ∧ σ.2.1 9 j ≤ 1 := fun j => hT.2 9 j
  have A10 : ∀ j, (-1) ≤ σ.2.1 10 j ∧ σ.2.1 10 j ≤ 999 := fun j => hT.2 10 j
  have A11 : ∀ j, (-1) ≤ σ.2.1 11 j ∧ σ.2.1 11 j ≤ 1499 := fun j => hT.2 11 j
  have A12 : ∀ j, 0 ≤ σ.2.1 12 j ∧ σ.2.1 12 j ≤ 1 := fun j => hT.2 12 j
  have A14 : ∀ j, 0 ≤ σ.2.1 14 j ∧ σ.2.1 14 j ≤ 30000 := fun j => hT.2 14 j
  have A15 : ∀ j, 0 ≤ σ.2.1 15 j ∧ σ.2.1 15 j ≤ 300 := fun j => hT.2 15 j
  have A18 : ∀ j, 0 ≤ σ.2.1 18 j ∧ σ.2.1 18 j ≤ 90000 := fun j => hT.2 18 j
  have A19 : ∀ j, 0 ≤ σ.2.1 19 j ∧ σ.2.1 19 j ≤ 60 := fun j => hT.2 19 j
  have A21 : ∀ j, 0 ≤ σ.2.1 21 j ∧ σ.2.1 21 j ≤ 20000 := fun j => hT.2 21 j
  have A22 : ∀ j, 0 ≤ σ.2.1 22 j ∧ σ.2.1 22 j ≤ 20000 := fun j => hT.2 22 j
  have A25 : ∀ j, 0 ≤ σ.2.1 25 j ∧ σ.2.1 25 j ≤ 20000 := fun j => hT.2 25 j
  have A26 : ∀ j, 0 ≤ σ.2.1 26 j ∧ σ.2.1 26 j ≤ 20000 := fun j => hT.2 26 j
  have A51 : ∀ j, 0 ≤ σ.2.1 51 j ∧ σ.2.1 51 j ≤ 1 := fun j => hT.2 51 j
  have A52 : ∀ j, 0 ≤ σ.2.1 52 j ∧ σ.2.1 52 j ≤ 1 := fun j => hT.2 52 j
  have A53 : ∀ j, 0 ≤ σ.2.1 53 j ∧ σ.2.1 53 j ≤ 1 := fun j => hT.2 53 j
  have A54 : ∀ j, (-1) ≤ σ.2.1 54 j ∧ σ.2.1 54 j ≤ 999 := fun j => hT.2 54 j
  have A55 : ∀ j, (-1) ≤ σ.2.1 55 j ∧ σ.2.1 55 j ≤ 1499 := fun j => hT.2 55 j
  have v2 : 0 ≤ σ.1 2 ∧ σ.1 2 ≤ 30000 := hT.1 2
  have v3 : 0 ≤ σ.1 3 ∧ σ.1 3 ≤ 1000 := hT.1 3
  have v4 : 0 ≤ σ.1 4 ∧ σ.1 4 ≤ 100 := hT.1 4
  have v5 : 0 ≤ σ.1 5 ∧ σ.1 5 ≤ 1500 := hT.1 5
  have v6 : 0 ≤ σ.1 6 ∧ σ.1 6 ≤ 30000 := hT.1 6
  have v7 : 0 ≤ σ.1 7 ∧ σ.1 7 ≤ 90000 := hT.1 7
  have v8 : 0 ≤ σ.1 8 ∧ σ.1 8 ≤ 20000 := hT.1 8
  have v9 : 0 ≤ σ.1 9 ∧ σ.1 9 ≤ 20000 := hT.1 9
  have v10 : (-1) ≤ σ.1 10 ∧ σ.1 10 ≤ 999 := hT.1 10
  have v11 : (-1) ≤ σ.1 11 ∧ σ.1 11 ≤ 999 := hT.1 11
  have v12 : 0 ≤ σ.1 12 ∧ σ.1 12 ≤ 1000 := hT.1 12
  have v13 : 0 ≤ σ.1 13 ∧ σ.1 13 ≤ 1500 := hT.1 13
  have v14 : 0 ≤ σ.1 14 ∧ σ.1 14 ≤ 1000 := hT.1 14
  have G1 : σ.2.1 1 = σ.2.1 1 := rfl
  have G2 : σ.2.1 2 = σ.2.1 2 := rfl
  have G3 : σ.2.1 3 = σ.2.1 3 := rfl
  have G14 : σ.2.1 14 = σ.2.1 14 := rfl
  have G15 : σ.2.1 15 = σ.2.1 15 := rfl
  have G18 : σ.2.1 18 = σ.2.1 18 := rfl
  have G19 : σ.2.1 19 = σ.2.1 19 := rfl
  have G21 : σ.2.1 21 = σ.2.1 21 := rfl
  have G22 : σ.2.1 22 = σ.2.1 22 := rfl
  have G25 : σ.2.1 25 = σ.2.1 25 := rfl
  have G26 : σ.2.1 26 = σ.2.1 26 := rfl
  have G51 : σ.2.1 51 = σ.2.1 51 := rfl
  have G52 : σ.2.1 52 = σ.2.1 52 := rfl
  have G53 : σ.2.1 53 = σ.2.1 53 := rfl
  have G54 : σ.2.1 54 = σ.2.1 54 := rfl
  have G55 : σ.2.1 55 = σ.2.1 55 := rfl
  intro P60 P98 P136 P174 P185 P284 P314 P337 P347 P371 h60 h98 h136 h174 h185 h284 h314 h337 h347 h371
  have AVt : (σ.1 12) ≤ ca (σ.2.1 9) (σ.1 3) := p11
  have AVt_0 := AVt
  have l_371 : ∀ (m_371 : Nat) (u7_371 : Int) (τ_371 : S0), 1501 - u7_371 < (m_371 : Int) → (m_T τ_371) → (τ_371.2.1 1 = σ.2.1 1) → (τ_371.2.1 2 = σ.2.1 2) → (τ_371.2.1 3 = σ.2.1 3) → (τ_371.2.1 14 = σ.2.1 14) → (τ_371.2.1 15 = σ.2.1 15) → (τ_371.2.1 18 = σ.2.1 18) → (τ_371.2.1 19 = σ.2.1 19) → (τ_371.2.1 21 = σ.2.1 21) → (τ_371.2.1 22 = σ.2.1 22) → (τ_371.2.1 25 = σ.2.1 25) → (τ_371.2.1 26 = σ.2.1 26) → (τ_371.2.1 51 = σ.2.1 51) → (τ_371.2.1 52 = σ.2.1 52) → (τ_371.2.1 53 = σ.2.1 53) → (τ_371.2.1 54 = σ.2.1 54) → (τ_371.2.1 55 = σ.2.1 55) → ((τ_371.1 3) = n1) → ((τ_371.1 5) = n2) → ((τ_371.1 12) ≤ n4) → ((τ_371.1 13) ≤ n5) → (n2 = 0 ∨ (τ_371.1 6) = σ.2.1 14 (n2 - 1) + σ.2.1 15 (n2 - 1)) → ((n2 = 0 ∨ (τ_371.1 7) = σ.2.1 18 (n2 - 1) + σ.2.1 19 (n2 - 1)) ∧ (τ_371.1 7) ≤ 60 * n2) → (n2 = 0 ∨ (τ_371.1 8) = σ.2.1 21 (n2 - 1) + σ.2.1 22 (n2 - 1)) → (n2 = 0 ∨ (τ_371.1 9) = σ.2.1 25 (n2 - 1) + σ.2.1 26 (n2 - 1)) → (0 ≤ u7_371 ∧ u7_371 ≤ n2) → ((τ_371.1 4) = ca (σ.2.1 53) n1) → (j_e0 n1 (σ.2.1 53) (τ_371.2.1 12)) → (j_e0 n1 (σ.2.1 52) (τ_371.2.1 9)) → (oc (τ_371.2.1 6) ≤ n1) → (j_l2 (τ_371.2.1 6) n1) → (oc (τ_371.2.1 7) ≤ u7_371) → (((σ.1 10) < n1 → (τ_371.1 10) = (σ.1 10)) ∧ (n1 ≤ (σ.1 10) → (τ_371.1 10) = -1)) → (((σ.1 11) < n1 → (τ_371.1 11) = (σ.1 11)) ∧ (n1 ≤ (σ.1 11) → (τ_371.1 11) = -1)) → (n5 ≤ (σ.1 13) → (τ_371.1 13) = n5) → ((τ_371.1 2) = n3) → (j_eq 0 (σ.2.1 8) (τ_371.2.1 8)) → (j_e0 n1 (σ.2.1 51) (τ_371.2.1 8)) → (j_e0 n1 (σ.2.1 54) (τ_371.2.1 10)) → (j_e0 n1 (σ.2.1 55) (τ_371.2.1 11)) → (n_tb n1 (σ.2.1 1) (σ.2.1 2) (σ.2.1 3) (τ_371.2.1 6)) → P371 u7_371 τ_371 := by
    intro m_371
    induction m_371 with
    | zero =>
      intro u7_371 τ_371 hm hT G1 G2 G3 G14 G15 G18 G19 G21 G22 G25 G26 G51 G52 G53 G54 G55 i371_1 i371_2 i371_3 i371_4 i371_5 i371_6 i371_7 i371_8 i371_9 i371_10 i371_11 i371_12 i371_13 i371_14 i371_15 i371_16 i371_17 i371_18 i371_19 i371_20 i371_21 i371_22 i371_23 i371_24
      have A1 : ∀ j, 0 ≤ τ_371.2.1 1 j ∧ τ_371.2.1 1 j ≤ 255 := fun j => hT.2 1 j
      have A2 : ∀ j, 0 ≤ τ_371.2.1 2 j ∧ τ_371.2.1 2 j ≤ 30000 := fun j => hT.2 2 j
      have A3 : ∀ j, 0 ≤ τ_371.2.1 3 j ∧ τ_371.2.1 3 j ≤ 60 := fun j => hT.2 3 j
      have A6 : ∀ j, (-1) ≤ τ_371.2.1 6 j ∧ τ_371.2.1 6 j ≤ 999 := fun j => hT.2 6 j
      have A7 : ∀ j, (-1) ≤ τ_371.2.1 7 j ∧ τ_371.2.1 7 j ≤ 1499 := fun j => hT.2 7 j
      have A8 : ∀ j, 0 ≤ τ_371.2.1 8 j ∧ τ_371.2.1 8 j ≤ 1 := fun j => hT.2 8 j
      have A9 : ∀ j, 0 ≤ τ_371.2.1 9 j ∧ τ_371.2.1 9 j ≤ 1 := fun j => hT.2 9 j
      have A10 : ∀ j, (-1) ≤ τ_371.2.1 10 j ∧ τ_371.2.1 10 j ≤ 999 := fun j => hT.2 10 j
      have A11 : ∀ j, (-1) ≤ τ_371.2.1 11 j ∧ τ_371.2.1 11 j ≤ 1499 := fun j => hT.2 11 j
      have A12 : ∀ j, 0 ≤ τ_371.2.1 12 j ∧ τ_371.2.1 12 j ≤ 1 := fun j => hT.2 12 j
      have A14 : ∀ j, 0 ≤ τ_371.2.1 14 j ∧ τ_371.2.1 14 j ≤ 30000 := fun j => hT.2 14 j
      have A15 : ∀ j, 0 ≤ τ_371.2.1 15 j ∧ τ_371.2.1 15 j ≤ 300 := fun j => hT.2 15 j
      have A18 : ∀ j, 0 ≤ τ_371.2.1 18 j ∧ τ_371.2.1 18 j ≤ 90000 := fun j => hT.2 18 j
      have A19 : ∀ j, 0 ≤ τ_371.2.1 19 j ∧ τ_371.2.1 19 j ≤ 60 := fun j => hT.2 19 j
      have A21 : ∀ j, 0 ≤ τ_371.2.1 21 j ∧ τ_371.2.1 21 j ≤ 20000 := fun j => hT.2 21 j
      have A22 : ∀ j, 0 ≤ τ_371.2.1 22 j ∧ τ_371.2.1 22 j ≤ 20000 := fun j => hT.2 22 j
      have A25 : ∀ j, 0 ≤ τ_371.2.1 25 j ∧ τ_371.2.1 25 j ≤ 20000 := fun j => hT.2 25 j
      have A26 : ∀ j, 0 ≤ τ_371.2.1 26 j ∧ τ_371.2.1 26 j ≤ 20000 := fun j => hT.2 26 j
      have A51 : ∀ j, 0 ≤ τ_371.2.1 51 j ∧ τ_371.2.1 51 j ≤ 1 := fun j => hT.2 51 j
      have A52 : ∀ j, 0 ≤ τ_371.2.1 52 j ∧ τ_371.2.1 52 j ≤ 1 := fun j => hT.2 52 j
      have A53 : ∀ j, 0 ≤ τ_371.2.1 53 j ∧ τ_371.2.1 53 j ≤ 1 := fun j => hT.2 53 j
      have A54 : ∀ j, (-1) ≤ τ_371.2.1 54 j ∧ τ_371.2.1 54 j ≤ 999 := fun j => hT.2 54 j
      have A55 : ∀ j, (-1) ≤ τ_371.2.1 55 j ∧ τ_371.2.1 55 j ≤ 1499 := fun j => hT.2 55 j
      have v2 : 0 ≤ τ_371.1 2 ∧ τ_371.1 2 ≤ 30000 := hT.1 2
      have v3 : 0 ≤ τ_371.1 3 ∧ τ_371.1 3 ≤ 1000 := hT.1 3
      have v4 : 0 ≤ τ_371.1 4 ∧ τ_371.1 4 ≤ 100 := hT.1 4
      have v5 : 0 ≤ τ_371.1 5 ∧ τ_371.1 5 ≤ 1500 := hT.1 5
      have v6 : 0 ≤ τ_371.1 6 ∧ τ_371.1 6 ≤ 30000 := hT.1 6
      have v7 : 0 ≤ τ_371.1 7 ∧ τ_371.1 7 ≤ 90000 := hT.1 7
      have v8 : 0 ≤ τ_371.1 8 ∧ τ_371.1 8 ≤ 20000 := hT.1 8
      have v9 : 0 ≤ τ_371.1 9 ∧ τ_371.1 9 ≤ 20000 := hT.1 9
      have v10 : (-1) ≤ τ_371.1 10 ∧ τ_371.1 10 ≤ 999 := hT.1 10
      have v11 : (-1) ≤ τ_371.1 11 ∧ τ_371.1 11 ≤ 999 := hT.1 11
      have v12 : 0 ≤ τ_371.1 12 ∧ τ_371.1 12 ≤ 1000 := hT.1 12
      have v13 : 0 ≤ τ_371.1 13 ∧ τ_371.1 13 ≤ 1500 := hT.1 13
      have v14 : 0 ≤ τ_371.1 14 ∧ τ_371.1 14 ≤ 1000 := hT.1 14
      exfalso; (first | omega | (simp only [st_s] <;> omega) | assumption | omega | fail)
    | succ m_371 ih_371 =>
      intro u7_371 τ_371 hm_371 hT G1 G2 G3 G14 G15 G18 G19 G21 G22 G25 G26 G51 G52 G53 G54 G55 i371_1 i371_2 i371_3 i371_4 i371_5 i371_6 i371_7 i371_8 i371_9 i371_10 i371_11 i371_12 i371_13 i371_14 i371_15 i371_16 i371_17 i371_18 i371_19 i371_20 i371_21 i371_22 i371_23 i371_24
      have A1 : ∀ j, 0 ≤ τ_371.2.1 1 j ∧ τ_371.2.1 1 j ≤ 255 := fun j => hT.2 1 j
      have A2 : ∀ j, 0 ≤ τ_371.2.1 2 j ∧ τ_371.2.1 2 j ≤ 30000 := fun j => hT.2 2 j
      have A3 : ∀ j, 0 ≤ τ_371.2.1 3 j ∧ τ_371.2.1 3 j ≤ 60 := fun j => hT.2 3 j
      have A6 : ∀ j, (-1) ≤ τ_371.2.1 6 j ∧ τ_371.2.1 6 j ≤ 999 := fun j => hT.2 6 j
      have A7 : ∀ j, (-1) ≤ τ_371.2.1 7 j ∧ τ_371.2.1 7 j ≤ 1499 := fun j => hT.2 7 j
      have A8 : ∀ j, 0 ≤ τ_371.2.1 8 j ∧ τ_371.2.1 8 j ≤ 1 := fun j => hT.2 8 j
      have A9 : ∀ j, 0 ≤ τ_371.2.1 9 j ∧ τ_371.2.1 9 j ≤ 1 := fun j => hT.2 9 j
      have A10 : ∀ j, (-1) ≤ τ_371.2.1 10 j ∧ τ_371.2.1 10 j ≤ 999 := fun j => hT.2 10 j
      have A11 : ∀ j, (-1) ≤ τ_371.2.1 11 j ∧ τ_371.2.1 11 j ≤ 1499 := fun j => hT.2 11 j
      have A12 : ∀ j, 0 ≤ τ_371.2.1 12 j ∧ τ_371.2.1 12 j ≤ 1 := fun j => hT.2 12 j
      have A14 : ∀ j, 0 ≤ τ_371.2.1 14 j ∧ τ_371.2.1 14 j ≤ 30000 := fun j => hT.2 14 j
      have A15 : ∀ j, 0 ≤ τ_371.2.1 15 j ∧ τ_371.2.1 15 j ≤ 300 := fun j => hT.2 15 j
      have A18 : ∀ j, 0 ≤ τ_371.2.1 18 j ∧ τ_371.2.1 18 j ≤ 90000 := fun j => hT.2 18 j
      have A19 : ∀ j, 0 ≤ τ_371.2.1 19 j ∧ τ_371.2.1 19 j ≤ 60 := fun j => hT.2 19 j
      have A21 : ∀ j, 0 ≤ τ_371.2.1 21 j ∧ τ_371.2.1 21 j ≤ 20000 := fun j => hT.2 21 j
      have A22 : ∀ j, 0 ≤ τ_371.2.1 22 j ∧ τ_371.2.1 22 j ≤ 20000 := fun j => hT.2 22 j
      have A25 : ∀ j, 0 ≤ τ_371.2.1 25 j ∧ τ_371.2.1 25 j ≤ 20000 := fun j => hT.2 25 j
      have A26 : ∀ j, 0 ≤ τ_371.2.1 26 j ∧ τ_371.2.1 26 j ≤ 20000 := fun j => hT.2 26 j
      have A51 : ∀ j, 0 ≤ τ_371.2.1 51 j ∧ τ_371.2.1 51 j ≤ 1 := fun j => hT.2 51 j
      have A52 : ∀ j, 0 ≤ τ_371.2.1 52 j ∧ τ_371.2.1 52 j ≤ 1 := fun j => hT.2 52 j
      have A53 : ∀ j, 0 ≤ τ_371.2.1 53 j ∧ τ_371.2.1 53 j ≤ 1 := fun j => hT.2 53 j
      have A54 : ∀ j, (-1) ≤ τ_371.2.1 54 j ∧ τ_371.2.1 54 j ≤ 999 := fun j => hT.2 54 j
      have A55 : ∀ j, (-1) ≤ τ_371.2.1 55 j ∧ τ_371.2.1 55 j ≤ 1499 := fun j => hT.2 55 j
      have v2 : 0 ≤ τ_371.1 2 ∧ τ_371.1 2 ≤ 30000 := hT.1 2
      have v3 : 0 ≤ τ_371.1 3 ∧ τ_371.1 3 ≤ 1000 := hT.1 3
      have v4 : 0 ≤ τ_371.1 4 ∧ τ_371.1 4 ≤ 100 := hT.1 4
      have v5 : 0 ≤ τ_371.1 5 ∧ τ_371.1 5 ≤ 1500 := hT.1 5
      have v6 : 0 ≤ τ_371.1 6 ∧ τ_371.1 6 ≤ 30000 := hT.1 6
      have v7 : 0 ≤ τ_371.1 7 ∧ τ_371.1 7 ≤ 90000 := hT.1 7
      have v8 : 0 ≤ τ_371.1 8 ∧ τ_371.1 8 ≤ 20000 := hT.1 8
      have v9 : 0 ≤ τ_371.1 9 ∧ τ_371.1 9 ≤ 20000 := hT.1 9
      have v10 : (-1) ≤ τ_371.1 10 ∧ τ_371.1 10 ≤ 999 := hT.1 10
      have v11 : (-1) ≤ τ_371.1 11 ∧ τ_371.1 11 ≤ 999 := hT.1 11
      have v12 : 0 ≤ τ_371.1 12 ∧ τ_371.1 12 ≤ 1000 := hT.1 12
      have v13 : 0 ≤ τ_371.1 13 ∧ τ_371.1 13 ≤ 1500 := hT.1 13
      have v14 : 0 ≤ τ_371.1 14 ∧ τ_371.1 14 ≤ 1000 := hT.1 14
      refine h371 u7_371 τ_371 ?_
      refine ⟨fun c48 => ?_, fun c48 => ?_⟩
      ·
        exact ⟨hT, (show (τ_371.1 3) = n1 from by (first | omega | (simp only [st_s] <;> omega) | assumption | omega | fail)), (show (τ_371.1 5) = n2 from by (first | omega | (simp only [st_s] <;> omega) | assumption | omega | fail)), (show oc (τ_371.2.1 6) ≤ (τ_371.1 3) from by (first | omega | (simp only [st_s] <;> omega) | assumption | omega | fail)), (show oc (τ_371.2.1 7) ≤ (τ_371.1 5) from by (first | omega | (simp only [st_s] <;> omega) | assumption | omega | fail)), (show (τ_371.1 12) ≤ ca (τ_371.2.1 9) (τ_371.1 3) from by (rw [i371_1, ca_e0 i371_12 (Int.le_refl _)]; omega)), (show j_l2 (τ_371.2.1 6) (τ_371.1 3) from by (rw [i371_1]; assumption)), (show ca (τ_371.2.1 12) ((τ_371.1 3)) ≤ (τ_371.1 4) from by (rw [i371_1, ca_e0 i371_11 (Int.le_refl _)]; omega)), (show (τ_371.1 13) ≤ (τ_371.1 5) from by (first | omega | (simp only [st_s] <;> omega) | assumption | omega | fail)), (show (τ_371.1 7) ≤ 60 * (τ_371.1 5) from by (first | omega | (simp only [st_s] <;> omega) | assumption | omega | fail)), (show (n2 = 0 ∨ (τ_371.1 6) = σ.2.1 14 (n2 - 1) + σ.2.1 15 (n2 - 1)) from by (first | omega | (simp only [st_s] <;> omega) | assumption | omega | fail)), (show (n2 = 0 ∨ (τ_371.1 7) = σ.2.1 18 (n2 - 1) + σ.2.1 19 (n2 - 1)) ∧ (τ_371.1 7) ≤ 60 * n2 from by (first | omega | (simp only [st_s] <;> omega) | assumption | omega | fail)), (show (n2 = 0 ∨ (τ_371.1 8) = σ.2.1 21 (n2 - 1) + σ.2.1 22 (n2 - 1)) from by (first | omega | (simp only [st_s] <;> omega) | assumption | omega | fail)), (show (n2 = 0 ∨ (τ_371.1 9) = σ.2.1 25 (n2 - 1) + σ.2.1 26 (n2 - 1)) from by (first | omega | (simp only [st_s] <;> omega) | assumption | omega | fail)), (show ((σ.1 10) < n1 → (τ_371.1 10) = (σ.1 10)) ∧ (n1 ≤ (σ.1 10) → (τ_371.1 10) = -1) from by (first | omega | (simp only [st_s] <;> omega) | assumption | omega | fail)), (show ((σ.1 11) < n1 → (τ_371.1 11) = (σ.1 11)) ∧ (n1 ≤ (σ.1 11) → (τ_371.1 11) = -1) from by (first | omega | (simp only [st_s] <;> omega) | assumption | omega | fail)), (show n5 ≤ (σ.1 13) → (τ_371.1 13) = n5 from by (first | omega | (simp only [st_s] <;> omega) | assumption | omega | fail)), (show (τ_371.1 2) = n3 from by (first | omega | (simp only [st_s] <;> omega) | assumption | omega | fail)), (show j_eq 0 (σ.2.1 8) (τ_371.2.1 8) from by exact i371_20), (show j_e0 n1 (σ.2.1 51) (τ_371.2.1 8) from by exact i371_21), (show j_e0 n1 (σ.2.1 54) (τ_371.2.1 10) from by exact i371_22), (show j_e0 n1 (σ.2.1 55) (τ_371.2.1 11) from by exact i371_23), (show j_e0 n1 (σ.2.1 53) (τ_371.2.1 12) from by exact i371_11), (show n_tb n1 (σ.2.1 1) (σ.2.1 2) (σ.2.1 3) (τ_371.2.1 6) from by exact i371_24)⟩
      ·
        refine ⟨_, K_X13_keepLabel hT (show 0 ≤ u7_371 from by (first | omega | (simp only [st_s] <;> omega) | assumption | omega | fail)) (show u7_371 < 1500 from by (first | omega | (simp only [st_s] <;> omega) | assumption | omega | fail)) (show oc (τ_371.2.1 7) < 4096 from by (first | omega | (simp only [st_s] <;> omega) | assumption | omega | fail)), ?_⟩
        intro τ51 hn_τ51 hf_τ51 hq
        obtain ⟨hT, q49_1, q49_2⟩ := hq
        replace q49_1 : oc (τ51.2.1 7) ≤ oc (τ_371.2.1 7) + 1 := q49_1
        replace q49_2 : ∃ e : Int, τ51.2.1 7 = st (τ_371.2.1 7) e u7_371 := q49_2
        have w2_τ51 : τ51.1 2 = τ_371.1 2 := hf_τ51.1 2 (by decide)
        have w3_τ51 : τ51.1 3 = τ_371.1 3 := hf_τ51.1 3 (by decide)
        have w4_τ51 : τ51.1 4 = τ_371.1 4 := hf_τ51.1 4 (by decide)
        have w5_τ51 : τ51.1 5 = τ_371.1 5 := hf_τ51.1 5 (by decide)
        have w6_τ51 : τ51.1 6 = τ_371.1 6 := hf_τ51.1 6 (by decide)
        have w7_τ51 : τ51.1 7 = τ_371.1 7 := hf_τ51.1 7 (by decide)
        have w8_τ51 : τ51.1 8 = τ_371.1 8 := hf_τ51.1 8 (by decide)
        have w9_τ51 : τ51.1 9 = τ_371.1 9 := hf_τ51.1 9 (by decide)
        have w10_τ51 : τ51.1 10 = τ_371.1 10 := hf_τ51.1 10 (by decide)
        have w11_τ51 : τ51.1 11 = τ_371.1 11 := hf_τ51.1 11 (by decide)
        have w12_τ51 : τ51.1 12 = τ_371.1 12 := hf_τ51.1 12 (by decide)
        have w13_τ51 : τ51.1 13 = τ_371.1 13 := hf_τ51.1 13 (by decide)
        have w14_τ51 : τ51.1 14 = τ_371.1 14 := hf_τ51.1 14 (by decide)
        have g1_τ51 : τ51.2.1 1 = τ_371.2.1 1 := hf_τ51.2.1 1 (by decide)
        have g2_τ51 : τ51.2.1 2 = τ_371.2.1 2 := hf_τ51.2.1 2 (by decide)
        have g3_τ51 : τ51.2.1 3 = τ_371.2.1 3 := hf_τ51.2.1 3 (by decide)
        have g6_τ51 : τ51.2.1 6 = τ_371.2.1 6 := hf_τ51.2.1 6 (by decide)
        have g8_τ51 : τ51.2.1 8 = τ_371.2.1 8 := hf_τ51.2.1 8 (by decide)
        have g9_τ51 : τ51.2.1 9 = τ_371.2.1 9 := hf_τ51.2.1 9 (by decide)
        have g10_τ51 : τ51.2.1 10 = τ_371.2.1 10 := hf_τ51.2.1 10 (by decide)
        have g11_τ51 : τ51.2.1 11 = τ_371.2.1 11 := hf_τ51.2.1 11 (by decide)
        have g12_τ51 : τ51.2.1 12 = τ_371.2.1 12 := hf_τ51.2.1 12 (by decide)
        have g14_τ51 : τ51.2.1 14 = τ_371.2.1 14 := hf_τ51.2.1 14 (by decide)
        have g15_τ51 : τ51.2.1 15 = τ_371.2.1 15 := hf_τ51.2.1 15 (by decide)
        have g18_τ51 : τ51.2.1 18 = τ_371.2.1 18 := hf_τ51.2.1 18 (by decide)
        have g19_τ51 : τ51.2.1 19 = τ_371.2.1 19 := hf_τ51.2.1 19 (by decide)
        have g21_τ51 : τ51.2.1 21 = τ_371.2.1 21 := hf_τ51.2.1 21 (by decide)
        have g22_τ51 : τ51.2.1 22 = τ_371.2.1 22 := hf_τ51.2.1 22 (by decide)
        have g25_τ51 : τ51.2.1 25 = τ_371.2.1 25 := hf_τ51.2.1 25 (by decide)
        have g26_τ51 : τ51.2.1 26 = τ_371.2.1 26 := hf_τ51.2.1 26 (by decide)
        have g51_τ51 : τ51.2.1 51 = τ_371.2.1 51 := hf_τ51.2.1 51 (by decide)
        have g52_τ51 : τ51.2.1 52 = τ_371.2.1 52 := hf_τ51.2.1 52 (by decide)
        have g53_τ51 : τ51.2.1 53 = τ_371.2.1 53 := hf_τ51.2.1 53 (by decide)
        have g54_τ51 : τ51.2.1 54 = τ_371.2.1 54 := hf_τ51.2.1 54 (by decide)
        have g55_τ51 : τ51.2.1 55 = τ_371.2.1 55 := hf_τ51.2.1 55 (by decide)
        first | (have ca_τ51 := congr (congrArg ca g9_τ51) w3_τ51) | skip
        first | (have o6_τ51 := congrArg oc g6_τ51) | skip
        first | (have o7_τ51 := congrArg oc g7_τ51) | skip
        have G1 : τ51.2.1 1 = σ.2.1 1 := (g1_τ51).trans G1
        have G2 : τ51.2.1 2 = σ.2.1 2 := (g2_τ51).trans G2
        have G3 : τ51.2.1 3 = σ.2.1 3 := (g3_τ51).trans G3
        have G14 : τ51.2.1 14 = σ.2.1 14 := (g14_τ51).trans G14
        have G15 : τ51.2.1 15 = σ.2.1 15 := (g15_τ51).trans G15
        have G18 : τ51.2.1 18 = σ.2.1 18 := (g18_τ51).trans G18
        have G19 : τ51.2.1 19 = σ.2.1 19 := (g19_τ51).trans G19
        have G21 : τ51.2.1 21 = σ.2.1 21 := (g21_τ51).trans G21
        have G22 : τ51.2.1 22 = σ.2.1 22 := (g22_τ51).trans G22
        have G25 : τ51.2.1 25 = σ.2.1 25 := (g25_τ51).trans G25
        have G26 : τ51.2.1 26 = σ.2.1 26 := (g26_τ51).trans G26
        have G51 : τ51.2.1 51 = σ.2.1 51 := (g51_τ51).trans G51
        have G52 : τ51.2.1 52 = σ.2.1 52 := (g52_τ51).trans G52
        have G53 : τ51.2.1 53 = σ.2.1 53 := (g53_τ51).trans G53
        have G54 : τ51.2.1 54 = σ.2.1 54 := (g54_τ51).trans G54
        have G55 : τ51.2.1 55 = σ.2.1 55 := (g55_τ51).trans G55
        have A1 : ∀ j, 0 ≤ τ51.2.1 1 j ∧ τ51.2.1 1 j ≤ 255 := fun j => hT.2 1 j
        have A2 : ∀ j, 0 ≤ τ51.2.1 2 j ∧ τ51.2.1 2 j ≤ 30000 := fun j => hT.2 2 j
        have A3 : ∀ j, 0 ≤ τ51.2.1 3 j ∧ τ51.2.1 3 j ≤ 60 := fun j => hT.2 3 j
        have A6 : ∀ j, (-1) ≤ τ51.2.1 6 j ∧ τ51.2.1 6 j ≤ 999 := fun j => hT.2 6 j
        have A7 : ∀ j, (-1) ≤ τ51.2.1 7 j ∧ τ51.2.1 7 j ≤ 1499 := fun j => hT.2 7 j
        have A8 : ∀ j, 0 ≤ τ51.2.1 8 j ∧ τ51.2.1 8 j ≤ 1 := fun j => hT.2 8 j
        have A9 : ∀ j, 0 ≤ τ51.2.1 9 j ∧ τ51.2.1 9 j ≤ 1 := fun j => hT.2 9 j
        have A10 : ∀ j, (-1) ≤ τ51.2.1 10 j ∧ τ51.2.1 10 j ≤ 999 := fun j => hT.2 10 j
        have A11 : ∀ j, (-1) ≤ τ51.2.1 11 j ∧ τ51.2.1 11 j ≤ 1499 := fun j => hT.2 11 j
        have A12 : ∀ j, 0 ≤ τ51.2.1 12 j ∧ τ51.2.1 12 j ≤ 1 := fun j => hT.2 12 j
        have A14 : ∀ j, 0 ≤ τ51.2.1 14 j ∧ τ51.2.1 14 j ≤ 30000 := fun j => hT.2 14 j
        have A15 : ∀ j, 0 ≤ τ51.2.1 15 j ∧ τ51.2.1 15 j ≤ 300 := fun j => hT.2 15 j
        have A18 : ∀ j, 0 ≤ τ51.2.1 18 j ∧ τ51.2.1 18 j ≤ 90000 := fun j => hT.2 18 j
        have A19 : ∀ j, 0 ≤ τ51.2.1 19 j ∧ τ51.2.1 19 j ≤ 60 := fun j => hT.2 19 j
        have A21 : ∀ j, 0 ≤ τ51.2.1 21 j ∧ τ51.2.1 21 j ≤ 20000 := fun j => hT.2 21 j
        have A22 : ∀ j, 0 ≤ τ51.2.1 22 j ∧ τ51.2.1 22 j ≤ 20000 := fun j => hT.2 22 j
        have A25 : ∀ j, 0 ≤ τ51.2.1 25 j ∧ τ51.2.1 25 j ≤ 20000 := fun j => hT.2 25 j
        have A26 : ∀ j, 0 ≤ τ51.2.1 26 j ∧ τ51.2.1 26 j ≤ 20000 := fun j => hT.2 26 j
        have A51 : ∀ j, 0 ≤ τ51.2.1 51 j ∧ τ51.2.1 51 j ≤ 1 := fun j => hT.2 51 j
        have A52 : ∀ j, 0 ≤ τ51.2.1 52 j ∧ τ51.2.1 52 j ≤ 1 := fun j => hT.2 52 j
        have A53 : ∀ j, 0 ≤ τ51.2.1 53 j ∧ τ51.2.1 53 j ≤ 1 := fun j => hT.2 53 j
        have A54 : ∀ j, (-1) ≤ τ51.2.1 54 j ∧ τ51.2.1 54 j ≤ 999 := fun j => hT.2 54 j
        have A55 : ∀ j, (-1) ≤ τ51.2.1 55 j ∧ τ51.2.1 55 j ≤ 1499 := fun j => hT.2 55 j
        have v2 : 0 ≤ τ51.1 2 ∧ τ51.1 2 ≤ 30000 := hT.1 2
        have v3 : 0 ≤ τ51.1 3 ∧ τ51.1 3 ≤ 1000 := hT.1 3
        have v4 : 0 ≤ τ51.1 4 ∧ τ51.1 4 ≤ 100 := hT.1 4
        have v5 : 0 ≤ τ51.1 5 ∧ τ51.1 5 ≤ 1500 := hT.1 5
        have v6 : 0 ≤ τ51.1 6 ∧ τ51.1 6 ≤ 30000 := hT.1 6
        have v7 : 0 ≤ τ51.1 7 ∧ τ51.1 7 ≤ 90000 := hT.1 7
        have v8 : 0 ≤ τ51.1 8 ∧ τ51.1 8 ≤ 20000 := hT.1 8
        have v9 : 0 ≤ τ51.1 9 ∧ τ51.1 9 ≤ 20000 := hT.1 9
        have v10 : (-1) ≤ τ51.1 10 ∧ τ51.1 10 ≤ 999 := hT.1 10
        have v11 : (-1) ≤ τ51.1 11 ∧ τ51.1 11 ≤ 999 := hT.1 11
        have v12 : 0 ≤ τ51.1 12 ∧ τ51.1 12 ≤ 1000 := hT.1 12
        have v13 : 0 ≤ τ51.1 13 ∧ τ51.1 13 ≤ 1500 := hT.1 13
        have v14 : 0 ≤ τ51.1 14 ∧ τ51.1 14 ≤ 1000 := hT.1 14
        refine ⟨(⟨by (first | omega | (simp only [st_s] <;> omega) | assumption | omega | fail), by (first | omega | (simp only [st_s] <;> omega) | assumption | omega | fail)⟩ : rg (u7_371 + 1)), ?_⟩
        exact ih_371 _ _ (show (1501 - (u7_371 + 1) : Int) < ((m_371 : Nat) : Int) from by ((first | omega | (simp only [st_s] <;> omega) | assumption | omega | fail))) hT G1 G2 G3 G14 G15 G18 G19 G21 G22 G25 G26 G51 G52 G53 G54 G55 (show (τ51.1 3) = n1 from by (first | omega | (simp only [st_s] <;> omega) | assumption | omega | fail)) (show (τ51.1 5) = n2 from by (first | omega | (simp only [st_s] <;> omega) | assumption | omega | fail)) (show (τ51.1 12) ≤ n4 from by (first | omega | (simp only [st_s] <;> omega) | assumption | omega | fail)) (show (τ51.1 13) ≤ n5 from by (first | omega | (simp only [st_s] <;> omega) | assumption | omega | fail)) (show (n2 = 0 ∨ (τ51.1 6) = σ.2.1 14 (n2 - 1) + σ.2.1 15 (n2 - 1)) from by (first | omega | (simp only [st_s] <;> omega) | assumption | omega | fail)) (show (n2 = 0 ∨ (τ51.1 7) = σ.2.1 18 (n2 - 1) + σ.2.1 19 (n2 - 1)) ∧ (τ51.1 7) ≤ 60 * n2 from by (first | omega | (simp only [st_s] <;> omega) | assumption | omega | fail)) (show (n2 = 0 ∨ (τ51.1 8) = σ.2.1 21 (n2 - 1) + σ.2.1 22 (n2 - 1)) from by (first | omega | (simp only [st_s] <;> omega) | assumption | omega | fail)) (show (n2 = 0 ∨ (τ51.1 9) = σ.2.1 25 (n2 - 1) + σ.2.1 26 (n2 - 1)) from by (first | omega | (simp only [st_s] <;> omega) | assumption | omega | fail)) (show 0 ≤ (u7_371 + 1) ∧ (u7_371 + 1) ≤ n2 from by (first | omega | (simp only [st_s] <;> omega) | assumption | omega | fail)) (show (τ51.1 4) = ca (σ.2.1 53) n1 from by (first | omega | (simp only [st_s] <;> omega) | assumption | omega | fail)) (show j_e0 n1 (σ.2.1 53) (τ51.2.1 12) from by (first | assumption | (rw [g12_τ51]; assumption) | fail)) (show j_e0 n1 (σ.2.1 52) (τ51.2.1 9) from by (first | assumption | (rw [g9_τ51]; assumption) | fail)) (show oc (τ51.2.1 6) ≤ n1 from by (first | omega | (simp only [st_s] <;> omega) | assumption | omega | fail)) (show j_l2 (τ51.2.1 6) n1 from by (first | assumption | (rw [g6_τ51]; assumption) | fail)) (show oc (τ51.2.1 7) ≤ (u7_371 + 1) from by (first | omega | (simp only [st_s] <;> omega) | assumption | omega | fail)) (show ((σ.1 10) < n1 → (τ51.1 10) = (σ.1 10)) ∧ (n1 ≤ (σ.1 10) → (τ51.1 10) = -1) from by (first | omega | (simp only [st_s] <;> omega) | assumption | omega | fail)) (show ((σ.1 11) < n1 → (τ51.1 11) = (σ.1 11)) ∧ (n1 ≤ (σ.1 11) → (τ51.1 11) = -1) from by (first | omega | (simp only [st_s] <;> omega) | assumption | omega | fail)) (show n5 ≤ (σ.1 13) → (τ51.1 13) = n5 from by (first | omega | (simp only [st_s] <;> omega) | assumption | omega | fail)) (show (τ51.1 2) = n3 from by (first | omega | (simp only [st_s] <;> omega) | assumption | omega | fail)) (show j_eq 0 (σ.2.1 8) (τ51.2.1 8) from by (first | exact i347_20 | (rw [g8_τ51]; exact i371_20) | fail)) (show j_e0 n1 (σ.2.1 51) (τ51.2.1 8) from by (first | exact i347_21 | (rw [g8_τ51]; exact i371_21) | fail)) (show j_e0 n1 (σ.2.1 54) (τ51.2.1 10) from by (first | exact i347_22 | (rw [g10_τ51]; exact i371_22) | fail)) (show j_e0 n1 (σ.2.1 55) (τ51.2.1 11) from by (first | exact i347_23 | (rw [g11_τ51]; exact i371_23) | fail)) (show n_tb n1 (σ.2.1 1) (σ.2.1 2) (σ.2.1 3) (τ51.2.1 6) from by (first | (rw [show n1 = u7_347 from by omega]; exact i347_24) | (rw [g6_τ51]; exact i371_24) | fail))
  have l_347 : ∀ (m_347 : Nat) (u7_347 : Int) (τ_347 : S0), 1001 - u7_347 < (m_347 : Int) → (m_T τ_347) → (τ_347.2.1 1 = σ.2.1 1) → (τ_347.2.1 2 = σ.2.1 2) → (τ_347.2.1 3 = σ.2.1 3) → (τ_347.2.1 14 = σ.2.1 14) → (τ_347.2.1 15 = σ.2.1 15) → (τ_347.2.1 18 = σ.2.1 18) → (τ_347.2.1 19 = σ.2.1 19) → (τ_347.2.1 21 = σ.2.1 21) → (τ_347.2.1 22 = σ.2.1 22) → (τ_347.2.1 25 = σ.2.1 25) → (τ_347.2.1 26 = σ.2.1 26) → (τ_347.2.1 51 = σ.2.1 51) → (τ_347.2.1 52 = σ.2.1 52) → (τ_347.2.1 53 = σ.2.1 53) → (τ_347.2.1 54 = σ.2.1 54) → (τ_347.2.1 55 = σ.2.1 55) → ((τ_347.1 3) = n1) → ((τ_347.1 5) = n2) → ((τ_347.1 12) ≤ n4) → ((τ_347.1 13) ≤ n5) → (n2 = 0 ∨ (τ_347.1 6) = σ.2.1 14 (n2 - 1) + σ.2.1 15 (n2 - 1)) → ((n2 = 0 ∨ (τ_347.1 7) = σ.2.1 18 (n2 - 1) + σ.2.1 19 (n2 - 1)) ∧ (τ_347.1 7) ≤ 60 * n2) → (n2 = 0 ∨ (τ_347.1 8) = σ.2.1 21 (n2 - 1) + σ.2.1 22 (n2 - 1)) → (n2 = 0 ∨ (τ_347.1 9) = σ.2.1 25 (n2 - 1) + σ.2.1 26 (n2 - 1)) → (0 ≤ u7_347 ∧ u7_347 ≤ n1) → ((τ_347.1 4) = ca (σ.2.1 53) n1) → (j_e0 n1 (σ.2.1 53) (τ_347.2.1 12)) → (j_e0 n1 (σ.2.1 52) (τ_347.2.1 9)) → (oc (τ_347.2.1 6) ≤ u7_347) → (j_l2 (τ_347.2.1 6) n1) → (oc (τ_347.2.1 7) = 0) → (((σ.1 10) < n1 → (τ_347.1 10) = (σ.1 10)) ∧ (n1 ≤ (σ.1 10) → (τ_347.1 10) = -1)) → (((σ.1 11) < n1 → (τ_347.1 11) = (σ.1 11)) ∧ (n1 ≤ (σ.1 11) → (τ_347.1 11) = -1)) → (n5 ≤ (σ.1 13) → (τ_347.1 13) = n5) → ((τ_347.1 2) = n3) → (j_eq 0 (σ.2.1 8) (τ_347.2.1 8)) → (j_e0 n1 (σ.2.1 51) (τ_347.2.1 8)) → (j_e0 n1 (σ.2.1 54) (τ_347.2.1 10)) → (j_e0 n1 (σ.2.1 55) (τ_347.2.1 11)) → (n_tb u7_347 (σ.2.1 1) (σ.2.1 2) (σ.2.1 3) (τ_347.2.1 6)) → P347 u7_347 τ_347 := by
    intro m_347
    induction m_347 with
    | zero =>
      intro u7_347 τ_347 hm hT G1 G2 G3 G14 G15 G18 G19 G21 G22 G25 G26 G51 G52 G53 G54 G55 i347_1 i347_2 i347_3 i347_4 i347_5 i347_6 i347_7 i347_8 i347_9 i347_10 i347_11 i347_12 i347_13 i347_14 i347_15 i347_16 i347_17 i347_18 i347_19 i347_20 i347_21 i347_22 i347_23 i347_24
      have A1 : ∀ j, 0 ≤ τ_347.2.1 1 j ∧ τ_347.2.1 1 j ≤ 255 := fun j => hT.2 1 j
      have A2 : ∀ j, 0 ≤ τ_347.2.1 2 j ∧ τ_347.2.1 2 j ≤ 30000 := fun j => hT.2 2 j
      have A3 : ∀ j, 0 ≤ τ_347.2.1 3 j ∧ τ_347.2.1 3 j ≤ 60 := fun j => hT.2 3 j
      have A6 : ∀ j, (-1) ≤ τ_347.2.1 6 j ∧ τ_347.2.1 6 j ≤ 999 := fun j => hT.2 6 j
      have A7 : ∀ j, (-1) ≤ τ_347.2.1 7 j ∧ τ_347.2.1 7 j ≤ 1499 := fun j => hT.2 7 j
      have A8 : ∀ j, 0 ≤ τ_347.2.1 8 j ∧ τ_347.2.1 8 j ≤ 1 := fun j => hT.2 8 j
      have A9 : ∀ j, 0 ≤ τ_347.2.1 9 j ∧ τ_347.2.1 9 j ≤ 1 := fun j => hT.2 9 j
      have A10 : ∀ j, (-1) ≤ τ_347.2.1 10 j ∧ τ_347.2.1 10 j ≤ 999 := fun j => hT.2 10 j
      have A11 : ∀ j, (-1) ≤ τ_347.2.1 11 j ∧ τ_347.2.1 11 j ≤ 1499 := fun j => hT.2 11 j
      have A12 : ∀ j, 0 ≤ τ_347.2.1 12 j ∧ τ_347.2.1 12 j ≤ 1 := fun j => hT.2 12 j
      have A14 : ∀ j, 0 ≤ τ_347.2.1 14 j ∧ τ_347.2.1 14 j ≤ 30000 := fun j => hT.2 14 j
      have A15 : ∀ j, 0 ≤ τ_347.2.1 15 j ∧ τ_347.2.1 15 j ≤ 300 := fun j => hT.2 15 j
      have A18 : ∀ j, 0 ≤ τ_347.2.1 18 j ∧ τ_347.2.1 18 j ≤ 90000 := fun j => hT.2 18 j
      have A19 : ∀ j, 0 ≤ τ_347.2.1 19 j ∧ τ_347.2.1 19 j ≤ 60 := fun j => hT.2 19 j
      have A21 : ∀ j, 0 ≤ τ_347.2.1 21 j ∧ τ_347.2.1 21 j ≤ 20000 := fun j => hT.2 21 j
      have A22 : ∀ j, 0 ≤ τ_347.2.1 22 j ∧ τ_347.2.1 22 j ≤ 20000 := fun j => hT.2 22 j
      have A25 : ∀ j, 0 ≤ τ_347.2.1 25 j ∧ τ_347.2.1 25 j ≤ 20000 := fun j => hT.2 25 j
      have A26 : ∀ j, 0 ≤ τ_347.2.1 26 j ∧ τ_347.2.1 26 j ≤ 20000 := fun j => hT.2 26 j
      have A51 : ∀ j, 0 ≤ τ_347.2.1 51 j ∧ τ_347.2.1 51 j ≤ 1 := fun j => hT.2 51 j
      have A52 : ∀ j, 0 ≤ τ_347.2.1 52 j ∧ τ_347.2.1 52 j ≤ 1 := fun j => hT.2 52 j
      have A53 : ∀ j, 0 ≤ τ_347.2.1 53 j ∧ τ_347.2.1 53 j ≤ 1 := fun j => hT.2 53 j
      have A54 : ∀ j, (-1) ≤ τ_347.2.1 54 j ∧ τ_347.2.1 54 j ≤ 999 := fun j => hT.2 54 j
      have A55 : ∀ j, (-1) ≤ τ_347.2.1 55 j ∧ τ_347.2.1 55 j ≤ 1499 := fun j => hT.2 55 j
      have v2 : 0 ≤ τ_347.1 2 ∧ τ_347.1 2 ≤ 30000 := hT.1 2
      have v3 : 0 ≤ τ_347.1 3 ∧ τ_347.1 3 ≤ 1000 := hT.1 3
      have v4 : 0 ≤ τ_347.1 4 ∧ τ_347.1 4 ≤ 100 := hT.1 4
      have v5 : 0 ≤ τ_347.1 5 ∧ τ_347.1 5 ≤ 1500 := hT.1 5
      have v6 : 0 ≤ τ_347.1 6 ∧ τ_347.1 6 ≤ 30000 := hT.1 6
      have v7 : 0 ≤ τ_347.1 7 ∧ τ_347.1 7 ≤ 90000 := hT.1 7
      have v8 : 0 ≤ τ_347.1 8 ∧ τ_347.1 8 ≤ 20000 := hT.1 8
      have v9 : 0 ≤ τ_347.1 9 ∧ τ_347.1 9 ≤ 20000 := hT.1 9
      have v10 : (-1) ≤ τ_347.1 10 ∧ τ_347.1 10 ≤ 999 := hT.1 10
      have v11 : (-1) ≤ τ_347.1 11 ∧ τ_347.1 11 ≤ 999 := hT.1 11
      have v12 : 0 ≤ τ_347.1 12 ∧ τ_347.1 12 ≤ 1000 := hT.1 12
      have v13 : 0 ≤ τ_347.1 13 ∧ τ_347.1 13 ≤ 1500 := hT.1 13
      have v14 : 0 ≤ τ_347.1 14 ∧ τ_347.1 14 ≤ 1000 := hT.1 14
      exfalso; (first | omega | (simp only [st_s] <;> omega) | assumption | omega | fail)
    | succ m_347 ih_347 =>
      intro u7_347 τ_347 hm_347 hT G1 G2 G3 G14 G15 G18 G19 G21 G22 G25 G26 G51 G52 G53 G54 G55 i347_1 i347_2 i347_3 i347_4 i347_5 i347_6 i347_7 i347_8 i347_9 i347_10 i347_11 i347_12 i347_13 i347_14 i347_15 i347_16 i347_17 i347_18 i347_19 i347_20 i347_21 i347_22 i347_23 i347_24
      have A1 : ∀ j, 0 ≤ τ_347.2.1 1 j ∧ τ_347.2.1 1 j ≤ 255 := fun j => hT.2 1 j
      have A2 : ∀ j, 0 ≤ τ_347.2.1 2 j ∧ τ_347.2.1 2 j ≤ 30000 := fun j => hT.2 2 j
      have A3 : ∀ j, 0 ≤ τ_347.2.1 3 j ∧ τ_347.2.1 3 j ≤ 60 := fun j => hT.2 3 j
      have A6 : ∀ j, (-1) ≤ τ_347.2.1 6 j ∧ τ_347.2.1 6 j ≤ 999 := fun j => hT.2 6 j
      have A7 : ∀ j, (-1) ≤ τ_347.2.1 7 j ∧ τ_347.2.1 7 j ≤ 1499 := fun j => hT.2 7 j
      have A8 : ∀ j, 0 ≤ τ_347.2.1 8 j ∧ τ_347.2.1 8 j ≤ 1 := fun j => hT.2 8 j
      have A9 : ∀ j, 0 ≤ τ_347.2.1 9 j ∧ τ_347.2.1 9 j ≤ 1 := fun j => hT.2 9 j
      have A10 : ∀ j, (-1) ≤ τ_347.2.1 10 j ∧ τ_347.2.1 10 j ≤ 999 := fun j => hT.2 10 j
      have A11 : ∀ j, (-1) ≤ τ_347.2.1 11 j ∧ τ_347.2.1 11 j ≤ 1499 := fun j => hT.2 11 j
      have A12 : ∀ j, 0 ≤ τ_347.2.1 12 j ∧ τ_347.2.1 12 j ≤ 1 := fun j => hT.2 12 j
      have A14 : ∀ j, 0 ≤ τ_347.2.1 14 j ∧ τ_347.2.1 14 j ≤ 30000 := fun j => hT.2 14 j
      have A15 : ∀ j, 0 ≤ τ_347.2.1 15 j ∧ τ_347.2.1 15 j ≤ 300 := fun j => hT.2 15 j
      have A18 : ∀ j, 0 ≤ τ_347.2.1 18 j ∧ τ_347.2.1 18 j ≤ 90000 := fun j => hT.2 18 j
      have A19 : ∀ j, 0 ≤ τ_347.2.1 19 j ∧ τ_347.2.1 19 j ≤ 60 := fun j => hT.2 19 j
      have A21 : ∀ j, 0 ≤ τ_347.2.1 21 j ∧ τ_347.2.1 21 j ≤ 20000 := fun j => hT.2 21 j
      have A22 : ∀ j, 0 ≤ τ_347.2.1 22 j ∧ τ_347.2.1 22 j ≤ 20000 := fun j => hT.2 22 j
      have A25 : ∀ j, 0 ≤ τ_347.2.1 25 j ∧ τ_347.2.1 25 j ≤ 20000 := fun j => hT.2 25 j
      have A26 : ∀ j, 0 ≤ τ_347.2.1 26 j ∧ τ_347.2.1 26 j ≤ 20000 := fun j => hT.2 26 j
      have A51 : ∀ j, 0 ≤ τ_347.2.1 51 j ∧ τ_347.2.1 51 j ≤ 1 := fun j => hT.2 51 j
      have A52 : ∀ j, 0 ≤ τ_347.2.1 52 j ∧ τ_347.2.1 52 j ≤ 1 := fun j => hT.2 52 j
      have A53 : ∀ j, 0 ≤ τ_347.2.1 53 j ∧ τ_347.2.1 53 j ≤ 1 := fun j => hT.2 53 j
      have A54 : ∀ j, (-1) ≤ τ_347.2.1 54 j ∧ τ_347.2.1 54 j ≤ 999 := fun j => hT.2 54 j
      have A55 : ∀ j, (-1) ≤ τ_347.2.1 55 j ∧ τ_347.2.1 55 j ≤ 1499 := fun j => hT.2 55 j
      have v2 : 0 ≤ τ_347.1 2 ∧ τ_347.1 2 ≤ 30000 := hT.1 2
      have v3 : 0 ≤ τ_347.1 3 ∧ τ_347.1 3 ≤ 1000 := hT.1 3
      have v4 : 0 ≤ τ_347.1 4 ∧ τ_347.1 4 ≤ 100 := hT.1 4
      have v5 : 0 ≤ τ_347.1 5 ∧ τ_347.1 5 ≤ 1500 := hT.1 5
      have v6 : 0 ≤ τ_347.1 6 ∧ τ_347.1 6 ≤ 30000 := hT.1 6
      have v7 : 0 ≤ τ_347.1 7 ∧ τ_347.1 7 ≤ 90000 := hT.1 7
      have v8 : 0 ≤ τ_347.1 8 ∧ τ_347.1 8 ≤ 20000 := hT.1 8
      have v9 : 0 ≤ τ_347.1 9 ∧ τ_347.1 9 ≤ 20000 := hT.1 9
      have v10 : (-1) ≤ τ_347.1 10 ∧ τ_347.1 10 ≤ 999 := hT.1 10
      have v11 : (-1) ≤ τ_347.1 11 ∧ τ_347.1 11 ≤ 999 := hT.1 11
      have v12 : 0 ≤ τ_347.1 12 ∧ τ_347.1 12 ≤ 1000 := hT.1 12
      have v13 : 0 ≤ τ_347.1 13 ∧ τ_347.1 13 ≤ 1500 := hT.1 13
      have v14 : 0 ≤ τ_347.1 14 ∧ τ_347.1 14 ≤ 1000 := hT.1 14
      refine h347 u7_347 τ_347 ?_
      refine ⟨fun c43 => ?_, fun c43 => ?_⟩
      ·
        exact l_371 ((1501 - 0 : Int).toNat + 1) _ _ (show (1501 - 0 : Int) < (((1501 - 0 : Int).toNat + 1 : Nat) : Int) from by ((first | omega | (simp only [st_s] <;> omega) | assumption | omega | fail))) hT G1 G2 G3 G14 G15 G18 G19 G21 G22 G25 G26 G51 G52 G53 G54 G55 (show (τ_347.1 3) = n1 from by (first | omega | (simp only [st_s] <;> omega) | assumption | omega | fail)) (show (τ_347.1 5) = n2 from by (first | omega | (simp only [st_s] <;> omega) | assumption | omega | fail)) (show (τ_347.1 12) ≤ n4 from by (first | omega | (simp only [st_s] <;> omega) | assumption | omega | fail)) (show (τ_347.1 13) ≤ n5 from by (first | omega | (simp only [st_s] <;> omega) | assumption | omega | fail)) (show (n2 = 0 ∨ (τ_347.1 6) = σ.2.1 14 (n2 - 1) + σ.2.1 15 (n2 - 1)) from by (first | omega | (simp only [st_s] <;> omega) | assumption | omega | fail)) (show (n2 = 0 ∨ (τ_347.1 7) = σ.2.1 18 (n2 - 1) + σ.2.1 19 (n2 - 1)) ∧ (τ_347.1 7) ≤ 60 * n2 from by (first | omega | (simp only [st_s] <;> omega) | assumption | omega | fail)) (show (n2 = 0 ∨ (τ_347.1 8) = σ.2.1 21 (n2 - 1) + σ.2.1 22 (n2 - 1)) from by (first | omega | (simp only [st_s] <;> omega) | assumption | omega | fail)) (show (n2 = 0 ∨ (τ_347.1 9) = σ.2.1 25 (n2 - 1) + σ.2.1 26 (n2 - 1)) from by (first | omega | (simp only [st_s] <;> omega) | assumption | omega | fail)) (show 0 ≤ 0 ∧ 0 ≤ n2 from by (first | omega | (simp only [st_s] <;> omega) | assumption | omega | fail)) (show (τ_347.1 4) = ca (σ.2.1 53) n1 from by (first | omega | (simp only [st_s] <;> omega) | assumption | omega | fail)) (show j_e0 n1 (σ.2.1 53) (τ_347.2.1 12) from by (first | assumption | (rw [g12_τ51]; assumption) | fail)) (show j_e0 n1 (σ.2.1 52) (τ_347.2.1 9) from by (first | assumption | (rw [g9_τ51]; assumption) | fail)) (show oc (τ_347.2.1 6) ≤ n1 from by (first | omega | (simp only [st_s] <;> omega) | assumption | omega | fail)) (show j_l2 (τ_347.2.1 6) n1 from by (first | assumption | (rw [g6_τ51]; assumption) | fail)) (show oc (τ_347.2.1 7) ≤ 0 from by (first | omega | (simp only [st_s] <;> omega) | assumption | omega | fail)) (show ((σ.1 10) < n1 → (τ_347.1 10) = (σ.1 10)) ∧ (n1 ≤ (σ.1 10) → (τ_347.1 10) = -1) from by (first | omega | (simp only [st_s] <;> omega) | assumption | omega | fail)) (show ((σ.1 11) < n1 → (τ_347.1 11) = (σ.1 11)) ∧ (n1 ≤ (σ.1 11) → (τ_347.1 11) = -1) from by (first | omega | (simp only [st_s] <;> omega) | assumption | omega | fail)) (show n5 ≤ (σ.1 13) → (τ_347.1 13) = n5 from by (first | omega | (simp only [st_s] <;> omega) | assumption | omega | fail)) (show (τ_347.1 2) = n3 from by (first | omega | (simp only [st_s] <;> omega) | assumption | omega | fail)) (show j_eq 0 (σ.2.1 8) (τ_347.2.1 8) from by (first | exact i347_20 | (rw [g8_τ51]; exact i371_20) | fail)) (show j_e0 n1 (σ.2.1 51) (τ_347.2.1 8) from by (first | exact i347_21 | (rw [g8_τ51]; exact i371_21) | fail)) (show j_e0 n1 (σ.2.1 54) (τ_347.2.1 10) from by (first | exact i347_22 | (rw [g10_τ51]; exact i371_22) | fail)) (show j_e0 n1 (σ.2.1 55) (τ_347.2.1 11) from by (first | exact i347_23 | (rw [g11_τ51]; exact i371_23) | fail)) (show n_tb n1 (σ.2.1 1) (σ.2.1 2) (σ.2.1 3) (τ_347.2.1 6) from by (first | (rw [show n1 = u7_347 from by omega]; exact i347_24) | (rw [g6_τ51]; exact i371_24) | fail))
      ·
        have H1 := G1
        have H2 := G2
        have H3 := G3
        refine ⟨_, K3_X13_keepSymbol hT (show 0 ≤ u7_347 from by (first | omega | (simp only [st_s] <;> omega) | assumption | omega | fail)) (show u7_347 < 1000 from by (first | omega | (simp only [st_s] <;> omega) | assumption | omega | fail)) (show oc (τ_347.2.1 6) < 4096 from by (first | omega | (simp only [st_s] <;> omega) | assumption | omega | fail)), ?_⟩
        intro τ46 hn_τ46 hf_τ46 hq
        obtain ⟨hT, q44_1, q44_2, q44_3⟩ := hq
        replace q44_1 : oc (τ46.2.1 6) ≤ oc (τ_347.2.1 6) + 1 := q44_1
        replace q44_2 : ∃ e : Int, τ46.2.1 6 = st (τ_347.2.1 6) e u7_347 := q44_2
        replace q44_3 : ∃ v : Int, τ_347.2.1 6 v = -1 ∧ τ46.2.1 6 = st (τ_347.2.1 6) v u7_347 ∧ n_pt (τ46.2.1 6) (n_sp (τ_347.2.1 1) (τ_347.2.1 2 u7_347) (τ_347.2.1 3 u7_347)) u7_347 := q44_3
        have w2_τ46 : τ46.1 2 = τ_347.1 2 := hf_τ46.1 2 (by decide)
        have w3_τ46 : τ46.1 3 = τ_347.1 3 := hf_τ46.1 3 (by decide)
        have w4_τ46 : τ46.1 4 = τ_347.1 4 := hf_τ46.1 4 (by decide)
        have w5_τ46 : τ46.1 5 = τ_347.1 5 := hf_τ46.1 5 (by decide)
        have w6_τ46 : τ46.1 6 = τ_347.1 6 := hf_τ46.1 6 (by decide)
        have w7_τ46 : τ46.1 7 = τ_347.1 7 := hf_τ46.1 7 (by decide)
        have w8_τ46 : τ46.1 8 = τ_347.1 8 := hf_τ46.1 8 (by decide)
        have w9_τ46 : τ46.1 9 = τ_347.1 9 := hf_τ46.1 9 (by decide)
        have w10_τ46 : τ46.1 10 = τ_347.1 10 := hf_τ46.1 10 (by decide)
        have w11_τ46 : τ46.1 11 = τ_347.1 11 := hf_τ46.1 11 (by decide)
        have w12_τ46 : τ46.1 12 = τ_347.1 12 := hf_τ46.1 12 (by decide)
        have w13_τ46 : τ46.1 13 = τ_347.1 13 := hf_τ46.1 13 (by decide)
        have w14_τ46 : τ46.1 14 = τ_347.1 14 := hf_τ46.1 14 (by decide)
        have g1_τ46 : τ46.2.1 1 = τ_347.2.1 1 := hf_τ46.2.1 1 (by decide)
        have g2_τ46 : τ46.2.1 2 = τ_347.2.1 2 := hf_τ46.2.1 2 (by decide)
        have g3_τ46 : τ46.2.1 3 = τ_347.2.1 3 := hf_τ46.2.1 3 (by decide)
        have g7_τ46 : τ46.2.1 7 = τ_347.2.1 7 := hf_τ46.2.1 7 (by decide)
        have g8_τ46 : τ46.2.1 8 = τ_347.2.1 8 := hf_τ46.2.1 8 (by decide)
        have g9_τ46 : τ46.2.1 9 = τ_347.2.1 9 := hf_τ46.2.1 9 (by decide)
        have g10_τ46 : τ46.2.1 10 = τ_347.2.1 10 := hf_τ46.2.1 10 (by decide)
        have g11_τ46 : τ46.2.1 11 = τ_347.2.1 11 := hf_τ46.2.1 11 (by decide)
        have g12_τ46 : τ46.2.1 12 = τ_347.2.1 12 := hf_τ46.2.1 12 (by decide)
        have g14_τ46 : τ46.2.1 14 = τ_347.2.1 14 := hf_τ46.2.1 14 (by decide)
        have g15_τ46 : τ46.2.1 15 = τ_347.2.1 15 := hf_τ46.2.1 15 (by decide)
        have g18_τ46 : τ46.2.1 18 = τ_347.2.1 18 := hf_τ46.2.1 18 (by decide)
        have g19_τ46 : τ46.2.1 19 = τ_347.2.1 19 := hf_τ46.2.1 19 (by decide)
        have g21_τ46 : τ46.2.1 21 = τ_347.2.1 21 := hf_τ46.2.1 21 (by decide)
        have g22_τ46 : τ46.2.1 22 = τ_347.2.1 22 := hf_τ46.2.1 22 (by decide)
        have g25_τ46 : τ46.2.1 25 = τ_347.2.1 25 := hf_τ46.2.1 25 (by decide)
        have g26_τ46 : τ46.2.1 26 = τ_347.2.1 26 := hf_τ46.2.1 26 (by decide)
        have g51_τ46 : τ46.2.1 51 = τ_347.2.1 51 := hf_τ46.2.1 51 (by decide)
        have g52_τ46 : τ46.2.1 52 = τ_347.2.1 52 := hf_τ46.2.1 52 (by decide)
        have g53_τ46 : τ46.2.1 53 = τ_347.2.1 53 := hf_τ46.2.1 53 (by decide)
        have g54_τ46 : τ46.2.1 54 = τ_347.2.1 54 := hf_τ46.2.1 54 (by decide)
        have g55_τ46 : τ46.2.1 55 = τ_347.2.1 55 := hf_τ46.2.1 55 (by decide)
        first | (have ca_τ46 := congr (congrArg ca g9_τ46) w3_τ46) | skip
        first | (have o6_τ46 := congrArg oc g6_τ46) | skip
        first | (have o7_τ46 := congrArg oc g7_τ46) | skip
        have G1 : τ46.2.1 1 = σ.2.1 1 := (g1_τ46).trans G1
        have G2 : τ46.2.1 2 = σ.2.1 2 := (g2_τ46).trans G2
        have G3 : τ46.2.1 3 = σ.2.1 3 := (g3_τ46).trans G3
        have G14 : τ46.2.1 14 = σ.2.1 14 := (g14_τ46).trans G14
        have G15 : τ46.2.1 15 = σ.2.1 15 := (g15_τ46).trans G15
        have G18 : τ46.2.1 18 = σ.2.1 18 := (g18_τ46).trans G18
        have G19 : τ46.2.1 19 = σ.2.1 19 := (g19_τ46).trans G19
        have G21 : τ46.2.1 21 = σ.2.1 21 := (g21_τ46).trans G21
        have G22 : τ46.2.1 22 = σ.2.1 22 := (g22_τ46).trans G22
        have G25 : τ46.2.1 25 = σ.2.1 25 := (g25_τ46).trans G25
        have G26 : τ46.2.1 26 = σ.2.1 26 := (g26_τ46).trans G26
        have G51 : τ46.2.1 51 = σ.2.1 51 := (g51_τ46).trans G51
        have G52 : τ46.2.1 52 = σ.2.1 52 := (g52_τ46).trans G52
        have G53 : τ46.2.1 53 = σ.2.1 53 := (g53_τ46).trans G53
        have G54 : τ46.2.1 54 = σ.2.1 54 := (g54_τ46).trans G54
        have G55 : τ46.2.1 55 = σ.2.1 55 := (g55_τ46).trans G55
        have A1 : ∀ j, 0 ≤ τ46.2.1 1 j ∧ τ46.2.1 1 j ≤ 255 := fun j => hT.2 1 j
        have A2 : ∀ j, 0 ≤ τ46.2.1 2 j ∧ τ46.2.1 2 j ≤ 30000 := fun j => hT.2 2 j
        have A3 : ∀ j, 0 ≤ τ46.2.1 3 j ∧ τ46.2.1 3 j ≤ 60 := fun j => hT.2 3 j
        have A6 : ∀ j, (-1) ≤ τ46.2.1 6 j ∧ τ46.2.1 6 j ≤ 999 := fun j => hT.2 6 j
        have A7 : ∀ j, (-1) ≤ τ46.2.1 7 j ∧ τ46.2.1 7 j ≤ 1499 := fun j => hT.2 7 j
        have A8 : ∀ j, 0 ≤ τ46.2.1 8 j ∧ τ46.2.1 8 j ≤ 1 := fun j => hT.2 8 j
        have A9 : ∀ j, 0 ≤ τ46.2.1 9 j ∧ τ46.2.1 9 j ≤ 1 := fun j => hT.2 9 j
        have A10 : ∀ j, (-1) ≤ τ46.2.1 10 j ∧ τ46.2.1 10 j ≤ 999 := fun j => hT.2 10 j
        have A11 : ∀ j, (-1) ≤ τ46.2.1 11 j ∧ τ46.2.1 11 j ≤ 1499 := fun j => hT.2 11 j
        have A12 : ∀ j, 0 ≤ τ46.2.1 12 j ∧ τ46.2.1 12 j ≤ 1 := fun j => hT.2 12 j
        have A14 : ∀ j, 0 ≤ τ46.2.1 14 j ∧ τ46.2.1 14 j ≤ 30000 := fun j => hT.2 14 j
        have A15 : ∀ j, 0 ≤ τ46.2.1 15 j ∧ τ46.2.1 15 j ≤ 300 := fun j => hT.2 15 j
        have A18 : ∀ j, 0 ≤ τ46.2.1 18 j ∧ τ46.2.1 18 j ≤ 90000 := fun j => hT.2 18 j
        have A19 : ∀ j, 0 ≤ τ46.2.1 19 j ∧ τ46.2.1 19 j ≤ 60 := fun j => hT.2 19 j
        have A21 : ∀ j, 0 ≤ τ46.2.1 21 j ∧ τ46.2.1 21 j ≤ 20000 := fun j => hT.2 21 j
        have A22 : ∀ j, 0 ≤ τ46.2.1 22 j ∧ τ46.2.1 22 j ≤ 20000 := fun j => hT.2 22 j
        have A25 : ∀ j, 0 ≤ τ46.2.1 25 j ∧ τ46.2.1 25 j ≤ 20000 := fun j => hT.2 25 j
        have A26 : ∀ j, 0 ≤ τ46.2.1 26 j ∧ τ46.2.1 26 j ≤ 20000 := fun j => hT.2 26 j
        have A51 : ∀ j, 0 ≤ τ46.2.1 51 j ∧ τ46.2.1 51 j ≤ 1 := fun j => hT.2 51 j
        have A52 : ∀ j, 0 ≤ τ46.2.1 52 j ∧ τ46.2.1 52 j ≤ 1 := fun j => hT.2 52 j
        have A53 : ∀ j, 0 ≤ τ46.2.1 53 j ∧ τ46.2.1 53 j ≤ 1 := fun j => hT.2 53 j
        have A54 : ∀ j, (-1) ≤ τ46.2.1 54 j ∧ τ46.2.1 54 j ≤ 999 := fun j => hT.2 54 j
        have A55 : ∀ j, (-1) ≤ τ46.2.1 55 j ∧ τ46.2.1 55 j ≤ 1499 := fun j => hT.2 55 j
        have v2 : 0 ≤ τ46.1 2 ∧ τ46.1 2 ≤ 30000 := hT.1 2
        have v3 : 0 ≤ τ46.1 3 ∧ τ46.1 3 ≤ 1000 := hT.1 3
        have v4 : 0 ≤ τ46.1 4 ∧ τ46.1 4 ≤ 100 := hT.1 4
        have v5 : 0 ≤ τ46.1 5 ∧ τ46.1 5 ≤ 1500 := hT.1 5
        have v6 : 0 ≤ τ46.1 6 ∧ τ46.1 6 ≤ 30000 := hT.1 6
        have v7 : 0 ≤ τ46.1 7 ∧ τ46.1 7 ≤ 90000 := hT.1 7
        have v8 : 0 ≤ τ46.1 8 ∧ τ46.1 8 ≤ 20000 := hT.1 8
        have v9 : 0 ≤ τ46.1 9 ∧ τ46.1 9 ≤ 20000 := hT.1 9
        have v10 : (-1) ≤ τ46.1 10 ∧ τ46.1 10 ≤ 999 := hT.1 10
        have v11 : (-1) ≤ τ46.1 11 ∧ τ46.1 11 ≤ 999 := hT.1 11
        have v12 : 0 ≤ τ46.1 12 ∧ τ46.1 12 ≤ 1000 := hT.1 12
        have v13 : 0 ≤ τ46.1 13 ∧ τ46.1 13 ≤ 1500 := hT.1 13
        have v14 : 0 ≤ τ46.1 14 ∧ τ46.1 14 ≤ 1000 := hT.1 14
        have tb46 : n_tb (u7_347 + 1) (σ.2.1 1) (σ.2.1 2) (σ.2.1 3) (τ46.2.1 6) := by (obtain ⟨v, v1, v2, v3⟩ := q44_3; rw [H1, H2, H3] at v3; exact n_tb_s i347_24 (by omega) v1 v2 v3)
        refine ⟨(⟨by (first | omega | (simp only [st_s] <;> omega) | assumption | omega | fail), by (first | omega | (simp only [st_s] <;> omega) | assumption | omega | fail)⟩ : rg (u7_347 + 1)), ?_⟩
        exact ih_347 _ _ (show (1001 - (u7_347 + 1) : Int) < ((m_347 : Nat) : Int) from by ((first | omega | (simp only [st_s] <;> omega) | assumption | omega | fail))) hT G1 G2 G3 G14 G15 G18 G19 G21 G22 G25 G26 G51 G52 G53 G54 G55 (show (τ46.1 3) = n1 from by (first | omega | (simp only [st_s] <;> omega) | assumption | omega | fail)) (show (τ46.1 5) = n2 from by (first | omega | (simp only [st_s] <;> omega) | assumption | omega | fail)) (show (τ46.1 12) ≤ n4 from by (first | omega | (simp only [st_s] <;> omega) | assumption | omega | fail)) (show (τ46.1 13) ≤ n5 from by (first | omega | (simp only [st_s] <;> omega) | assumption | omega | fail)) (show (n2 = 0 ∨ (τ46.1 6) = σ.2.1 14 (n2 - 1) + σ.2.1 15 (n2 - 1)) from by (first | omega | (simp only [st_s] <;> omega) | assumption | omega | fail)) (show (n2 = 0 ∨ (τ46.1 7) = σ.2.1 18 (n2 - 1) + σ.2.1 19 (n2 - 1)) ∧ (τ46.1 7) ≤ 60 * n2 from by (first | omega | (simp only [st_s] <;> omega) | assumption | omega | fail)) (show (n2 = 0 ∨ (τ46.1 8) = σ.2.1 21 (n2 - 1) + σ.2.1 22 (n2 - 1)) from by (first | omega | (simp only [st_s] <;> omega) | assumption | omega | fail)) (show (n2 = 0 ∨ (τ46.1 9) = σ.2.1 25 (n2 - 1) + σ.2.1 26 (n2 - 1)) from by (first | omega | (simp only [st_s] <;> omega) | assumption | omega | fail)) (show 0 ≤ (u7_347 + 1) ∧ (u7_347 + 1) ≤ n1 from by (first | omega | (simp only [st_s] <;> omega) | assumption | omega | fail)) (show (τ46.1 4) = ca (σ.2.1 53) n1 from by (first | omega | (rw [show n1 = u7_185 from by omega]; omega) | fail)) (show j_e0 n1 (σ.2.1 53) (τ46.2.1 12) from by (first | (rw [g12_τ46]; assumption) | (rw [g12_τ42, g12_τ_337]; exact j_e0w i185_11 (by omega)) | fail)) (show j_e0 n1 (σ.2.1 52) (τ46.2.1 9) from by (first | (rw [g9_τ46]; assumption) | (rw [g9_τ42, g9_τ_337]; exact j_e0w i185_12 (by omega)) | fail)) (show oc (τ46.2.1 6) ≤ (u7_347 + 1) from by (first | omega | (have := oc_0 q40_1; omega) | fail)) (show j_l2 (τ46.2.1 6) n1 from by (first | (have q9 := q44_2; obtain ⟨e, he⟩ := q9; rw [he]; exact j_l2s i347_14 (Int.le_refl _) (by omega)) | (intro e h0 h1; rw [q40_1 e h0 h1]; omega) | fail)) (show oc (τ46.2.1 7) = 0 from by (first | omega | exact oc_0 q40_2 | fail)) (show ((σ.1 10) < n1 → (τ46.1 10) = (σ.1 10)) ∧ (n1 ≤ (σ.1 10) → (τ46.1 10) = -1) from by (first | omega | (simp only [st_s] <;> omega) | assumption | omega | fail)) (show ((σ.1 11) < n1 → (τ46.1 11) = (σ.1 11)) ∧ (n1 ≤ (σ.1 11) → (τ46.1 11) = -1) from by (first | omega | (simp only [st_s] <;> omega) | assumption | omega | fail)) (show n5 ≤ (σ.1 13) → (τ46.1 13) = n5 from by (first | omega | (simp only [st_s] <;> omega) | assumption | omega | fail)) (show (τ46.1 2) = n3 from by (first | omega | (simp only [st_s] <;> omega) | assumption | omega | fail)) (show j_eq 0 (σ.2.1 8) (τ46.2.1 8) from by (first | (rw [g8_τ46]; exact i347_20) | (rw [g8_τ42, g8_τ_337]; exact i185_17) | fail)) (show j_e0 n1 (σ.2.1 51) (τ46.2.1 8) from by (first | (rw [g8_τ46]; exact i347_21) | (rw [g8_τ42, g8_τ_337]; exact j_e0w i185_18 (by omega)) | fail)) (show j_e0 n1 (σ.2.1 54) (τ46.2.1 10) from by (first | (rw [g10_τ46]; exact i347_22) | (rw [g10_τ42, g10_τ_337]; exact j_e0w i185_19 (by omega)) | fail)) (show j_e0 n1 (σ.2.1 55) (τ46.2.1 11) from by (first | (rw [g11_τ46]; exact i347_23) | (rw [g11_τ42, g11_τ_337]; exact j_e0w i185_20 (by omega)) | fail)) (show n_tb (u7_347 + 1) (σ.2.1 1) (σ.2.1 2) (σ.2.1 3) (τ46.2.1 6) from by (first | exact tb46 | (intro s a b; exfalso; omega) | fail))
  have l_185 : ∀ (m_185 : Nat) (u7_185 : Int) (τ_185 : S0), 1001 - u7_185 < (m_185 : Int) → (m_T τ_185) → (τ_185.2.1 1 = σ.2.1 1) → (τ_185.2.1 2 = σ.2.1 2) → (τ_185.2.1 3 = σ.2.1 3) → (τ_185.2.1 14 = σ.2.1 14) → (τ_185.2.1 15 = σ.2.1 15) → (τ_185.2.1 18 = σ.2.1 18) → (τ_185.2.1 19 = σ.2.1 19) → (τ_185.2.1 21 = σ.2.1 21) → (τ_185.2.1 22 = σ.2.1 22) → (τ_185.2.1 25 = σ.2.1 25) → (τ_185.2.1 26 = σ.2.1 26) → (τ_185.2.1 51 = σ.2.1 51) → (τ_185.2.1 52 = σ.2.1 52) → (τ_185.2.1 53 = σ.2.1 53) → (τ_185.2.1 54 = σ.2.1 54) → (τ_185.2.1 55 = σ.2.1 55) → ((τ_185.1 3) = n1) → ((τ_185.1 5) = n2) → ((τ_185.1 12) ≤ n4) → ((τ_185.1 13) ≤ n5) → (n2 = 0 ∨ (τ_185.1 6) = σ.2.1 14 (n2 - 1) + σ.2.1 15 (n2 - 1)) → ((n2 = 0 ∨ (τ_185.1 7) = σ.2.1 18 (n2 - 1) + σ.2.1 19 (n2 - 1)) ∧ (τ_185.1 7) ≤ 60 * n2) → (n2 = 0 ∨ (τ_185.1 8) = σ.2.1 21 (n2 - 1) + σ.2.1 22 (n2 - 1)) → (n2 = 0 ∨ (τ_185.1 9) = σ.2.1 25 (n2 - 1) + σ.2.1 26 (n2 - 1)) → (0 ≤ u7_185 ∧ u7_185 ≤ n1) → ((τ_185.1 4) = ca (σ.2.1 53) u7_185) → (j_e0 u7_185 (σ.2.1 53) (τ_185.2.1 12)) → (j_e0 u7_185 (σ.2.1 52) (τ_185.2.1 9)) → ((τ_185.1 10) = (σ.1 10)) → ((τ_185.1 11) = (σ.1 11)) → (n5 ≤ (σ.1 13) → (τ_185.1 13) = n5) → ((τ_185.1 2) = n3) → (j_eq 0 (σ.2.1 8) (τ_185.2.1 8)) → (j_e0 u7_185 (σ.2.1 51) (τ_185.2.1 8)) → (j_e0 u7_185 (σ.2.1 54) (τ_185.2.1 10)) → (j_e0 u7_185 (σ.2.1 55) (τ_185.2.1 11)) → P185 u7_185 τ_185 := by
    intro m_185
    induction m_185 with
    | zero =>
      intro u7_185 τ_185 hm hT G1 G2 G3 G14 G15 G18 G19 G21 G22 G25 G26 G51 G52 G53 G54 G55 i185_1 i185_2 i185_3 i185_4 i185_5 i185_6 i185_7 i185_8 i185_9 i185_10 i185_11 i185_12 i185_13 i185_14 i185_15 i185_16 i185_17 i185_18 i185_19 i185_20
      have A1 : ∀ j, 0 ≤ τ_185.2.1 1 j ∧ τ_185.2.1 1 j ≤ 255 := fun j => hT.2 1 j
      have A2 : ∀ j, 0 ≤ τ_185.2.1 2 j ∧ τ_185.2.1 2 j ≤ 30000 := fun j => hT.2 2 j
      have A3 : ∀ j, 0 ≤ τ_185.2.1 3 j ∧ τ_185.2.1 3 j ≤ 60 := fun j => hT.2 3 j
      have A6 : ∀ j, (-1) ≤ τ_185.2.1 6 j ∧ τ_185.2.1 6 j ≤ 999 := fun j => hT.2 6 j
      have A7 : ∀ j, (-1) ≤ τ_185.2.1 7 j ∧ τ_185.2.1 7 j ≤ 1499 := fun j => hT.2 7 j
      have A8 : ∀ j, 0 ≤ τ_185.2.1 8 j ∧ τ_185.2.1 8 j ≤ 1 := fun j => hT.2 8 j
      have A9 : ∀ j, 0 ≤ τ_185.2.1 9 j ∧ τ_185.2.1 9 j ≤ 1 := fun j => hT.2 9 j
      have A10 : ∀ j, (-1) ≤ τ_185.2.1 10 j ∧ τ_185.2.1 10 j ≤ 999 := fun j => hT.2 10 j
      have A11 : ∀ j, (-1) ≤ τ_185.2.1 11 j ∧ τ_185.2.1 11 j ≤ 1499 := fun j => hT.2 11 j
      have A12 : ∀ j, 0 ≤ τ_185.2.1 12 j ∧ τ_185.2.1 12 j ≤ 1 := fun j => hT.2 12 j
      have A14 : ∀ j, 0 ≤ τ_185.2.1 14 j ∧ τ_185.2.1 14 j ≤ 30000 := fun j => hT.2 14 j
      have A15 : ∀ j, 0 ≤ τ_185.2.1 15 j ∧ τ_185.2.1 15 j ≤ 300 := fun j => hT.2 15 j
      have A18 : ∀ j, 0 ≤ τ_185.2.1 18 j ∧ τ_185.2.1 18 j ≤ 90000 := fun j => hT.2 18 j
      have A19 : ∀ j, 0 ≤ τ_185.2.1 19 j ∧ τ_185.2.1 19 j ≤ 60 := fun j => hT.2 19 j
      have A21 : ∀ j, 0 ≤ τ_185.2.1 21 j ∧ τ_185.2.1 21 j ≤ 20000 := fun j => hT.2 21 j
      have A22 : ∀ j, 0 ≤ τ_185.2.1 22 j ∧ τ_185.2.1 22 j ≤ 20000 := fun j => hT.2 22 j
      have A25 : ∀ j, 0 ≤ τ_185.2.1 25 j ∧ τ_185.2.1 25 j ≤ 20000 := fun j => hT.2 25 j
      have A26 : ∀ j, 0 ≤ τ_185.2.1 26 j ∧ τ_185.2.1 26 j ≤ 20000 := fun j => hT.2 26 j
      have A51 : ∀ j, 0 ≤ τ_185.2.1 51 j ∧ τ_185.2.1 51 j ≤ 1 := fun j => hT.2 51 j
      have A52 : ∀ j, 0 ≤ τ_185.2.1 52 j ∧ τ_185.2.1 52 j ≤ 1 := fun j => hT.2 52 j
      have A53 : ∀ j, 0 ≤ τ_185.2.1 53 j ∧ τ_185.2.1 53 j ≤ 1 := fun j => hT.2 53 j
      have A54 : ∀ j, (-1) ≤ τ_185.2.1 54 j ∧ τ_185.2.1 54 j ≤ 999 := fun j => hT.2 54 j
      have A55 : ∀ j, (-1) ≤ τ_185.2.1 55 j ∧ τ_185.2.1 55 j ≤ 1499 := fun j => hT.2 55 j
      have v2 : 0 ≤ τ_185.1 2 ∧ τ_185.1 2 ≤ 30000 := hT.1 2
      have v3 : 0 ≤ τ_185.1 3 ∧ τ_185.1 3 ≤ 1000 := hT.1 3
      have v4 : 0 ≤ τ_185.1 4 ∧ τ_185.1 4 ≤ 100 := hT.1 4
      have v5 : 0 ≤ τ_185.1 5 ∧ τ_185.1 5 ≤ 1500 := hT.1 5
      have v6 : 0 ≤ τ_185.1 6 ∧ τ_185.1 6 ≤ 30000 := hT.1 6
      have v7 : 0 ≤ τ_185.1 7 ∧ τ_185.1 7 ≤ 90000 := hT.1 7
      have v8 : 0 ≤ τ_185.1 8 ∧ τ_185.1 8 ≤ 20000 := hT.1 8
      have v9 : 0 ≤ τ_185.1 9 ∧ τ_185.1 9 ≤ 20000 := hT.1 9
      have v10 : (-1) ≤ τ_185.1 10 ∧ τ_185.1 10 ≤ 999 := hT.1 10
      have v11 : (-1) ≤ τ_185.1 11 ∧ τ_185.1 11 ≤ 999 := hT.1 11
      have v12 : 0 ≤ τ_185.1 12 ∧ τ_185.1 12 ≤ 1000 := hT.1 12
      have v13 : 0 ≤ τ_185.1 13 ∧ τ_185.1 13 ≤ 1500 := hT.1 13
      have v14 : 0 ≤ τ_185.1 14 ∧ τ_185.1 14 ≤ 1000 := hT.1 14
      exfalso; (first | omega | (simp only [st_s] <;> omega) | assumption | omega | fail)
    | succ m_185 ih_185 =>
      intro u7_185 τ_185 hm_185 hT G1 G2 G3 G14 G15 G18 G19 G21 G22 G25 G26 G51 G52 G53 G54 G55 i185_1 i185_2 i185_3 i185_4 i185_5 i185_6 i185_7 i185_8 i185_9 i185_10 i185_11 i185_12 i185_13 i185_14 i185_15 i185_16 i185_17 i185_18 i185_19 i185_20
      have A1 : ∀ j, 0 ≤ τ_185.2.1 1 j ∧ τ_185.2.1 1 j ≤ 255 := fun j => hT.2 1 j
      have A2 : ∀ j, 0 ≤ τ_185.2.1 2 j ∧ τ_185.2.1 2 j ≤ 30000 := fun j => hT.2 2 j
      have A3 : ∀ j, 0 ≤ τ_185.2.1 3 j ∧ τ_185.2.1 3 j ≤ 60 := fun j => hT.2 3 j
      have A6 : ∀ j, (-1) ≤ τ_185.2.1 6 j ∧ τ_185.2.1 6 j ≤ 999 := fun j => hT.2 6 j
      have A7 : ∀ j, (-1) ≤ τ_185.2.1 7 j ∧ τ_185.2.1 7 j ≤ 1499 := fun j => hT.2 7 j
      have A8 : ∀ j, 0 ≤ τ_185.2.1 8 j ∧ τ_185.2.1 8 j ≤ 1 := fun j => hT.2 8 j
      have A9 : ∀ j, 0 ≤ τ_185.2.1 9 j ∧ τ_185.2.1 9 j ≤ 1 := fun j => hT.2 9 j
      have A10 : ∀ j, (-1) ≤ τ_185.2.1 10 j ∧ τ_185.2.1 10 j ≤ 999 := fun j => hT.2 10 j
      have A11 : ∀ j, (-1) ≤ τ_185.2.1 11 j ∧ τ_185.2.1 11 j ≤ 1499 := fun j => hT.2 11 j
      have A12 : ∀ j, 0 ≤ τ_185.2.1 12 j ∧ τ_185.2.1 12 j ≤ 1 := fun j => hT.2 12 j
      have A14 : ∀ j, 0 ≤ τ_185.2.1 14 j ∧ τ_185.2.1 14 j ≤ 30000 := fun j => hT.2 14 j
      have A15 : ∀ j, 0 ≤ τ_185.2.1 15 j ∧ τ_185.2.1 15 j ≤ 300 := fun j => hT.2 15 j
      have A18 : ∀ j, 0 ≤ τ_185.2.1 18 j ∧ τ_185.2.1 18 j ≤ 90000 := fun j => hT.2 18 j
      have A19 : ∀ j, 0 ≤ τ_185.2.1 19 j ∧ τ_185.2.1 19 j ≤ 60 := fun j => hT.2 19 j
      have A21 : ∀ j, 0 ≤ τ_185.2.1 21 j ∧ τ_185.2.1 21 j ≤ 20000 := fun j => hT.2 21 j
      have A22 : ∀ j, 0 ≤ τ_185.2.1 22 j ∧ τ_185.2.1 22 j ≤ 20000 := fun j => hT.2 22 j
      have A25 : ∀ j, 0 ≤ τ_185.2.1 25 j ∧ τ_185.2.1 25 j ≤ 20000 := fun j => hT.2 25 j
      have A26 : ∀ j, 0 ≤ τ_185.2.1 26 j ∧ τ_185.2.1 26 j ≤ 20000 := fun j => hT.2 26 j
      have A51 : ∀ j, 0 ≤ τ_185.2.1 51 j ∧ τ_185.2.1 51 j ≤ 1 := fun j => hT.2 51 j
      have A52 : ∀ j, 0 ≤ τ_185.2.1 52 j ∧ τ_185.2.1 52 j ≤ 1 := fun j => hT.2 52 j
      have A53 : ∀ j, 0 ≤ τ_185.2.1 53 j ∧ τ_185.2.1 53 j ≤ 1 := fun j => hT.2 53 j
      have A54 : ∀ j, (-1) ≤ τ_185.2.1 54 j ∧ τ_185.2.1 54 j ≤ 999 := fun j => hT.2 54 j
      have A55 : ∀ j, (-1) ≤ τ_185.2.1 55 j ∧ τ_185.2.1 55 j ≤ 1499 := fun j => hT.2 55 j
      have v2 : 0 ≤ τ_185.1 2 ∧ τ_185.1 2 ≤ 30000 := hT.1 2
      have v3 : 0 ≤ τ_185.1 3 ∧ τ_185.1 3 ≤ 1000 := hT.1 3
      have v4 : 0 ≤ τ_185.1 4 ∧ τ_185.1 4 ≤ 100 := hT.1 4
      have v5 : 0 ≤ τ_185.1 5 ∧ τ_185.1 5 ≤ 1500 := hT.1 5
      have v6 : 0 ≤ τ_185.1 6 ∧ τ_185.1 6 ≤ 30000 := hT.1 6
      have v7 : 0 ≤ τ_185.1 7 ∧ τ_185.1 7 ≤ 90000 := hT.1 7
      have v8 : 0 ≤ τ_185.1 8 ∧ τ_185.1 8 ≤ 20000 := hT.1 8
      have v9 : 0 ≤ τ_185.1 9 ∧ τ_185.1 9 ≤ 20000 := hT.1 9
      have v10 : (-1) ≤ τ_185.1 10 ∧ τ_185.1 10 ≤ 999 := hT.1 10
      have v11 : (-1) ≤ τ_185.1 11 ∧ τ_185.1 11 ≤ 999 := hT.1 11
      have v12 : 0 ≤ τ_185.1 12 ∧ τ_185.1 12 ≤ 1000 := hT.1 12
      have v13 : 0 ≤ τ_185.1 13 ∧ τ_185.1 13 ≤ 1500 := hT.1 13
      have v14 : 0 ≤ τ_185.1 14 ∧ τ_185.1 14 ≤ 1000 := hT.1 14
      have l_284 : ∀ (u7_284 : Int) (k1_284 : Int) (k2_284 : Int) (τ_284 : S0), (m_T τ_284) → (τ_284.2.1 1 = σ.2.1 1) → (τ_284.2.1 2 = σ.2.1 2) → (τ_284.2.1 3 = σ.2.1 3) → (τ_284.2.1 14 = σ.2.1 14) → (τ_284.2.1 15 = σ.2.1 15) → (τ_284.2.1 18 = σ.2.1 18) → (τ_284.2.1 19 = σ.2.1 19) → (τ_284.2.1 21 = σ.2.1 21) → (τ_284.2.1 22 = σ.2.1 22) → (τ_284.2.1 25 = σ.2.1 25) → (τ_284.2.1 26 = σ.2.1 26) → (τ_284.2.1 51 = σ.2.1 51) → (τ_284.2.1 52 = σ.2.1 52) → (τ_284.2.1 53 = σ.2.1 53) → (τ_284.2.1 54 = σ.2.1 54) → (τ_284.2.1 55 = σ.2.1 55) → ((τ_284.1 3) = n1) → ((τ_284.1 5) = n2) → ((τ_284.1 12) ≤ n4) → ((τ_284.1 13) ≤ n5) → (n2 = 0 ∨ (τ_284.1 6) = σ.2.1 14 (n2 - 1) + σ.2.1 15 (n2 - 1)) → ((n2 = 0 ∨ (τ_284.1 7) = σ.2.1 18 (n2 - 1) + σ.2.1 19 (n2 - 1)) ∧ (τ_284.1 7) ≤ 60 * n2) → (n2 = 0 ∨ (τ_284.1 8) = σ.2.1 21 (n2 - 1) + σ.2.1 22 (n2 - 1)) → (n2 = 0 ∨ (τ_284.1 9) = σ.2.1 25 (n2 - 1) + σ.2.1 26 (n2 - 1)) → (0 ≤ u7_284 ∧ u7_284 < n1) → ((σ.2.1 53 u7_284 = 0 ∧ k2_284 = 0) ∨ (¬ σ.2.1 53 u7_284 = 0 ∧ k2_284 = 1)) → (k1_284 = ca (σ.2.1 53) u7_284) → ((τ_284.1 4) = ca (σ.2.1 53) u7_284) → (j_e0 (u7_284 + 1) (σ.2.1 53) (τ_284.2.1 12)) → (j_e0 (u7_284 + 1) (σ.2.1 52) (τ_284.2.1 9)) → (u7_284 + (m_185 : Int) ≥ 1001) → ((τ_284.1 10) = (σ.1 10)) → ((τ_284.1 11) = (σ.1 11)) → (n5 ≤ (σ.1 13) → (τ_284.1 13) = n5) → ((τ_284.1 2) = n3) → (j_eq 0 (σ.2.1 8) (τ_284.2.1 8)) → (j_e0 (u7_284 + 1) (σ.2.1 51) (τ_284.2.1 8)) → (j_e0 (u7_284 + 1) (σ.2.1 54) (τ_284.2.1 10)) → (j_e0 (u7_284 + 1) (σ.2.1 55) (τ_284.2.1 11)) → P284 u7_284 k1_284 k2_284 τ_284 := by
        intro u7_284 k1_284 k2_284 τ_284 hT G1 G2 G3 G14 G15 G18 G19 G21 G22 G25 G26 G51 G52 G53 G54 G55 i284_1 i284_2 i284_3 i284_4 i284_5 i284_6 i284_7 i284_8 i284_9 i284_10 i284_11 i284_12 i284_13 i284_14 i284_15 i284_16 i284_17 i284_18 i284_19 i284_20 i284_21 i284_22 i284_23
        have A1 : ∀ j, 0 ≤ τ_284.2.1 1 j ∧ τ_284.2.1 1 j ≤ 255 := fun j => hT.2 1 j
        have A2 : ∀ j, 0 ≤ τ_284.2.1 2 j ∧ τ_284.2.1 2 j ≤ 30000 := fun j => hT.2 2 j
        have A3 : ∀ j, 0 ≤ τ_284.2.1 3 j ∧ τ_284.2.1 3 j ≤ 60 := fun j => hT.2 3 j
        have A6 : ∀ j, (-1) ≤ τ_284.2.1 6 j ∧ τ_284.2.1 6 j ≤ 999 := fun j => hT.2 6 j
        have A7 : ∀ j, (-1) ≤ τ_284.2.1 7 j ∧ τ_284.2.1 7 j ≤ 1499 := fun j => hT.2 7 j
        have A8 : ∀ j, 0 ≤ τ_284.2.1 8 j ∧ τ_284.2.1 8 j ≤ 1 := fun j => hT.2 8 j
        have A9 : ∀ j, 0 ≤ τ_284.2.1 9 j ∧ τ_284.2.1 9 j ≤ 1 := fun j => hT.2 9 j
        have A10 : ∀ j, (-1) ≤ τ_284.2.1 10 j ∧ τ_284.2.1 10 j ≤ 999 := fun j => hT.2 10 j
        have A11 : ∀ j, (-1) ≤ τ_284.2.1 11 j ∧ τ_284.2.1 11 j ≤ 1499 := fun j => hT.2 11 j
        have A12 : ∀ j, 0 ≤ τ_284.2.1 12 j ∧ τ_284.2.1 12 j ≤ 1 := fun j => hT.2 12 j
        have A14 : ∀ j, 0 ≤ τ_284.2.1 14 j ∧ τ_284.2.1 14 j ≤ 30000 := fun j => hT.2 14 j
        have A15 : ∀ j, 0 ≤ τ_284.2.1 15 j ∧ τ_284.2.1 15 j ≤ 300 := fun j => hT.2 15 j
        have A18 : ∀ j, 0 ≤ τ_284.2.1 18 j ∧ τ_284.2.1 18 j ≤ 90000 := fun j => hT.2 18 j
        have A19 : ∀ j, 0 ≤ τ_284.2.1 19 j ∧ τ_284.2.1 19 j ≤ 60 := fun j => hT.2 19 j
        have A21 : ∀ j, 0 ≤ τ_284.2.1 21 j ∧ τ_284.2.1 21 j ≤ 20000 := fun j => hT.2 21 j
        have A22 : ∀ j, 0 ≤ τ_284.2.1 22 j ∧ τ_284.2.1 22 j ≤ 20000 := fun j => hT.2 22 j
        have A25 : ∀ j, 0 ≤ τ_284.2.1 25 j ∧ τ_284.2.1 25 j ≤ 20000 := fun j => hT.2 25 j
        have A26 : ∀ j, 0 ≤ τ_284.2.1 26 j ∧ τ_284.2.1 26 j ≤ 20000 := fun j => hT.2 26 j
        have A51 : ∀ j, 0 ≤ τ_284.2.1 51 j ∧ τ_284.2.1 51 j ≤ 1 := fun j => hT.2 51 j
        have A52 : ∀ j, 0 ≤ τ_284.2.1 52 j ∧ τ_284.2.1 52 j ≤ 1 := fun j => hT.2 52 j
        have A53 : ∀ j, 0 ≤ τ_284.2.1 53 j ∧ τ_284.2.1 53 j ≤ 1 := fun j => hT.2 53 j
        have A54 : ∀ j, (-1) ≤ τ_284.2.1 54 j ∧ τ_284.2.1 54 j ≤ 999 := fun j => hT.2 54 j
        have A55 : ∀ j, (-1) ≤ τ_284.2.1 55 j ∧ τ_284.2.1 55 j ≤ 1499 := fun j => hT.2 55 j
        have v2 : 0 ≤ τ_284.1 2 ∧ τ_284.1 2 ≤ 30000 := hT.1 2
        have v3 : 0 ≤ τ_284.1 3 ∧ τ_284.1 3 ≤ 1000 := hT.1 3
        have v4 : 0 ≤ τ_284.1 4 ∧ τ_284.1 4 ≤ 100 := hT.1 4
        have v5 : 0 ≤ τ_284.1 5 ∧ τ_284.1 5 ≤ 1500 := hT.1 5
        have v6 : 0 ≤ τ_284.1 6 ∧ τ_284.1 6 ≤ 30000 := hT.1 6
        have v7 : 0 ≤ τ_284.1 7 ∧ τ_284.1 7 ≤ 90000 := hT.1 7
        have v8 : 0 ≤ τ_284.1 8 ∧ τ_284.1 8 ≤ 20000 := hT.1 8
        have v9 : 0 ≤ τ_284.1 9 ∧ τ_284.1 9 ≤ 20000 := hT.1 9
        have v10 : (-1) ≤ τ_284.1 10 ∧ τ_284.1 10 ≤ 999 := hT.1 10
        have v11 : (-1) ≤ τ_284.1 11 ∧ τ_284.1 11 ≤ 999 := hT.1 11
        have v12 : 0 ≤ τ_284.1 12 ∧ τ_284.1 12 ≤ 1000 := hT.1 12
        have v13 : 0 ≤ τ_284.1 13 ∧ τ_284.1 13 ≤ 1500 := hT.1 13
        have v14 : 0 ≤ τ_284.1 14 ∧ τ_284.1 14 ≤ 1000 := hT.1 14
        have cu := ca_u (σ.2.1 53) (n := u7_284) (by omega)
        have cm := ca_m (σ.2.1 53) (n := u7_284 + 1) (m := n1) (by omega) (by omega)
        refine h284 u7_284 k1_284 k2_284 τ_284 ?_
        refine ⟨(⟨by (first | omega | (simp only [st_s] <;> omega) | assumption | omega | fail), by (first | omega | (simp only [st_s] <;> omega) | assumption | omega | fail)⟩ : rg (k1_284 + k2_284)), ?_⟩
        replace hT := mT_v (i := 4) hT (show 0 ≤ (k1_284 + k2_284) ∧ (k1_284 + k2_284) ≤ 100 from by (first | omega | (simp only [st_s] <;> omega) | assumption | omega | fail))
        refine ⟨(⟨by (first | omega | (simp only [st_s] <;> omega) | assumption | omega | fail), by (first | omega | (simp only [st_s] <;> omega) | assumption | omega | fail)⟩ : rg (u7_284 + 1)), ?_⟩
        exact ih_185 _ _ (show (1001 - (u7_284 + 1) : Int) < ((m_185 : Nat) : Int) from by ((first | omega | (simp only [st_s] <;> omega) | assumption | omega | fail))) hT G1 G2 G3 G14 G15 G18 G19 G21 G22 G25 G26 G51 G52 G53 G54 G55 (show (τ_284.1 3) = n1 from by (first | omega | (simp only [st_s] <;> omega) | assumption | omega | fail)) (show (τ_284.1 5) = n2 from by (first | omega | (simp only [st_s] <;> omega) | assumption | omega | fail)) (show (τ_284.1 12) ≤ n4 from by (first | omega | (simp only [st_s] <;> omega) | assumption | omega | fail)) (show (τ_284.1 13) ≤ n5 from by (first | omega | (simp only [st_s] <;> omega) | assumption | omega | fail)) (show (n2 = 0 ∨ (τ_284.1 6) = σ.2.1 14 (n2 - 1) + σ.2.1 15 (n2 - 1)) from by (first | omega | (simp only [st_s] <;> omega) | assumption | omega | fail)) (show (n2 = 0 ∨ (τ_284.1 7) = σ.2.1 18 (n2 - 1) + σ.2.1 19 (n2 - 1)) ∧ (τ_284.1 7) ≤ 60 * n2 from by (first | omega | (simp only [st_s] <;> omega) | assumption | omega | fail)) (show (n2 = 0 ∨ (τ_284.1 8) = σ.2.1 21 (n2 - 1) + σ.2.1 22 (n2 - 1)) from by (first | omega | (simp only [st_s] <;> omega) | assumption | omega | fail)) (show (n2 = 0 ∨ (τ_284.1 9) = σ.2.1 25 (n2 - 1) + σ.2.1 26 (n2 - 1)) from by (first | omega | (simp only [st_s] <;> omega) | assumption | omega | fail)) (show 0 ≤ (u7_284 + 1) ∧ (u7_284 + 1) ≤ n1 from by (first | omega | (simp only [st_s] <;> omega) | assumption | omega | fail)) (show ((k1_284 + k2_284)) = ca (σ.2.1 53) (u7_284 + 1) from by (first | rfl | omega | fail)) (show j_e0 (u7_284 + 1) (σ.2.1 53) (τ_284.2.1 12) from by (first | assumption | (intro j h0 h1; exfalso; omega) | fail)) (show j_e0 (u7_284 + 1) (σ.2.1 52) (τ_284.2.1 9) from by (first | assumption | (intro j h0 h1; exfalso; omega) | fail)) (show (τ_284.1 10) = (σ.1 10) from by (first | omega | (simp only [st_s] <;> omega) | assumption | omega | fail)) (show (τ_284.1 11) = (σ.1 11) from by (first | omega | (simp only [st_s] <;> omega) | assumption | omega | fail)) (show n5 ≤ (σ.1 13) → (τ_284.1 13) = n5 from by (first | omega | (simp only [st_s] <;> omega) | assumption | omega | fail)) (show (τ_284.1 2) = n3 from by (first | omega | (simp only [st_s] <;> omega) | assumption | omega | fail)) (show j_eq 0 (σ.2.1 8) (τ_284.2.1 8) from by (first | exact i174_15 | exact i284_20 | fail)) (show j_e0 (u7_284 + 1) (σ.2.1 51) (τ_284.2.1 8) from by (first | exact i284_21 | (intro j h0 h1; exfalso; omega) | fail)) (show j_e0 (u7_284 + 1) (σ.2.1 54) (τ_284.2.1 10) from by (first | exact i284_22 | (intro j h0 h1; exfalso; omega) | fail)) (show j_e0 (u7_284 + 1) (σ.2.1 55) (τ_284.2.1 11) from by (first | exact i284_23 | (intro j h0 h1; exfalso; omega) | fail))
      refine h185 u7_185 τ_185 ?_
      refine ⟨fun c24 => ?_, fun c24 => ?_⟩
      ·
        refine ⟨fun c25 => ?_, fun c25 => ?_⟩
        ·
          refine h314 _ _ ?_
          replace hT := mT_v (i := 10) hT (show (-1) ≤ (τ_185.1 10) ∧ (τ_185.1 10) ≤ 999 from by (first | omega | (simp only [st_s] <;> omega) | assumption | omega | fail))
          refine ⟨fun c37 => ?_, fun c37 => ?_⟩
          ·
            obtain ⟨τ_337, e_τ_337⟩ : ∃ z : S0, z = s_v τ_185 10 (τ_185.1 10) := ⟨_, rfl⟩
            rw [← e_τ_337]
            replace hT : m_T τ_337 := by rw [e_τ_337]; exact hT
            have w2_τ_337 : τ_337.1 2 = τ_185.1 2 := by rw [e_τ_337]; rfl
            have w3_τ_337 : τ_337.1 3 = τ_185.1 3 := by rw [e_τ_337]; rfl
            have w4_τ_337 : τ_337.1 4 = τ_185.1 4 := by rw [e_τ_337]; rfl
            have w5_τ_337 : τ_337.1 5 = τ_185.1 5 := by rw [e_τ_337]; rfl
            have w6_τ_337 : τ_337.1 6 = τ_185.1 6 := by rw [e_τ_337]; rfl
            have w7_τ_337 : τ_337.1 7 = τ_185.1 7 := by rw [e_τ_337]; rfl
            have w8_τ_337 : τ_337.1 8 = τ_185.1 8 := by rw [e_τ_337]; rfl
            have w9_τ_337 : τ_337.1 9 = τ_185.1 9 := by rw [e_τ_337]; rfl
            have w10_τ_337 : τ_337.1 10 = (τ_185.1 10) := by rw [e_τ_337]; rfl
            have w11_τ_337 : τ_337.1 11 = τ_185.1 11 := by rw [e_τ_337]; rfl
            have w12_τ_337 : τ_337.1 12 = τ_185.1 12 := by rw [e_τ_337]; rfl
            have w13_τ_337 : τ_337.1 13 = τ_185.1 13 := by rw [e_τ_337]; rfl
            have w14_τ_337 : τ_337.1 14 = τ_185.1 14 := by rw [e_τ_337]; rfl
            have g1_τ_337 : τ_337.2.1 1 = τ_185.2.1 1 := by rw [e_τ_337]; rfl
            have g2_τ_337 : τ_337.2.1 2 = τ_185.2.1 2 := by rw [e_τ_337]; rfl
            have g3_τ_337 : τ_337.2.1 3 = τ_185.2.1 3 := by rw [e_τ_337]; rfl
            have g6_τ_337 : τ_337.2.1 6 = τ_185.2.1 6 := by rw [e_τ_337]; rfl
            have g7_τ_337 : τ_337.2.1 7 = τ_185.2.1 7 := by rw [e_τ_337]; rfl
            have g8_τ_337 : τ_337.2.1 8 = τ_185.2.1 8 := by rw [e_τ_337]; rfl
            have g9_τ_337 : τ_337.2.1 9 = τ_185.2.1 9 := by rw [e_τ_337]; rfl
            have g10_τ_337 : τ_337.2.1 10 = τ_185.2.1 10 := by rw [e_τ_337]; rfl
            have g11_τ_337 : τ_337.2.1 11 = τ_185.2.1 11 := by rw [e_τ_337]; rfl
            have g12_τ_337 : τ_337.2.1 12 = τ_185.2.1 12 := by rw [e_τ_337]; rfl
            have g14_τ_337 : τ_337.2.1 14 = τ_185.2.1 14 := by rw [e_τ_337]; rfl
            have g15_τ_337 : τ_337.2.1 15 = τ_185.2.1 15 := by rw [e_τ_337]; rfl
            have g18_τ_337 : τ_337.2.1 18 = τ_185.2.1 18 := by rw [e_τ_337]; rfl
            have g19_τ_337 : τ_337.2.1 19 = τ_185.2.1 19 := by rw [e_τ_337]; rfl
            have g21_τ_337 : τ_337.2.1 21 = τ_185.2.1 21 := by rw [e_τ_337]; rfl
            have g22_τ_337 : τ_337.2.1 22 = τ_185.2.1 22 := by rw [e_τ_337]; rfl
            have g25_τ_337 : τ_337.2.1 25 = τ_185.2.1 25 := by rw [e_τ_337]; rfl
            have g26_τ_337 : τ_337.2.1 26 = τ_185.2.1 26 := by rw [e_τ_337]; rfl
            have g51_τ_337 : τ_337.2.1 51 = τ_185.2.1 51 := by rw [e_τ_337]; rfl
            have g52_τ_337 : τ_337.2.1 52 = τ_185.2.1 52 := by rw [e_τ_337]; rfl
            have g53_τ_337 : τ_337.2.1 53 = τ_185.2.1 53 := by rw [e_τ_337]; rfl
            have g54_τ_337 : τ_337.2.1 54 = τ_185.2.1 54 := by rw [e_τ_337]; rfl
            have g55_τ_337 : τ_337.2.1 55 = τ_185.2.1 55 := by rw [e_τ_337]; rfl
            first | (have ca_τ_337 := congr (congrArg ca g9_τ_337) w3_τ_337) | skip
            first | (have o6_τ_337 := congrArg oc g6_τ_337) | skip
            first | (have o7_τ_337 := congrArg oc g7_τ_337) | skip
            have G1 : τ_337.2.1 1 = σ.2.1 1 := (g1_τ_337).trans G1
            have G2 : τ_337.2.1 2 = σ.2.1 2 := (g2_τ_337).trans G2
            have G3 : τ_337.2.1 3 = σ.2.1 3 := (g3_τ_337).trans G3
            have G14 : τ_337.2.1 14 = σ.2.1 14 := (g14_τ_337).trans G14
            have G15 : τ_337.2.1 15 = σ.2.1 15 := (g15_τ_337).trans G15
            have G18 : τ_337.2.1 18 = σ.2.1 18 := (g18_τ_337).trans G18
            have G19 : τ_337.2.1 19 = σ.2.1 19 := (g19_τ_337).trans G19
            have G21 : τ_337.2.1 21 = σ.2.1 21 := (g21_τ_337).trans G21
            have G22 : τ_337.2.1 22 = σ.2.1 22 := (g22_τ_337).trans G22
            have G25 : τ_337.2.1 25 = σ.2.1 25 := (g25_τ_337).trans G25
            have G26 : τ_337.2.1 26 = σ.2.1 26 := (g26_τ_337).trans G26
            have G51 : τ_337.2.1 51 = σ.2.1 51 := (g51_τ_337).trans G51
            have G52 : τ_337.2.1 52 = σ.2.1 52 := (g52_τ_337).trans G52
            have G53 : τ_337.2.1 53 = σ.2.1 53 := (g53_τ_337).trans G53
            have G54 : τ_337.2.1 54 = σ.2.1 54 := (g54_τ_337).trans G54
            have G55 : τ_337.2.1 55 = σ.2.1 55 := (g55_τ_337).trans G55
            have A1 : ∀ j, 0 ≤ τ_337.2.1 1 j ∧ τ_337.2.1 1 j ≤ 255 := fun j => hT.2 1 j
            have A2 : ∀ j, 0 ≤ τ_337.2.1 2 j ∧ τ_337.2.1 2 j ≤ 30000 := fun j => hT.2 2 j
            have A3 : ∀ j, 0 ≤ τ_337.2.1 3 j ∧ τ_337.2.1 3 j ≤ 60 := fun j => hT.2 3 j
            have A6 : ∀ j, (-1) ≤ τ_337.2.1 6 j ∧ τ_337.2.1 6 j ≤ 999 := fun j => hT.2 6 j
            have A7 : ∀ j, (-1) ≤ τ_337.2.1 7 j ∧ τ_337.2.1 7 j ≤ 1499 := fun j => hT.2 7 j
            have A8 : ∀ j, 0 ≤ τ_337.2.1 8 j ∧ τ_337.2.1 8 j ≤ 1 := fun j => hT.2 8 j
            have A9 : ∀ j, 0 ≤ τ_337.2.1 9 j ∧ τ_337.2.1 9 j ≤ 1 := fun j => hT.2 9 j
            have A10 : ∀ j, (-1) ≤ τ_337.2.1 10 j ∧ τ_337.2.1 10 j ≤ 999 := fun j => hT.2 10 j
            have A11 : ∀ j, (-1) ≤ τ_337.2.1 11 j ∧ τ_337.2.1 11 j ≤ 1499 := fun j => hT.2 11 j
            have A12 : ∀ j, 0 ≤ τ_337.2.1 12 j ∧ τ_337.2.1 12 j ≤ 1 := fun j => hT.2 12 j
            have A14 : ∀ j, 0 ≤ τ_337.2.1 14 j ∧ τ_337.2.1 14 j ≤ 30000 := fun j => hT.2 14 j
            have A15 : ∀ j, 0 ≤ τ_337.2.1 15 j ∧ τ_337.2.1 15 j ≤ 300 := fun j => hT.2 15 j
            have A18 : ∀ j, 0 ≤ τ_337.2.1 18 j ∧ τ_337.2.1 18 j ≤ 90000 := fun j => hT.2 18 j
            have A19 : ∀ j, 0 ≤ τ_337.2.1 19 j ∧ τ_337.2.1 19 j ≤ 60 := fun j => hT.2 19 j
            have A21 : ∀ j, 0 ≤ τ_337.2.1 21 j ∧ τ_337.2.1 21 j ≤ 20000 := fun j => hT.2 21 j
            have A22 : ∀ j, 0 ≤ τ_337.2.1 22 j ∧ τ_337.2.1 22 j ≤ 20000 := fun j => hT.2 22 j
            have A25 : ∀ j, 0 ≤ τ_337.2.1 25 j ∧ τ_337.2.1 25 j ≤ 20000 := fun j => hT.2 25 j
            have A26 : ∀ j, 0 ≤ τ_337.2.1 26 j ∧ τ_337.2.1 26 j ≤ 20000 := fun j => hT.2 26 j
            have A51 : ∀ j, 0 ≤ τ_337.2.1 51 j ∧ τ_337.2.1 51 j ≤ 1 := fun j => hT.2 51 j
            have A52 : ∀ j, 0 ≤ τ_337.2.1 52 j ∧ τ_337.2.1 52 j ≤ 1 := fun j => hT.2 52 j
            have A53 : ∀ j, 0 ≤ τ_337.2.1 53 j ∧ τ_337.2.1 53 j ≤ 1 := fun j => hT.2 53 j
            have A54 : ∀ j, (-1) ≤ τ_337.2.1 54 j ∧ τ_337.2.1 54 j ≤ 999 := fun j => hT.2 54 j
            have A55 : ∀ j, (-1) ≤ τ_337.2.1 55 j ∧ τ_337.2.1 55 j ≤ 1499 := fun j => hT.2 55 j
            have v2 : 0 ≤ τ_337.1 2 ∧ τ_337.1 2 ≤ 30000 := hT.1 2
            have v3 : 0 ≤ τ_337.1 3 ∧ τ_337.1 3 ≤ 1000 := hT.1 3
            have v4 : 0 ≤ τ_337.1 4 ∧ τ_337.1 4 ≤ 100 := hT.1 4
            have v5 : 0 ≤ τ_337.1 5 ∧ τ_337.1 5 ≤ 1500 := hT.1 5
            have v6 : 0 ≤ τ_337.1 6 ∧ τ_337.1 6 ≤ 30000 := hT.1 6
            have v7 : 0 ≤ τ_337.1 7 ∧ τ_337.1 7 ≤ 90000 := hT.1 7
            have v8 : 0 ≤ τ_337.1 8 ∧ τ_337.1 8 ≤ 20000 := hT.1 8
            have v9 : 0 ≤ τ_337.1 9 ∧ τ_337.1 9 ≤ 20000 := hT.1 9
            have v10 : (-1) ≤ τ_337.1 10 ∧ τ_337.1 10 ≤ 999 := hT.1 10
            have v11 : (-1) ≤ τ_337.1 11 ∧ τ_337.1 11 ≤ 999 := hT.1 11
            have v12 : 0 ≤ τ_337.1 12 ∧ τ_337.1 12 ≤ 1000 := hT.1 12
            have v13 : 0 ≤ τ_337.1 13 ∧ τ_337.1 13 ≤ 1500 := hT.1 13
            have v14 : 0 ≤ τ_337.1 14 ∧ τ_337.1 14 ≤ 1000 := hT.1 14
            refine h337 _ _ ?_
            replace hT := mT_v (i := 11) hT (show (-1) ≤ (τ_185.1 11) ∧ (τ_185.1 11) ≤ 999 from by (first | omega | (simp only [st_s] <;> omega) | assumption | omega | fail))
            refine ⟨_, K2_X13_clearTables hT, ?_⟩
            intro τ42 hn_τ42 hf_τ42 hq
            obtain ⟨hT, q40_1, q40_2⟩ := hq
            replace q40_1 : ∀ e : Int, 0 ≤ e → e < 4096 → τ42.2.1 6 e = -1 := q40_1
            replace q40_2 : ∀ e : Int, 0 ≤ e → e < 4096 → τ42.2.1 7 e = -1 := q40_2
            have w2_τ42 : τ42.1 2 = τ_337.1 2 := hf_τ42.1 2 (by decide)
            have w3_τ42 : τ42.1 3 = τ_337.1 3 := hf_τ42.1 3 (by decide)
            have w4_τ42 : τ42.1 4 = τ_337.1 4 := hf_τ42.1 4 (by decide)
            have w5_τ42 : τ42.1 5 = τ_337.1 5 := hf_τ42.1 5 (by decide)
            have w6_τ42 : τ42.1 6 = τ_337.1 6 := hf_τ42.1 6 (by decide)
            have w7_τ42 : τ42.1 7 = τ_337.1 7 := hf_τ42.1 7 (by decide)
            have w8_τ42 : τ42.1 8 = τ_337.1 8 := hf_τ42.1 8 (by decide)
            have w9_τ42 : τ42.1 9 = τ_337.1 9 := hf_τ42.1 9 (by decide)
            have w10_τ42 : τ42.1 10 = τ_337.1 10 := hf_τ42.1 10 (by decide)
            have w11_τ42 : τ42.1 11 = (τ_185.1 11) := hf_τ42.1 11 (by decide)
            have w12_τ42 : τ42.1 12 = τ_337.1 12 := hf_τ42.1 12 (by decide)
            have w13_τ42 : τ42.1 13 = τ_337.1 13 := hf_τ42.1 13 (by decide)
            have w14_τ42 : τ42.1 14 = τ_337.1 14 := hf_τ42.1 14 (by decide)
            have g1_τ42 : τ42.2.1 1 = τ_337.2.1 1 := hf_τ42.2.1 1 (by decide)
            have g2_τ42 : τ42.2.1 2 = τ_337.2.1 2 := hf_τ42.2.1 2 (by decide)
            have g3_τ42 : τ42.2.1 3 = τ_337.2.1 3 := hf_τ42.2.1 3 (by decide)
            have g8_τ42 : τ42.2.1 8 = τ_337.2.1 8 := hf_τ42.2.1 8 (by decide)
            have g9_τ42 : τ42.2.1 9 = τ_337.2.1 9 := hf_τ42.2.1 9 (by decide)
            have g10_τ42 : τ42.2.1 10 = τ_337.2.1 10 := hf_τ42.2.1 10 (by decide)
            have g11_τ42 : τ42.2.1 11 = τ_337.2.1 11 := hf_τ42.2.1 11 (by decide)
            have g12_τ42 : τ42.2.1 12 = τ_337.2.1 12 := hf_τ42.2.1 12 (by decide)
            have g14_τ42 : τ42.2.1 14 = τ_337.2.1 14 := hf_τ42.2.1 14 (by decide)
            have g15_τ42 : τ42.2.1 15 = τ_337.2.1 15 := hf_τ42.2.1 15 (by decide)
            have g18_τ42 : τ42.2.1 18 = τ_337.2.1 18 := hf_τ42.2.1 18 (by decide)
            have g19_τ42 : τ42.2.1 19 = τ_337.2.1 19 := hf_τ42.2.1 19 (by decide)
            have g21_τ42 : τ42.2.1 21 = τ_337.2.1 21 := hf_τ42.2.1 21 (by decide)
            have g22_τ42 : τ42.2.1 22 = τ_337.2.1 22 := hf_τ42.2.1 22 (by decide)
            have g25_τ42 : τ42.2.1 25 = τ_337.2.1 25 := hf_τ42.2.1 25 (by decide)
            have g26_τ42 : τ42.2.1 26 = τ_337.2.1 26 := hf_τ42.2.1 26 (by decide)
            have g51_τ42 : τ42.2.1 51 = τ_337.2.1 51 := hf_τ42.2.1 51 (by decide)
            have g52_τ42 : τ42.2.1 52 = τ_337.2.1 52 := hf_τ42.2.1 52 (by decide)
            have g53_τ42 : τ42.2.1 53 = τ_337.2.1 53 := hf_τ42.2.1 53 (by decide)
            have g54_τ42 : τ42.2.1 54 = τ_337.2.1 54 := hf_τ42.2.1 54 (by decide)
            have g55_τ42 : τ42.2.1 55 = τ_337.2.1 55 := hf_τ42.2.1 55 (by decide)
            first | (have ca_τ42 := congr (congrArg ca g9_τ42) w3_τ42) | skip
            first | (have o6_τ42 := congrArg oc g6_τ42) | skip
            first | (have o7_τ42 := congrArg oc g7_τ42) | skip
            have G1 : τ42.2.1 1 = σ.2.1 1 := (g1_τ42).trans G1
            have G2 : τ42.2.1 2 = σ.2.1 2 := (g2_τ42).trans G2
            have G3 : τ42.2.1 3 = σ.2.1 3 := (g3_τ42).trans G3
            have G14 : τ42.2.1 14 = σ.2.1 14 := (g14_τ42).trans G14
            have G15 : τ42.2.1 15 = σ.2.1 15 := (g15_τ42).trans G15
            have G18 : τ42.2.1 18 = σ.2.1 18 := (g18_τ42).trans G18
            have G19 : τ42.2.1 19 = σ.2.1 19 := (g19_τ42).trans G19
            have G21 : τ42.2.1 21 = σ.2.1 21 := (g21_τ42).trans G21
            have G22 : τ42.2.1 22 = σ.2.1 22 := (g22_τ42).trans G22
            have G25 : τ42.2.1 25 = σ.2.1 25 := (g25_τ42).trans G25
            have G26 : τ42.2.1 26 = σ.2.1 26 := (g26_τ42).trans G26
            have G51 : τ42.2.1 51 = σ.2.1 51 := (g51_τ42).trans G51
            have G52 : τ42.2.1 52 = σ.2.1 52 := (g52_τ42).trans G52
            have G53 : τ42.2.1 53 = σ.2.1 53 := (g53_τ42).trans G53
            have G54 : τ42.2.1 54 = σ.2.1 54 := (g54_τ42).trans G54
            have G55 : τ42.2.1 55 = σ.2.1 55 := (g55_τ42).trans G55
            have A1 : ∀ j, 0 ≤ τ42.2.1 1 j ∧ τ42.2.1 1 j ≤ 255 := fun j => hT.2 1 j
            have A2 : ∀ j, 0 ≤ τ42.2.1 2 j ∧ τ42.2.1 2 j ≤ 30000 := fun j => hT.2 2 j
            have A3 : ∀ j, 0 ≤ τ42.2.1 3 j ∧ τ42.2.1 3 j ≤ 60 := fun j => hT.2 3 j
            have A6 : ∀ j, (-1) ≤ τ42.2.1 6 j ∧ τ42.2.1 6 j ≤ 999 := fun j => hT.2 6 j
            have A7 : ∀ j, (-1) ≤ τ42.2.1 7 j ∧ τ42.2.1 7 j ≤ 1499 := fun j => hT.2 7 j
            have A8 : ∀ j, 0 ≤ τ42.2.1 8 j ∧ τ42.2.1 8 j ≤ 1 := fun j => hT.2 8 j
            have A9 : ∀ j, 0 ≤ τ42.2.1 9 j ∧ τ42.2.1 9 j ≤ 1 := fun j => hT.2 9 j
            have A10 : ∀ j, (-1) ≤ τ42.2.1 10 j ∧ τ42.2.1 10 j ≤ 999 := fun j => hT.2 10 j
            have A11 : ∀ j, (-1) ≤ τ42.2.1 11 j ∧ τ42.2.1 11 j ≤ 1499 := fun j => hT.2 11 j
            have A12 : ∀ j, 0 ≤ τ42.2.1 12 j ∧ τ42.2.1 12 j ≤ 1 := fun j => hT.2 12 j
            have A14 : ∀ j, 0 ≤ τ42.2.1 14 j ∧ τ42.2.1 14 j ≤ 30000 := fun j => hT.2 14 j
            have A15 : ∀ j, 0 ≤ τ42.2.1 15 j ∧ τ42.2.1 15 j ≤ 300 := fun j => hT.2 15 j
            have A18 : ∀ j, 0 ≤ τ42.2.1 18 j ∧ τ42.2.1 18 j ≤ 90000 := fun j => hT.2 18 j
            have A19 : ∀ j, 0 ≤ τ42.2.1 19 j ∧ τ42.2.1 19 j ≤ 60 := fun j => hT.2 19 j
            have A21 : ∀ j, 0 ≤ τ42.2.1 21 j ∧ τ42.2.1 21 j ≤ 20000 := fun j => hT.2 21 j
            have A22 : ∀ j, 0 ≤ τ42.2.1 22 j ∧ τ42.2.1 22 j ≤ 20000 := fun j => hT.2 22 j
            have A25 : ∀ j, 0 ≤ τ42.2.1 25 j ∧ τ42.2.1 25 j ≤ 20000 := fun j => hT.2 25 j
            have A26 : ∀ j, 0 ≤ τ42.2.1 26 j ∧ τ42.2.1 26 j ≤ 20000 := fun j => hT.2 26 j
            have A51 : ∀ j, 0 ≤ τ42.2.1 51 j ∧ τ42.2.1 51 j ≤ 1 := fun j => hT.2 51 j
            have A52 : ∀ j, 0 ≤ τ42.2.1 52 j ∧ τ42.2.1 52 j ≤ 1 := fun j => hT.2 52 j
            have A53 : ∀ j, 0 ≤ τ42.2.1 53 j ∧ τ42.2.1 53 j ≤ 1 := fun j => hT.2 53 j
            have A54 : ∀ j, (-1) ≤ τ42.2.1 54 j ∧ τ42.2.1 54 j ≤ 999 := fun j => hT.2 54 j
            have A55 : ∀ j, (-1) ≤ τ42.2.1 55 j ∧ τ42.2.1 55 j ≤ 1499 := fun j => hT.2 55 j
            have v2 : 0 ≤ τ42.1 2 ∧ τ42.1 2 ≤ 30000 := hT.1 2
            have v3 : 0 ≤ τ42.1 3 ∧ τ42.1 3 ≤ 1000 := hT.1 3
            have v4 : 0 ≤ τ42.1 4 ∧ τ42.1 4 ≤ 100 := hT.1 4
            have v5 : 0 ≤ τ42.1 5 ∧ τ42.1 5 ≤ 1500 := hT.1 5
            have v6 : 0 ≤ τ42.1 6 ∧ τ42.1 6 ≤ 30000 := hT.1 6
            have v7 : 0 ≤ τ42.1 7 ∧ τ42.1 7 ≤ 90000 := hT.1 7
            have v8 : 0 ≤ τ42.1 8 ∧ τ42.1 8 ≤ 20000 := hT.1 8
            have v9 : 0 ≤ τ42.1 9 ∧ τ42.1 9 ≤ 20000 := hT.1 9
            have v10 : (-1) ≤ τ42.1 10 ∧ τ42.1 10 ≤ 999 := hT.1 10
            have v11 : (-1) ≤ τ42.1 11 ∧ τ42.1 11 ≤ 999 := hT.1 11
            have v12 : 0 ≤ τ42.1 12 ∧ τ42.1 12 ≤ 1000 := hT.1 12
            have v13 : 0 ≤ τ42.1 13 ∧ τ42.1 13 ≤ 1500 := hT.1 13
            have v14 : 0 ≤ τ42.1 14 ∧ τ42.1 14 ≤ 1000 := hT.1 14
            exact l_347 ((1001 - 0 : Int).toNat + 1) _ _ (show (1001 - 0 : Int) < (((1001 - 0 : Int).toNat + 1 : Nat) : Int) from by ((first | omega | (simp only [st_s] <;> omega) | assumption | omega | fail))) hT G1 G2 G3 G14 G15 G18 G19 G21 G22 G25 G26 G51 G52 G53 G54 G55 (show (τ42.1 3) = n1 from by (first | omega | (simp only [st_s] <;> omega) | assumption | omega | fail)) (show (τ42.1 5) = n2 from by (first | omega | (simp only [st_s] <;> omega) | assumption | omega | fail)) (show (τ42.1 12) ≤ n4 from by (first | omega | (simp only [st_s] <;> omega) | assumption | omega | fail)) (show (τ42.1 13) ≤ n5 from by (first | omega | (simp only [st_s] <;> omega) | assumption | omega | fail)) (show (n2 = 0 ∨ (τ42.1 6) = σ.2.1 14 (n2 - 1) + σ.2.1 15 (n2 - 1)) from by (first | omega | (simp only [st_s] <;> omega) | assumption | omega | fail)) (show (n2 = 0 ∨ (τ42.1 7) = σ.2.1 18 (n2 - 1) + σ.2.1 19 (n2 - 1)) ∧ (τ42.1 7) ≤ 60 * n2 from by (first | omega | (simp only [st_s] <;> omega) | assumption | omega | fail)) (show (n2 = 0 ∨ (τ42.1 8) = σ.2.1 21 (n2 - 1) + σ.2.1 22 (n2 - 1)) from by (first | omega | (simp only [st_s] <;> omega) | assumption | omega | fail)) (show (n2 = 0 ∨ (τ42.1 9) = σ.2.1 25 (n2 - 1) + σ.2.1 26 (n2 - 1)) from by (first | omega | (simp only [st_s] <;> omega) | assumption | omega | fail)) (show 0 ≤ 0 ∧ 0 ≤ n1 from by (first | omega | (simp only [st_s] <;> omega) | assumption | omega | fail)) (show (τ42.1 4) = ca (σ.2.1 53) n1 from by (first | omega | (rw [show n1 = u7_185 from by omega]; omega) | fail)) (show j_e0 n1 (σ.2.1 53) (τ42.2.1 12) from by (first | (rw [g12_τ46]; assumption) | (rw [g12_τ42, g12_τ_337]; exact j_e0w i185_11 (by omega)) | fail)) (show j_e0 n1 (σ.2.1 52) (τ42.2.1 9) from by (first | (rw [g9_τ46]; assumption) | (rw [g9_τ42, g9_τ_337]; exact j_e0w i185_12 (by omega)) | fail)) (show oc (τ42.2.1 6) ≤ 0 from by (first | omega | (have := oc_0 q40_1; omega) | fail)) (show j_l2 (τ42.2.1 6) n1 from by (first | (have q9 := q44_2; obtain ⟨e, he⟩ := q9; rw [he]; exact j_l2s i347_14 (Int.le_refl _) (by omega)) | (intro e h0 h1; rw [q40_1 e h0 h1]; omega) | fail)) (show oc (τ42.2.1 7) = 0 from by (first | omega | exact oc_0 q40_2 | fail)) (show ((σ.1 10) < n1 → (τ42.1 10) = (σ.1 10)) ∧ (n1 ≤ (σ.1 10) → (τ42.1 10) = -1) from by (first | omega | (simp only [st_s] <;> omega) | assumption | omega | fail)) (show ((σ.1 11) < n1 → (τ42.1 11) = (σ.1 11)) ∧ (n1 ≤ (σ.1 11) → (τ42.1 11) = -1) from by (first | omega | (simp only [st_s] <;> omega) | assumption | omega | fail)) (show n5 ≤ (σ.1 13) → (τ42.1 13) = n5 from by (first | omega | (simp only [st_s] <;> omega) | assumption | omega | fail)) (show (τ42.1 2) = n3 from by (first | omega | (simp only [st_s] <;> omega) | assumption | omega | fail)) (show j_eq 0 (σ.2.1 8) (τ42.2.1 8) from by (first | (rw [g8_τ46]; exact i347_20) | (rw [g8_τ42, g8_τ_337]; exact i185_17) | fail)) (show j_e0 n1 (σ.2.1 51) (τ42.2.1 8) from by (first | (rw [g8_τ46]; exact i347_21) | (rw [g8_τ42, g8_τ_337]; exact j_e0w i185_18 (by omega)) | fail)) (show j_e0 n1 (σ.2.1 54) (τ42.2.1 10) from by (first | (rw [g10_τ46]; exact i347_22) | (rw [g10_τ42, g10_τ_337]; exact j_e0w i185_19 (by omega)) | fail)) (show j_e0 n1 (σ.2.1 55) (τ42.2.1 11) from by (first | (rw [g11_τ46]; exact i347_23) | (rw [g11_τ42, g11_τ_337]; exact j_e0w i185_20 (by omega)) | fail)) (show n_tb 0 (σ.2.1 1) (σ.2.1 2) (σ.2.1 3) (τ42.2.1 6) from by (first | exact tb46 | (intro s a b; exfalso; omega) | fail))
          ·
            obtain ⟨τ_337, e_τ_337⟩ : ∃ z : S0, z = s_v τ_185 10 (τ_185.1 10) := ⟨_, rfl⟩
            rw [← e_τ_337]
            replace hT : m_T τ_337 := by rw [e_τ_337]; exact hT
            have w2_τ_337 : τ_337.1 2 = τ_185.1 2 := by rw [e_τ_337]; rfl
            have w3_τ_337 : τ_337.1 3 = τ_185.1 3 := by rw [e_τ_337]; rfl
            have w4_τ_337 : τ_337.1 4 = τ_185.1 4 := by rw [e_τ_337]; rfl
            have w5_τ_337 : τ_337.1 5 = τ_185.1 5 := by rw [e_τ_337]; rfl
            have w6_τ_337 : τ_337.1 6 = τ_185.1 6 := by rw [e_τ_337]; rfl
            have w7_τ_337 : τ_337.1 7 = τ_185.1 7 := by rw [e_τ_337]; rfl
            have w8_τ_337 : τ_337.1 8 = τ_185.1 8 := by rw [e_τ_337]; rfl
            have w9_τ_337 : τ_337.1 9 = τ_185.1 9 := by rw [e_τ_337]; rfl
            have w10_τ_337 : τ_337.1 10 = (τ_185.1 10) := by rw [e_τ_337]; rfl
            have w11_τ_337 : τ_337.1 11 = τ_185.1 11 := by rw [e_τ_337]; rfl
            have w12_τ_337 : τ_337.1 12 = τ_185.1 12 := by rw [e_τ_337]; rfl
            have w13_τ_337 : τ_337.1 13 = τ_185.1 13 := by rw [e_τ_337]; rfl
            have w14_τ_337 : τ_337.1 14 = τ_185.1 14 := by rw [e_τ_337]; rfl
            have g1_τ_337 : τ_337.2.1 1 = τ_185.2.1 1 := by rw [e_τ_337]; rfl
            have g2_τ_337 : τ_337.2.1 2 = τ_185.2.1 2 := by rw [e_τ_337]; rfl
            have g3_τ_337 : τ_337.2.1 3 = τ_185.2.1 3 := by rw [e_τ_337]; rfl
            have g6_τ_337 : τ_337.2.1 6 = τ_185.2.1 6 := by rw [e_τ_337]; rfl
            have g7_τ_337 : τ_337.2.1 7 = τ_185.2.1 7 := by rw [e_τ_337]; rfl
            have g8_τ_337 : τ_337.2.1 8 = τ_185.2.1 8 := by rw [e_τ_337]; rfl
            have g9_τ_337 : τ_337.2.1 9 = τ_185.2.1 9 := by rw [e_τ_337]; rfl
            have g10_τ_337 : τ_337.2.1 10 = τ_185.2.1 10 := by rw [e_τ_337]; rfl
            have g11_τ_337 : τ_337.2.1 11 = τ_185.2.1 11 := by rw [e_τ_337]; rfl
            have g12_τ_337 : τ_337.2.1 12 = τ_185.2.1 12 := by rw [e_τ_337]; rfl
            have g14_τ_337 : τ_337.2.1 14 = τ_185.2.1 14 := by rw [e_τ_337]; rfl
            have g15_τ_337 : τ_337.2.1 15 = τ_185.2.1 15 := by rw [e_τ_337]; rfl
            have g18_τ_337 : τ_337.2.1 18 = τ_185.2.1 18 := by rw [e_τ_337]; rfl
            have g19_τ_337 : τ_337.2.1 19 = τ_185.2.1 19 := by rw [e_τ_337]; rfl
            have g21_τ_337 : τ_337.2.1 21 = τ_185.2.1 21 := by rw [e_τ_337]; rfl
            have g22_τ_337 : τ_337.2.1 22 = τ_185.2.1 22 := by rw [e_τ_337]; rfl
            have g25_τ_337 : τ_337.2.1 25 = τ_185.2.1 25 := by rw [e_τ_337]; rfl
            have g26_τ_337 : τ_337.2.1 26 = τ_185.2.1 26 := by rw [e_τ_337]; rfl
            have g51_τ_337 : τ_337.2.1 51 = τ_185.2.1 51 := by rw [e_τ_337]; rfl
            have g52_τ_337 : τ_337.2.1 52 = τ_185.2.1 52 := by rw [e_τ_337]; rfl
            have g53_τ_337 : τ_337.2.1 53 = τ_185.2.1 53 := by rw [e_τ_337]; rfl
            have g54_τ_337 : τ_337.2.1 54 = τ_185.2.1 54 := by rw [e_τ_337]; rfl
            have g55_τ_337 : τ_337.2.1 55 = τ_185.2.1 55 := by rw [e_τ_337]; rfl
            first | (have ca_τ_337 := congr (congrArg ca g9_τ_337) w3_τ_337) | skip
            first | (have o6_τ_337 := congrArg oc g6_τ_337) | skip
            first | (have o7_τ_337 := congrArg oc g7_τ_337) | skip
            have G1 : τ_337.2.1 1 = σ.2.1 1 := (g1_τ_337).trans G1
            have G2 : τ_337.2.1 2 = σ.2.1 2 := (g2_τ_337).trans G2
            have G3 : τ_337.2.1 3 = σ.2.1 3 := (g3_τ_337).trans G3
            have G14 : τ_337.2.1 14 = σ.2.1 14 := (g14_τ_337).trans G14
            have G15 : τ_337.2.1 15 = σ.2.1 15 := (g15_τ_337).trans G15
            have G18 : τ_337.2.1 18 = σ.2.1 18 := (g18_τ_337).trans G18
            have G19 : τ_337.2.1 19 = σ.2.1 19 := (g19_τ_337).trans G19
            have G21 : τ_337.2.1 21 = σ.2.1 21 := (g21_τ_337).trans G21
            have G22 : τ_337.2.1 22 = σ.2.1 22 := (g22_τ_337).trans G22
            have G25 : τ_337.2.1 25 = σ.2.1 25 := (g25_τ_337).trans G25
            have G26 : τ_337.2.1 26 = σ.2.1 26 := (g26_τ_337).trans G26
            have G51 : τ_337.2.1 51 = σ.2.1 51 := (g51_τ_337).trans G51
            have G52 : τ_337.2.1 52 = σ.2.1 52 := (g52_τ_337).trans G52
            have G53 : τ_337.2.1 53 = σ.2.1 53 := (g53_τ_337).trans G53
            have G54 : τ_337.2.1 54 = σ.2.1 54 := (g54_τ_337).trans G54
            have G55 : τ_337.2.1 55 = σ.2.1 55 := (g55_τ_337).trans G55
            have A1 : ∀ j, 0 ≤ τ_337.2.1 1 j ∧ τ_337.2.1 1 j ≤ 255 := fun j => hT.2 1 j
            have A2 : ∀ j, 0 ≤ τ_337.2.1 2 j ∧ τ_337.2.1 2 j ≤ 30000 := fun j => hT.2 2 j
            have A3 : ∀ j, 0 ≤ τ_337.2.1 3 j ∧ τ_337.2.1 3 j ≤ 60 := fun j => hT.2 3 j
            have A6 : ∀ j, (-1) ≤ τ_337.2.1 6 j ∧ τ_337.2.1 6 j ≤ 999 := fun j => hT.2 6 j
            have A7 : ∀ j, (-1) ≤ τ_337.2.1 7 j ∧ τ_337.2.1 7 j ≤ 1499 := fun j => hT.2 7 j
            have A8 : ∀ j, 0 ≤ τ_337.2.1 8 j ∧ τ_337.2.1 8 j ≤ 1 := fun j => hT.2 8 j
            have A9 : ∀ j, 0 ≤ τ_337.2.1 9 j ∧ τ_337.2.1 9 j ≤ 1 := fun j => hT.2 9 j
            have A10 : ∀ j, (-1) ≤ τ_337.2.1 10 j ∧ τ_337.2.1 10 j ≤ 999 := fun j => hT.2 10 j
            have A11 : ∀ j, (-1) ≤ τ_337.2.1 11 j ∧ τ_337.2.1 11 j ≤ 1499 := fun j => hT.2 11 j
            have A12 : ∀ j, 0 ≤ τ_337.2.1 12 j ∧ τ_337.2.1 12 j ≤ 1 := fun j => hT.2 12 j
            have A14 : ∀ j, 0 ≤ τ_337.2.1 14 j ∧ τ_337.2.1 14 j ≤ 30000 := fun j => hT.2 14 j
            have A15 : ∀ j, 0 ≤ τ_337.2.1 15 j ∧ τ_337.2.1 15 j ≤ 300 := fun j => hT.2 15 j
            have A18 : ∀ j, 0 ≤ τ_337.2.1 18 j ∧ τ_337.2.1 18 j ≤ 90000 := fun j => hT.2 18 j
            have A19 : ∀ j, 0 ≤ τ_337.2.1 19 j ∧ τ_337.2.1 19 j ≤ 60 := fun j => hT.2 19 j
            have A21 : ∀ j, 0 ≤ τ_337.2.1 21 j ∧ τ_337.2.1 21 j ≤ 20000 := fun j => hT.2 21 j
            have A22 : ∀ j, 0 ≤ τ_337.2.1 22 j ∧ τ_337.2.1 22 j ≤ 20000 := fun j => hT.2 22 j
            have A25 : ∀ j, 0 ≤ τ_337.2.1 25 j ∧ τ_337.2.1 25 j ≤ 20000 := fun j => hT.2 25 j
            have A26 : ∀ j, 0 ≤ τ_337.2.1 26 j ∧ τ_337.2.1 26 j ≤ 20000 := fun j => hT.2 26 j
            have A51 : ∀ j, 0 ≤ τ_337.2.1 51 j ∧ τ_337.2.1 51 j ≤ 1 := fun j => hT.2 51 j
            have A52 : ∀ j, 0 ≤ τ_337.2.1 52 j ∧ τ_337.2.1 52 j ≤ 1 := fun j => hT.2 52 j
            have A53 : ∀ j, 0 ≤ τ_337.2.1 53 j ∧ τ_337.2.1 53 j ≤ 1 := fun j => hT.2 53 j
            have A54 : ∀ j, (-1) ≤ τ_337.2.1 54 j ∧ τ_337.2.1 54 j ≤ 999 := fun j => hT.2 54 j
            have A55 : ∀ j, (-1) ≤ τ_337.2.1 55 j ∧ τ_337.2.1 55 j ≤ 1499 := fun j => hT.2 55 j
            have v2 : 0 ≤ τ_337.1 2 ∧ τ_337.1 2 ≤ 30000 := hT.1 2
            have v3 : 0 ≤ τ_337.1 3 ∧ τ_337.1 3 ≤ 1000 := hT.1 3
            have v4 : 0 ≤ τ_337.1 4 ∧ τ_337.1 4 ≤ 100 := hT.1 4
            have v5 : 0 ≤ τ_337.1 5 ∧ τ_337.1 5 ≤ 1500 := hT.1 5
            have v6 : 0 ≤ τ_337.1 6 ∧ τ_337.1 6 ≤ 30000 := hT.1 6
            have v7 : 0 ≤ τ_337.1 7 ∧ τ_337.1 7 ≤ 90000 := hT.1 7
            have v8 : 0 ≤ τ_337.1 8 ∧ τ_337.1 8 ≤ 20000 := hT.1 8
            have v9 : 0 ≤ τ_337.1 9 ∧ τ_337.1 9 ≤ 20000 := hT.1 9
            have v10 : (-1) ≤ τ_337.1 10 ∧ τ_337.1 10 ≤ 999 := hT.1 10
            have v11 : (-1) ≤ τ_337.1 11 ∧ τ_337.1 11 ≤ 999 := hT.1 11
            have v12 : 0 ≤ τ_337.1 12 ∧ τ_337.1 12 ≤ 1000 := hT.1 12
            have v13 : 0 ≤ τ_337.1 13 ∧ τ_337.1 13 ≤ 1500 := hT.1 13
            have v14 : 0 ≤ τ_337.1 14 ∧ τ_337.1 14 ≤ 1000 := hT.1 14
            refine h337 _ _ ?_
            replace hT := mT_v (i := 11) hT (show (-1 : Int) ≤ (-1) ∧ (-1) ≤ 999 from by (first | omega | (simp only [st_s] <;> omega) | assumption | omega | fail))
            refine ⟨_, K2_X13_clearTables hT, ?_⟩
            intro τ42 hn_τ42 hf_τ42 hq
            obtain ⟨hT, q40_1, q40_2⟩ := hq
            replace q40_1 : ∀ e : Int, 0 ≤ e → e < 4096 → τ42.2.1 6 e = -1 := q40_1
            replace q40_2 : ∀ e : Int, 0 ≤ e → e < 4096 → τ42.2.1 7 e = -1 := q40_2
            have w2_τ42 : τ42.1 2 = τ_337.1 2 := hf_τ42.1 2 (by decide)
            have w3_τ42 : τ42.1 3 = τ_337.1 3 := hf_τ42.1 3 (by decide)
            have w4_τ42 : τ42.1 4 = τ_337.1 4 := hf_τ42.1 4 (by decide)
            have w5_τ42 : τ42.1 5 = τ_337.1 5 := hf_τ42.1 5 (by decide)
            have w6_τ42 : τ42.1 6 = τ_337.1 6 := hf_τ42.1 6 (by decide)
            have w7_τ42 : τ42.1 7 = τ_337.1 7 := hf_τ42.1 7 (by decide)
            have w8_τ42 : τ42.1 8 = τ_337.1 8 := hf_τ42.1 8 (by decide)
            have w9_τ42 : τ42.1 9 = τ_337.1 9 := hf_τ42.1 9 (by decide)
            have w10_τ42 : τ42.1 10 = τ_337.1 10 := hf_τ42.1 10 (by decide)
            have w11_τ42 : τ42.1 11 = (-1) := hf_τ42.1 11 (by decide)
            have w12_τ42 : τ42.1 12 = τ_337.1 12 := hf_τ42.1 12 (by decide)
            have w13_τ42 : τ42.1 13 = τ_337.1 13 := hf_τ42.1 13 (by decide)
            have w14_τ42 : τ42.1 14 = τ_337.1 14 := hf_τ42.1 14 (by decide)
            have g1_τ42 : τ42.2.1 1 = τ_337.2.1 1 := hf_τ42.2.1 1 (by decide)
            have g2_τ42 : τ42.2.1 2 = τ_337.2.1 2 := hf_τ42.2.1 2 (by decide)
            have g3_τ42 : τ42.2.1 3 = τ_337.2.1 3 := hf_τ42.2.1 3 (by decide)
            have g8_τ42 : τ42.2.1 8 = τ_337.2.1 8 := hf_τ42.2.1 8 (by decide)
            have g9_τ42 : τ42.2.1 9 = τ_337.2.1 9 := hf_τ42.2.1 9 (by decide)
            have g10_τ42 : τ42.2.1 10 = τ_337.2.1 10 := hf_τ42.2.1 10 (by decide)
            have g11_τ42 : τ42.2.1 11 = τ_337.2.1 11 := hf_τ42.2.1 11 (by decide)
            have g12_τ42 : τ42.2.1 12 = τ_337.2.1 12 := hf_τ42.2.1 12 (by decide)
            have g14_τ42 : τ42.2.1 14 = τ_337.2.1 14 := hf_τ42.2.1 14 (by decide)
            have g15_τ42 : τ42.2.1 15 = τ_337.2.1 15 := hf_τ42.2.1 15 (by decide)
            have g18_τ42 : τ42.2.1 18 = τ_337.2.1 18 := hf_τ42.2.1 18 (by decide)
            have g19_τ42 : τ42.2.1 19 = τ_337.2.1 19 := hf_τ42.2.1 19 (by decide)
            have g21_τ42 : τ42.2.1 21 = τ_337.2.1 21 := hf_τ42.2.1 21 (by decide)
            have g22_τ42 : τ42.2.1 22 = τ_337.2.1 22 := hf_τ42.2.1 22 (by decide)
            have g25_τ42 : τ42.2.1 25 = τ_337.2.1 25 := hf_τ42.2.1 25 (by decide)
            have g26_τ42 : τ42.2.1 26 = τ_337.2.1 26 := hf_τ42.2.1 26 (by decide)
            have g51_τ42 : τ42.2.1 51 = τ_337.2.1 51 := hf_τ42.2.1 51 (by decide)
            have g52_τ42 : τ42.2.1 52 = τ_337.2.1 52 := hf_τ42.2.1 52 (by decide)
            have g53_τ42 : τ42.2.1 53 = τ_337.2.1 53 := hf_τ42.2.1 53 (by decide)
            have g54_τ42 : τ42.2.1 54 = τ_337.2.1 54 := hf_τ42.2.1 54 (by decide)
            have g55_τ42 : τ42.2.1 55 = τ_337.2.1 55 := hf_τ42.2.1 55 (by decide)
            first | (have ca_τ42 := congr (congrArg ca g9_τ42) w3_τ42) | skip
            first | (have o6_τ42 := congrArg oc g6_τ42) | skip
            first | (have o7_τ42 := congrArg oc g7_τ42) | skip
            have G1 : τ42.2.1 1 = σ.2.1 1 := (g1_τ42).trans G1
            have G2 : τ42.2.1 2 = σ.2.1 2 := (g2_τ42).trans G2
            have G3 : τ42.2.1 3 = σ.2.1 3 := (g3_τ42).trans G3
            have G14 : τ42.2.1 14 = σ.2.1 14 := (g14_τ42).trans G14
            have G15 : τ42.2.1 15 = σ.2.1 15 := (g15_τ42).trans G15
            have G18 : τ42.2.1 18 = σ.2.1 18 := (g18_τ42).trans G18
            have G19 : τ42.2.1 19 = σ.2.1 19 := (g19_τ42).trans G19
            have G21 : τ42.2.1 21 = σ.2.1 21 := (g21_τ42).trans G21
            have G22 : τ42.2.1 22 = σ.2.1 22 := (g22_τ42).trans G22
            have G25 : τ42.2.1 25 = σ.2.1 25 := (g25_τ42).trans G25
            have G26 : τ42.2.1 26 = σ.2.1 26 := (g26_τ42).trans G26
            have G51 : τ42.2.1 51 = σ.2.1 51 := (g51_τ42).trans G51
            have G52 : τ42.2.1 52 = σ.2.1 52 := (g52_τ42).trans G52
            have G53 : τ42.2.1 53 = σ.2.1 53 := (g53_τ42).trans G53
            have G54 : τ42.2.1 54 = σ.2.1 54 := (g54_τ42).trans G54
            have G55 : τ42.2.1 55 = σ.2.1 55 := (g55_τ42).trans G55
            have A1 : ∀ j, 0 ≤ τ42.2.1 1 j ∧ τ42.2.1 1 j ≤ 255 := fun j => hT.2 1 j
            have A2 : ∀ j, 0 ≤ τ42.2.1 2 j ∧ τ42.2.1 2 j ≤ 30000 := fun j => hT.2 2 j
            have A3 : ∀ j, 0 ≤ τ42.2.1 3 j ∧ τ42.2.1 3 j ≤ 60 := fun j => hT.2 3 j
            have A6 : ∀ j, (-1) ≤ τ42.2.1 6 j ∧ τ42.2.1 6 j ≤ 999 := fun j => hT.2 6 j
            have A7 : ∀ j, (-1) ≤ τ42.2.1 7 j ∧ τ42.2.1 7 j ≤ 1499 := fun j => hT.2 7 j
            have A8 : ∀ j, 0 ≤ τ42.2.1 8 j ∧ τ42.2.1 8 j ≤ 1 := fun j => hT.2 8 j
            have A9 : ∀ j, 0 ≤ τ42.2.1 9 j ∧ τ42.2.1 9 j ≤ 1 := fun j => hT.2 9 j
            have A10 : ∀ j, (-1) ≤ τ42.2.1 10 j ∧ τ42.2.1 10 j ≤ 999 := fun j => hT.2 10 j
            have A11 : ∀ j, (-1) ≤ τ42.2.1 11 j ∧ τ42.2.1 11 j ≤ 1499 := fun j => hT.2 11 j
            have A12 : ∀ j, 0 ≤ τ42.2.1 12 j ∧ τ42.2.1 12 j ≤ 1 := fun j => hT.2 12 j
            have A14 : ∀ j, 0 ≤ τ42.2.1 14 j ∧ τ42.2.1 14 j ≤ 30000 := fun j => hT.2 14 j
            have A15 : ∀ j, 0 ≤ τ42.2.1 15 j ∧ τ42.2.1 15 j ≤ 300 := fun j => hT.2 15 j
            have A18 : ∀ j, 0 ≤ τ42.2.1 18 j ∧ τ42.2.1 18 j ≤ 90000 := fun j => hT.2 18 j
            have A19 : ∀ j, 0 ≤ τ42.2.1 19 j ∧ τ42.2.1 19 j ≤ 60 := fun j => hT.2 19 j
            have A21 : ∀ j, 0 ≤ τ42.2.1 21 j ∧ τ42.2.1 21 j ≤ 20000 := fun j => hT.2 21 j
            have A22 : ∀ j, 0 ≤ τ42.2.1 22 j ∧ τ42.2.1 22 j ≤ 20000 := fun j => hT.2 22 j
            have A25 : ∀ j, 0 ≤ τ42.2.1 25 j ∧ τ42.2.1 25 j ≤ 20000 := fun j => hT.2 25 j
            have A26 : ∀ j, 0 ≤ τ42.2.1 26 j ∧ τ42.2.1 26 j ≤ 20000 := fun j => hT.2 26 j
            have A51 : ∀ j, 0 ≤ τ42.2.1 51 j ∧ τ42.2.1 51 j ≤ 1 := fun j => hT.2 51 j
            have A52 : ∀ j, 0 ≤ τ42.2.1 52 j ∧ τ42.2.1 52 j ≤ 1 := fun j => hT.2 52 j
            have A53 : ∀ j, 0 ≤ τ42.2.1 53 j ∧ τ42.2.1 53 j ≤ 1 := fun j => hT.2 53 j
            have A54 : ∀ j, (-1) ≤ τ42.2.1 54 j ∧ τ42.2.1 54 j ≤ 999 := fun j => hT.2 54 j
            have A55 : ∀ j, (-1) ≤ τ42.2.1 55 j ∧ τ42.2.1 55 j ≤ 1499 := fun j => hT.2 55 j
            have v2 : 0 ≤ τ42.1 2 ∧ τ42.1 2 ≤ 30000 := hT.1 2
            have v3 : 0 ≤ τ42.1 3 ∧ τ42.1 3 ≤ 1000 := hT.1 3
            have v4 : 0 ≤ τ42.1 4 ∧ τ42.1 4 ≤ 100 := hT.1 4
            have v5 : 0 ≤ τ42.1 5 ∧ τ42.1 5 ≤ 1500 := hT.1 5
            have v6 : 0 ≤ τ42.1 6 ∧ τ42.1 6 ≤ 30000 := hT.1 6
            have v7 : 0 ≤ τ42.1 7 ∧ τ42.1 7 ≤ 90000 := hT.1 7
            have v8 : 0 ≤ τ42.1 8 ∧ τ42.1 8 ≤ 20000 := hT.1 8
            have v9 : 0 ≤ τ42.1 9 ∧ τ42.1 9 ≤ 20000 := hT.1 9
            have v10 : (-1) ≤ τ42.1 10 ∧ τ42.1 10 ≤ 999 := hT.1 10
            have v11 : (-1) ≤ τ42.1 11 ∧ τ42.1 11 ≤ 999 := hT.1 11
            have v12 : 0 ≤ τ42.1 12 ∧ τ42.1 12 ≤ 1000 := hT.1 12
            have v13 : 0 ≤ τ42.1 13 ∧ τ42.1 13 ≤ 1500 := hT.1 13
            have v14 : 0 ≤ τ42.1 14 ∧ τ42.1 14 ≤ 1000 := hT.1 14
            exact l_347 ((1001 - 0 : Int).toNat + 1) _ _ (show (1001 - 0 : Int) < (((1001 - 0 : Int).toNat + 1 : Nat) : Int) from by ((first | omega | (simp only [st_s] <;> omega) | assumption | omega | fail))) hT G1 G2 G3 G14 G15 G18 G19 G21 G22 G25 G26 G51 G52 G53 G54 G55 (show (τ42.1 3) = n1 from by (first | omega | (simp only [st_s] <;> omega) | assumption | omega | fail)) (show (τ42.1 5) = n2 from by (first | omega | (simp only [st_s] <;> omega) | assumption | omega | fail)) (show (τ42.1 12) ≤ n4 from by (first | omega | (simp only [st_s] <;> omega) | assumption | omega | fail)) (show (τ42.1 13) ≤ n5 from by (first | omega | (simp only [st_s] <;> omega) | assumption | omega | fail)) (show (n2 = 0 ∨ (τ42.1 6) = σ.2.1 14 (n2 - 1) + σ.2.1 15 (n2 - 1)) from by (first | omega | (simp only [st_s] <;> omega) | assumption | omega | fail)) (show (n2 = 0 ∨ (τ42.1 7) = σ.2.1 18 (n2 - 1) + σ.2.1 19 (n2 - 1)) ∧ (τ42.1 7) ≤ 60 * n2 from by (first | omega | (simp only [st_s] <;> omega) | assumption | omega | fail)) (show (n2 = 0 ∨ (τ42.1 8) = σ.2.1 21 (n2 - 1) + σ.2.1 22 (n2 - 1)) from by (first | omega | (simp only [st_s] <;> omega) | assumption | omega | fail)) (show (n2 = 0 ∨ (τ42.1 9) = σ.2.1 25 (n2 - 1) + σ.2.1 26 (n2 - 1)) from by (first | omega | (simp only [st_s] <;> omega) | assumption | omega | fail)) (show 0 ≤ 0 ∧ 0 ≤ n1 from by (first | omega | (simp only [st_s] <;> omega) | assumption | omega | fail)) (show (τ42.1 4) = ca (σ.2.1 53) n1 from by (first | omega | (rw [show n1 = u7_185 from by omega]; omega) | fail)) (show j_e0 n1 (σ.2.1 53) (τ42.2.1 12) from by (first | (rw [g12_τ46]; assumption) | (rw [g12_τ42, g12_τ_337]; exact j_e0w i185_11 (by omega)) | fail)) (show j_e0 n1 (σ.2.1 52) (τ42.2.1 9) from by (first | (rw [g9_τ46]; assumption) | (rw [g9_τ42, g9_τ_337]; exact j_e0w i185_12 (by omega)) | fail)) (show oc (τ42.2.1 6) ≤ 0 from by (first | omega | (have := oc_0 q40_1; omega) | fail)) (show j_l2 (τ42.2.1 6) n1 from by (first | (have q9 := q44_2; obtain ⟨e, he⟩ := q9; rw [he]; exact j_l2s i347_14 (Int.le_refl _) (by omega)) | (intro e h0 h1; rw [q40_1 e h0 h1]; omega) | fail)) (show oc (τ42.2.1 7) = 0 from by (first | omega | exact oc_0 q40_2 | fail)) (show ((σ.1 10) < n1 → (τ42.1 10) = (σ.1 10)) ∧ (n1 ≤ (σ.1 10) → (τ42.1 10) = -1) from by (first | omega | (simp only [st_s] <;> omega) | assumption | omega | fail)) (show ((σ.1 11) < n1 → (τ42.1 11) = (σ.1 11)) ∧ (n1 ≤ (σ.1 11) → (τ42.1 11) = -1) from by (first | omega | (simp only [st_s] <;> omega) | assumption | omega | fail)) (show n5 ≤ (σ.1 13) → (τ42.1 13) = n5 from by (first | omega | (simp only [st_s] <;> omega) | assumption | omega | fail)) (show (τ42.1 2) = n3 from by (first | omega | (simp only [st_s] <;> omega) | assumption | omega | fail)) (show j_eq 0 (σ.2.1 8) (τ42.2.1 8) from by (first | (rw [g8_τ46]; exact i347_20) | (rw [g8_τ42, g8_τ_337]; exact i185_17) | fail)) (show j_e0 n1 (σ.2.1 51) (τ42.2.1 8) from by (first | (rw [g8_τ46]; exact i347_21) | (rw [g8_τ42, g8_τ_337]; exact j_e0w i185_18 (by omega)) | fail)) (show j_e0 n1 (σ.2.1 54) (τ42.2.1 10) from by (first | (rw [g10_τ46]; exact i347_22) | (rw [g10_τ42, g10_τ_337]; exact j_e0w i185_19 (by omega)) | fail)) (show j_e0 n1 (σ.2.1 55) (τ42.2.1 11) from by (first | (rw [g11_τ46]; exact i347_23) | (rw [g11_τ42, g11_τ_337]; exact j_e0w i185_20 (by omega)) | fail)) (show n_tb 0 (σ.2.1 1) (σ.2.1 2) (σ.2.1 3) (τ42.2.1 6) from by (first | exact tb46 | (intro s a b; exfalso; omega) | fail))
        ·
          refine h314 _ _ ?_
          replace hT := mT_v (i := 10) hT (show (-1 : Int) ≤ (-1) ∧ (-1) ≤ 999 from by (first | omega | (simp only [st_s] <;> omega) | assumption | omega | fail))
          refine ⟨fun c37 => ?_, fun c37 => ?_⟩
          ·
            obtain ⟨τ_337, e_τ_337⟩ : ∃ z : S0, z = s_v τ_185 10 (-1) := ⟨_, rfl⟩
            rw [← e_τ_337]
            replace hT : m_T τ_337 := by rw [e_τ_337]; exact hT
            have w2_τ_337 : τ_337.1 2 = τ_185.1 2 := by rw [e_τ_337]; rfl
            have w3_τ_337 : τ_337.1 3 = τ_185.1 3 := by rw [e_τ_337]; rfl
            have w4_τ_337 : τ_337.1 4 = τ_185.1 4 := by rw [e_τ_337]; rfl
            have w5_τ_337 : τ_337.1 5 = τ_185.1 5 := by rw [e_τ_337]; rfl
            have w6_τ_337 : τ_337.1 6 = τ_185.1 6 := by rw [e_τ_337]; rfl
            have w7_τ_337 : τ_337.1 7 = τ_185.1 7 := by rw [e_τ_337]; rfl
            have w8_τ_337 : τ_337.1 8 = τ_185.1 8 := by rw [e_τ_337]; rfl
            have w9_τ_337 : τ_337.1 9 = τ_185.1 9 := by rw [e_τ_337]; rfl
            have w10_τ_337 : τ_337.1 10 = (-1) := by rw [e_τ_337]; rfl
            have w11_τ_337 : τ_337.1 11 = τ_185.1 11 := by rw [e_τ_337]; rfl
            have w12_τ_337 : τ_337.1 12 = τ_185.1 12 := by rw [e_τ_337]; rfl
            have w13_τ_337 : τ_337.1 13 = τ_185.1 13 := by rw [e_τ_337]; rfl
            have w14_τ_337 : τ_337.1 14 = τ_185.1 14 := by rw [e_τ_337]; rfl
            have g1_τ_337 : τ_337.2.1 1 = τ_185.2.1 1 := by rw [e_τ_337]; rfl
            have g2_τ_337 : τ_337.2.1 2 = τ_185.2.1 2 := by rw [e_τ_337]; rfl
            have g3_τ_337 : τ_337.2.1 3 = τ_185.2.1 3 := by rw [e_τ_337]; rfl
            have g6_τ_337 : τ_337.2.1 6 = τ_185.2.1 6 := by rw [e_τ_337]; rfl
            have g7_τ_337 : τ_337.2.1 7 = τ_185.2.1 7 := by rw [e_τ_337]; rfl
            have g8_τ_337 : τ_337.2.1 8 = τ_185.2.1 8 := by rw [e_τ_337]; rfl
            have g9_τ_337 : τ_337.2.1 9 = τ_185.2.1 9 := by rw [e_τ_337]; rfl
            have g10_τ_337 : τ_337.2.1 10 = τ_185.2.1 10 := by rw [e_τ_337]; rfl
            have g11_τ_337 : τ_337.2.1 11 = τ_185.2.1 11 := by rw [e_τ_337]; rfl
            have g12_τ_337 : τ_337.2.1 12 = τ_185.2.1 12 := by rw [e_τ_337]; rfl
            have g14_τ_337 : τ_337.2.1 14 = τ_185.2.1 14 := by rw [e_τ_337]; rfl
            have g15_τ_337 : τ_337.2.1 15 = τ_185.2.1 15 := by rw [e_τ_337]; rfl
            have g18_τ_337 : τ_337.2.1 18 = τ_185.2.1 18 := by rw [e_τ_337]; rfl
            have g19_τ_337 : τ_337.2.1 19 = τ_185.2.1 19 := by rw [e_τ_337]; rfl
            have g21_τ_337 : τ_337.2.1 21 = τ_185.2.1 21 := by rw [e_τ_337]; rfl
            have g22_τ_337 : τ_337.2.1 22 = τ_185.2.1 22 := by rw [e_τ_337]; rfl
            have g25_τ_337 : τ_337.2.1 25 = τ_185.2.1 25 := by rw [e_τ_337]; rfl
            have g26_τ_337 : τ_337.2.1 26 = τ_185.2.1 26 := by rw [e_τ_337]; rfl
            have g51_τ_337 : τ_337.2.1 51 = τ_185.2.1 51 := by rw [e_τ_337]; rfl
            have g52_τ_337 : τ_337.2.1 52 = τ_185.2.1 52 := by rw [e_τ_337]; rfl
            have g53_τ_337 : τ_337.2.1 53 = τ_185.2.1 53 := by rw [e_τ_337]; rfl
            have g54_τ_337 : τ_337.2.1 54 = τ_185.2.1 54 := by rw [e_τ_337]; rfl
            have g55_τ_337 : τ_337.2.1 55 = τ_185.2.1 55 := by rw [e_τ_337]; rfl
            first | (have ca_τ_337 := congr (congrArg ca g9_τ_337) w3_τ_337) | skip
            first | (have o6_τ_337 := congrArg oc g6_τ_337) | skip
            first | (have o7_τ_337 := congrArg oc g7_τ_337) | skip
            have G1 : τ_337.2.1 1 = σ.2.1 1 := (g1_τ_337).trans G1
            have G2 : τ_337.2.1 2 = σ.2.1 2 := (g2_τ_337).trans G2
            have G3 : τ_337.2.1 3 = σ.2.1 3 := (g3_τ_337).trans G3
            have G14 : τ_337.2.1 14 = σ.2.1 14 := (g14_τ_337).trans G14
            have G15 : τ_337.2.1 15 = σ.2.1 15 := (g15_τ_337).trans G15
            have G18 : τ_337.2.1 18 = σ.2.1 18 := (g18_τ_337).trans G18
            have G19 : τ_337.2.1 19 = σ.2.1 19 := (g19_τ_337).trans G19
            have G21 : τ_337.2.1 21 = σ.2.1 21 := (g21_τ_337).trans G21
            have G22 : τ_337.2.1 22 = σ.2.1 22 := (g22_τ_337).trans G22
            have G25 : τ_337.2.1 25 = σ.2.1 25 := (g25_τ_337).trans G25
            have G26 : τ_337.2.1 26 = σ.2.1 26 := (g26_τ_337).trans G26
            have G51 : τ_337.2.1 51 = σ.2.1 51 := (g51_τ_337).trans G51
            have G52 : τ_337.2.1 52 = σ.2.1 52 := (g52_τ_337).trans G52
            have G53 : τ_337.2.1 53 = σ.2.1 53 := (g53_τ_337).trans G53
            have G54 : τ_337.2.1 54 = σ.2.1 54 := (g54_τ_337).trans G54
            have G55 : τ_337.2.1 55 = σ.2.1 55 := (g55_τ_337).trans G55
            have A1 : ∀ j, 0 ≤ τ_337.2.1 1 j ∧ τ_337.2.1 1 j ≤ 255 := fun j => hT.2 1 j
            have A2 : ∀ j, 0 ≤ τ_337.2.1 2 j ∧ τ_337.2.1 2 j ≤ 30000 := fun j => hT.2 2 j
            have A3 : ∀ j, 0 ≤ τ_337.2.1 3 j ∧ τ_337.2.1 3 j ≤ 60 := fun j => hT.2 3 j
            have A6 : ∀ j, (-1) ≤ τ_337.2.1 6 j ∧ τ_337.2.1 6 j ≤ 999 := fun j => hT.2 6 j
            have A7 : ∀ j, (-1) ≤ τ_337.2.1 7 j ∧ τ_337.2.1 7 j ≤ 1499 := fun j => hT.2 7 j
            have A8 : ∀ j, 0 ≤ τ_337.2.1 8 j ∧ τ_337.2.1 8 j ≤ 1 := fun j => hT.2 8 j
            have A9 : ∀ j, 0 ≤ τ_337.2.1 9 j ∧ τ_337.2.1 9 j ≤ 1 := fun j => hT.2 9 j
            have A10 : ∀ j, (-1) ≤ τ_337.2.1 10 j ∧ τ_337.2.1 10 j ≤ 999 := fun j => hT.2 10 j
            have A11 : ∀ j, (-1) ≤ τ_337.2.1 11 j ∧ τ_337.2.1 11 j ≤ 1499 := fun j => hT.2 11 j
            have A12 : ∀ j, 0 ≤ τ_337.2.1 12 j ∧ τ_337.2.1 12 j ≤ 1 := fun j => hT.2 12 j
            have A14 : ∀ j, 0 ≤ τ_337.2.1 14 j ∧ τ_337.2.1 14 j ≤ 30000 := fun j => hT.2 14 j
            have A15 : ∀ j, 0 ≤ τ_337.2.1 15 j ∧ τ_337.2.1 15 j ≤ 300 := fun j => hT.2 15 j
            have A18 : ∀ j, 0 ≤ τ_337.2.1 18 j ∧ τ_337.2.1 18 j ≤ 90000 := fun j => hT.2 18 j
            have A19 : ∀ j, 0 ≤ τ_337.2.1 19 j ∧ τ_337.2.1 19 j ≤ 60 := fun j => hT.2 19 j
            have A21 : ∀ j, 0 ≤ τ_337.2.1 21 j ∧ τ_337.2.1 21 j ≤ 20000 := fun j => hT.2 21 j
            have A22 : ∀ j, 0 ≤ τ_337.2.1 22 j ∧ τ_337.2.1 22 j ≤ 20000 := fun j => hT.2 22 j
            have A25 : ∀ j, 0 ≤ τ_337.2.1 25 j ∧ τ_337.2.1 25 j ≤ 20000 := fun j => hT.2 25 j
            have A26 : ∀ j, 0 ≤ τ_337.2.1 26 j ∧ τ_337.2.1 26 j ≤ 20000 := fun j => hT.2 26 j
            have A51 : ∀ j, 0 ≤ τ_337.2.1 51 j ∧ τ_337.2.1 51 j ≤ 1 := fun j => hT.2 51 j
            have A52 : ∀ j, 0 ≤ τ_337.2.1 52 j ∧ τ_337.2.1 52 j ≤ 1 := fun j => hT.2 52 j
            have A53 : ∀ j, 0 ≤ τ_337.2.1 53 j ∧ τ_337.2.1 53 j ≤ 1 := fun j => hT.2 53 j
            have A54 : ∀ j, (-1) ≤ τ_337.2.1 54 j ∧ τ_337.2.1 54 j ≤ 999 := fun j => hT.2 54 j
            have A55 : ∀ j, (-1) ≤ τ_337.2.1 55 j ∧ τ_337.2.1 55 j ≤ 1499 := fun j => hT.2 55 j
            have v2 : 0 ≤ τ_337.1 2 ∧ τ_337.1 2 ≤ 30000 := hT.1 2
            have v3 : 0 ≤ τ_337.1 3 ∧ τ_337.1 3 ≤ 1000 := hT.1 3
            have v4 : 0 ≤ τ_337.1 4 ∧ τ_337.1 4 ≤ 100 := hT.1 4
            have v5 : 0 ≤ τ_337.1 5 ∧ τ_337.1 5 ≤ 1500 := hT.1 5
            have v6 : 0 ≤ τ_337.1 6 ∧ τ_337.1 6 ≤ 30000 := hT.1 6
            have v7 : 0 ≤ τ_337.1 7 ∧ τ_337.1 7 ≤ 90000 := hT.1 7
            have v8 : 0 ≤ τ_337.1 8 ∧ τ_337.1 8 ≤ 20000 := hT.1 8
            have v9 : 0 ≤ τ_337.1 9 ∧ τ_337.1 9 ≤ 20000 := hT.1 9
            have v10 : (-1) ≤ τ_337.1 10 ∧ τ_337.1 10 ≤ 999 := hT.1 10
            have v11 : (-1) ≤ τ_337.1 11 ∧ τ_337.1 11 ≤ 999 := hT.1 11
            have v12 : 0 ≤ τ_337.1 12 ∧ τ_337.1 12 ≤ 1000 := hT.1 12
            have v13 : 0 ≤ τ_337.1 13 ∧ τ_337.1 13 ≤ 1500 := hT.1 13
            have v14 : 0 ≤ τ_337.1 14 ∧ τ_337.1 14 ≤ 1000 := hT.1 14
            refine h337 _ _ ?_
            replace hT := mT_v (i := 11) hT (show (-1) ≤ (τ_185.1 11) ∧ (τ_185.1 11) ≤ 999 from by (first | omega | (simp only [st_s] <;> omega) | assumption | omega | fail))
            refine ⟨_, K2_X13_clearTables hT, ?_⟩
            intro τ42 hn_τ42 hf_τ42 hq
            obtain ⟨hT, q40_1, q40_2⟩ := hq
            replace q40_1 : ∀ e : Int, 0 ≤ e → e < 4096 → τ42.2.1 6 e = -1 := q40_1
            replace q40_2 : ∀ e : Int, 0 ≤ e → e < 4096 → τ42.2.1 7 e = -1 := q40_2
            have w2_τ42 : τ42.1 2 = τ_337.1 2 := hf_τ42.1 2 (by decide)
            have w3_τ42 : τ42.1 3 = τ_337.1 3 := hf_τ42.1 3 (by decide)
            have w4_τ42 : τ42.1 4 = τ_337.1 4 := hf_τ42.1 4 (by decide)
            have w5_τ42 : τ42.1 5 = τ_337.1 5 := hf_τ42.1 5 (by decide)
            have w6_τ42 : τ42.1 6 = τ_337.1 6 := hf_τ42.1 6 (by decide)
            have w7_τ42 : τ42.1 7 = τ_337.1 7 := hf_τ42.1 7 (by decide)
            have w8_τ42 : τ42.1 8 = τ_337.1 8 := hf_τ42.1 8 (by decide)
            have w9_τ42 : τ42.1 9 = τ_337.1 9 := hf_τ42.1 9 (by decide)
            have w10_τ42 : τ42.1 10 = τ_337.1 10 := hf_τ42.1 10 (by decide)
            have w11_τ42 : τ42.1 11 = (τ_185.1 11) := hf_τ42.1 11 (by decide)
            have w12_τ42 : τ42.1 12 = τ_337.1 12 := hf_τ42.1 12 (by decide)
            have w13_τ42 : τ42.1 13 = τ_337.1 13 := hf_τ42.1 13 (by decide)
            have w14_τ42 : τ42.1 14 = τ_337.1 14 := hf_τ42.1 14 (by decide)
            have g1_τ42 : τ42.2.1 1 = τ_337.2.1 1 := hf_τ42.2.1 1 (by decide)
            have g2_τ42 : τ42.2.1 2 = τ_337.2.1 2 := hf_τ42.2.1 2 (by decide)
            have g3_τ42 : τ42.2.1 3 = τ_337.2.1 3 := hf_τ42.2.1 3 (by decide)
            have g8_τ42 : τ42.2.1 8 = τ_337.2.1 8 := hf_τ42.2.1 8 (by decide)
            have g9_τ42 : τ42.2.1 9 = τ_337.2.1 9 := hf_τ42.2.1 9 (by decide)
            have g10_τ42 : τ42.2.1 10 = τ_337.2.1 10 := hf_τ42.2.1 10 (by decide)
            have g11_τ42 : τ42.2.1 11 = τ_337.2.1 11 := hf_τ42.2.1 11 (by decide)
            have g12_τ42 : τ42.2.1 12 = τ_337.2.1 12 := hf_τ42.2.1 12 (by decide)
            have g14_τ42 : τ42.2.1 14 = τ_337.2.1 14 := hf_τ42.2.1 14 (by decide)
            have g15_τ42 : τ42.2.1 15 = τ_337.2.1 15 := hf_τ42.2.1 15 (by decide)
            have g18_τ42 : τ42.2.1 18 = τ_337.2.1 18 := hf_τ42.2.1 18 (by decide)
            have g19_τ42 : τ42.2.1 19 = τ_337.2.1 19 := hf_τ42.2.1 19 (by decide)
            have g21_τ42 : τ42.2.1 21 = τ_337.2.1 21 := hf_τ42.2.1 21 (by decide)
            have g22_τ42 : τ42.2.1 22 = τ_337.2.1 22 := hf_τ42.2.1 22 (by decide)
            have g25_τ42 : τ42.2.1 25 = τ_337.2.1 25 := hf_τ42.2.1 25 (by decide)
            have g26_τ42 : τ42.2.1 26 = τ_337.2.1 26 := hf_τ42.2.1 26 (by decide)
            have g51_τ42 : τ42.2.1 51 = τ_337.2.1 51 := hf_τ42.2.1 51 (by decide)
            have g52_τ42 : τ42.2.1 52 = τ_337.2.1 52 := hf_τ42.2.1 52 (by decide)
            have g53_τ42 : τ42.2.1 53 = τ_337.2.1 53 := hf_τ42.2.1 53 (by decide)
            have g54_τ42 : τ42.2.1 54 = τ_337.2.1 54 := hf_τ42.2.1 54 (by decide)
            have g55_τ42 : τ42.2.1 55 = τ_337.2.1 55 := hf_τ42.2.1 55 (by decide)
            first | (have ca_τ42 := congr (congrArg ca g9_τ42) w3_τ42) | skip
            first | (have o6_τ42 := congrArg oc g6_τ42) | skip
            first | (have o7_τ42 := congrArg oc g7_τ42) | skip
            have G1 : τ42.2.1 1 = σ.2.1 1 := (g1_τ42).trans G1
            have G2 : τ42.2.1 2 = σ.2.1 2 := (g2_τ42).trans G2
            have G3 : τ42.2.1 3 = σ.2.1 3 := (g3_τ42).trans G3
            have G14 : τ42.2.1 14 = σ.2.1 14 := (g14_τ42).trans G14
            have G15 : τ42.2.1 15 = σ.2.1 15 := (g15_τ42).trans G15
            have G18 : τ42.2.1 18 = σ.2.1 18 := (g18_τ42).trans G18
            have G19 : τ42.2.1 19 = σ.2.1 19 := (g19_τ42).trans G19
            have G21 : τ42.2.1 21 = σ.2.1 21 := (g21_τ42).trans G21
            have G22 : τ42.2.1 22 = σ.2.1 22 := (g22_τ42).trans G22
            have G25 : τ42.2.1 25 = σ.2.1 25 := (g25_τ42).trans G25
            have G26 : τ42.2.1 26 = σ.2.1 26 := (g26_τ42).trans G26
            have G51 : τ42.2.1 51 = σ.2.1 51 := (g51_τ42).trans G51
            have G52 : τ42.2.1 52 = σ.2.1 52 := (g52_τ42).trans G52
            have G53 : τ42.2.1 53 = σ.2.1 53 := (g53_τ42).trans G53
            have G54 : τ42.2.1 54 = σ.2.1 54 := (g54_τ42).trans G54
            have G55 : τ42.2.1 55 = σ.2.1 55 := (g55_τ42).trans G55
            have A1 : ∀ j, 0 ≤ τ42.2.1 1 j ∧ τ42.2.1 1 j ≤ 255 := fun j => hT.2 1 j
            have A2 : ∀ j, 0 ≤ τ42.2.1 2 j ∧ τ42.2.1 2 j ≤ 30000 := fun j => hT.2 2 j
            have A3 : ∀ j, 0 ≤ τ42.2.1 3 j ∧ τ42.2.1 3 j ≤ 60 := fun j => hT.2 3 j
            have A6 : ∀ j, (-1) ≤ τ42.2.1 6 j ∧ τ42.2.1 6 j ≤ 999 := fun j => hT.2 6 j
            have A7 : ∀ j, (-1) ≤ τ42.2.1 7 j ∧ τ42.2.1 7 j ≤ 1499 := fun j => hT.2 7 j
            have A8 : ∀ j, 0 ≤ τ42.2.1 8 j ∧ τ42.2.1 8 j ≤ 1 := fun j => hT.2 8 j
            have A9 : ∀ j, 0 ≤ τ42.2.1 9 j ∧ τ42.2.1 9 j ≤ 1 := fun j => hT.2 9 j
            have A10 : ∀ j, (-1) ≤ τ42.2.1 10 j ∧ τ42.2.1 10 j ≤ 999 := fun j => hT.2 10 j
            have A11 : ∀ j, (-1) ≤ τ42.2.1 11 j ∧ τ42.2.1 11 j ≤ 1499 := fun j => hT.2 11 j
            have A12 : ∀ j, 0 ≤ τ42.2.1 12 j ∧ τ42.2.1 12 j ≤ 1 := fun j => hT.2 12 j
            have A14 : ∀ j, 0 ≤ τ42.2.1 14 j ∧ τ42.2.1 14 j ≤ 30000 := fun j => hT.2 14 j
            have A15 : ∀ j, 0 ≤ τ42.2.1 15 j ∧ τ42.2.1 15 j ≤ 300 := fun j => hT.2 15 j
            have A18 : ∀ j, 0 ≤ τ42.2.1 18 j ∧ τ42.2.1 18 j ≤ 90000 := fun j => hT.2 18 j
            have A19 : ∀ j, 0 ≤ τ42.2.1 19 j ∧ τ42.2.1 19 j ≤ 60 := fun j => hT.2 19 j
            have A21 : ∀ j, 0 ≤ τ42.2.1 21 j ∧ τ42.2.1 21 j ≤ 20000 := fun j => hT.2 21 j
            have A22 : ∀ j, 0 ≤ τ42.2.1 22 j ∧ τ42.2.1 22 j ≤ 20000 := fun j => hT.2 22 j
            have A25 : ∀ j, 0 ≤ τ42.2.1 25 j ∧ τ42.2.1 25 j ≤ 20000 := fun j => hT.2 25 j
            have A26 : ∀ j, 0 ≤ τ42.2.1 26 j ∧ τ42.2.1 26 j ≤ 20000 := fun j => hT.2 26 j
            have A51 : ∀ j, 0 ≤ τ42.2.1 51 j ∧ τ42.2.1 51 j ≤ 1 := fun j => hT.2 51 j
            have A52 : ∀ j, 0 ≤ τ42.2.1 52 j ∧ τ42.2.1 52 j ≤ 1 := fun j => hT.2 52 j
            have A53 : ∀ j, 0 ≤ τ42.2.1 53 j ∧ τ42.2.1 53 j ≤ 1 := fun j => hT.2 53 j
            have A54 : ∀ j, (-1) ≤ τ42.2.1 54 j ∧ τ42.2.1 54 j ≤ 999 := fun j => hT.2 54 j
            have A55 : ∀ j, (-1) ≤ τ42.2.1 55 j ∧ τ42.2.1 55 j ≤ 1499 := fun j => hT.2 55 j
            have v2 : 0 ≤ τ42.1 2 ∧ τ42.1 2 ≤ 30000 := hT.1 2
            have v3 : 0 ≤ τ42.1 3 ∧ τ42.1 3 ≤ 1000 := hT.1 3
            have v4 : 0 ≤ τ42.1 4 ∧ τ42.1 4 ≤ 100 := hT.1 4
            have v5 : 0 ≤ τ42.1 5 ∧ τ42.1 5 ≤ 1500 := hT.1 5
            have v6 : 0 ≤ τ42.1 6 ∧ τ42.1 6 ≤ 30000 := hT.1 6
            have v7 : 0 ≤ τ42.1 7 ∧ τ42.1 7 ≤ 90000 := hT.1 7
            have v8 : 0 ≤ τ42.1 8 ∧ τ42.1 8 ≤ 20000 := hT.1 8
            have v9 : 0 ≤ τ42.1 9 ∧ τ42.1 9 ≤ 20000 := hT.1 9
            have v10 : (-1) ≤ τ42.1 10 ∧ τ42.1 10 ≤ 999 := hT.1 10
            have v11 : (-1) ≤ τ42.1 11 ∧ τ42.1 11 ≤ 999 := hT.1 11
            have v12 : 0 ≤ τ42.1 12 ∧ τ42.1 12 ≤ 1000 := hT.1 12
            have v13 : 0 ≤ τ42.1 13 ∧ τ42.1 13 ≤ 1500 := hT.1 13
            have v14 : 0 ≤ τ42.1 14 ∧ τ42.1 14 ≤ 1000 := hT.1 14
            exact l_347 ((1001 - 0 : Int).toNat + 1) _ _ (show (1001 - 0 : Int) < (((1001 - 0 : Int).toNat + 1 : Nat) : Int) from by ((first | omega | (simp only [st_s] <;> omega) | assumption | omega | fail))) hT G1 G2 G3 G14 G15 G18 G19 G21 G22 G25 G26 G51 G52 G53 G54 G55 (show (τ42.1 3) = n1 from by (first | omega | (simp only [st_s] <;> omega) | assumption | omega | fail)) (show (τ42.1 5) = n2 from by (first | omega | (simp only [st_s] <;> omega) | assumption | omega | fail)) (show (τ42.1 12) ≤ n4 from by (first | omega | (simp only [st_s] <;> omega) | assumption | omega | fail)) (show (τ42.1 13) ≤ n5 from by (first | omega | (simp only [st_s] <;> omega) | assumption | omega | fail)) (show (n2 = 0 ∨ (τ42.1 6) = σ.2.1 14 (n2 - 1) + σ.2.1 15 (n2 - 1)) from by (first | omega | (simp only [st_s] <;> omega) | assumption | omega | fail)) (show (n2 = 0 ∨ (τ42.1 7) = σ.2.1 18 (n2 - 1) + σ.2.1 19 (n2 - 1)) ∧ (τ42.1 7) ≤ 60 * n2 from by (first | omega | (simp only [st_s] <;> omega) | assumption | omega | fail)) (show (n2 = 0 ∨ (τ42.1 8) = σ.2.1 21 (n2 - 1) + σ.2.1 22 (n2 - 1)) from by (first | omega | (simp only [st_s] <;> omega) | assumption | omega | fail)) (show (n2 = 0 ∨ (τ42.1 9) = σ.2.1 25 (n2 - 1) + σ.2.1 26 (n2 - 1)) from by (first | omega | (simp only [st_s] <;> omega) | assumption | omega | fail)) (show 0 ≤ 0 ∧ 0 ≤ n1 from by (first | omega | (simp only [st_s] <;> omega) | assumption | omega | fail)) (show (τ42.1 4) = ca (σ.2.1 53) n1 from by (first | omega | (rw [show n1 = u7_185 from by omega]; omega) | fail)) (show j_e0 n1 (σ.2.1 53) (τ42.2.1 12) from by (first | (rw [g12_τ46]; assumption) | (rw [g12_τ42, g12_τ_337]; exact j_e0w i185_11 (by omega)) | fail)) (show j_e0 n1 (σ.2.1 52) (τ42.2.1 9) from by (first | (rw [g9_τ46]; assumption) | (rw [g9_τ42, g9_τ_337]; exact j_e0w i185_12 (by omega)) | fail)) (show oc (τ42.2.1 6) ≤ 0 from by (first | omega | (have := oc_0 q40_1; omega) | fail)) (show j_l2 (τ42.2.1 6) n1 from by (first | (have q9 := q44_2; obtain ⟨e, he⟩ := q9; rw [he]; exact j_l2s i347_14 (Int.le_refl _) (by omega)) | (intro e h0 h1; rw [q40_1 e h0 h1]; omega) | fail)) (show oc (τ42.2.1 7) = 0 from by (first | omega | exact oc_0 q40_2 | fail)) (show ((σ.1 10) < n1 → (τ42.1 10) = (σ.1 10)) ∧ (n1 ≤ (σ.1 10) → (τ42.1 10) = -1) from by (first | omega | (simp only [st_s] <;> omega) | assumption | omega | fail)) (show ((σ.1 11) < n1 → (τ42.1 11) = (σ.1 11)) ∧ (n1 ≤ (σ.1 11) → (τ42.1 11) = -1) from by (first | omega | (simp only [st_s] <;> omega) | assumption | omega | fail)) (show n5 ≤ (σ.1 13) → (τ42.1 13) = n5 from by (first | omega | (simp only [st_s] <;> omega) | assumption | omega | fail)) (show (τ42.1 2) = n3 from by (first | omega | (simp only [st_s] <;> omega) | assumption | omega | fail)) (show j_eq 0 (σ.2.1 8) (τ42.2.1 8) from by (first | (rw [g8_τ46]; exact i347_20) | (rw [g8_τ42, g8_τ_337]; exact i185_17) | fail)) (show j_e0 n1 (σ.2.1 51) (τ42.2.1 8) from by (first | (rw [g8_τ46]; exact i347_21) | (rw [g8_τ42, g8_τ_337]; exact j_e0w i185_18 (by omega)) | fail)) (show j_e0 n1 (σ.2.1 54) (τ42.2.1 10) from by (first | (rw [g10_τ46]; exact i347_22) | (rw [g10_τ42, g10_τ_337]; exact j_e0w i185_19 (by omega)) | fail)) (show j_e0 n1 (σ.2.1 55) (τ42.2.1 11) from by (first | (rw [g11_τ46]; exact i347_23) | (rw [g11_τ42, g11_τ_337]; exact j_e0w i185_20 (by omega)) | fail)) (show n_tb 0 (σ.2.1 1) (σ.2.1 2) (σ.2.1 3) (τ42.2.1 6) from by (first | exact tb46 | (intro s a b; exfalso; omega) | fail))
          ·
            obtain ⟨τ_337, e_τ_337⟩ : ∃ z : S0, z = s_v τ_185 10 (-1) := ⟨_, rfl⟩
            rw [← e_τ_337]
            replace hT : m_T τ_337 := by rw [e_τ_337]; exact hT
            have w2_τ_337 : τ_337.1 2 = τ_185.1 2 := by rw [e_τ_337]; rfl
            have w3_τ_337 : τ_337.1 3 = τ_185.1 3 := by rw [e_τ_337]; rfl
            have w4_τ_337 : τ_337.1 4 = τ_185.1 4 := by rw [e_τ_337]; rfl
            have w5_τ_337 : τ_337.1 5 = τ_185.1 5 := by rw [e_τ_337]; rfl
            have w6_τ_337 : τ_337.1 6 = τ_185.1 6 := by rw [e_τ_337]; rfl
            have w7_τ_337 : τ_337.1 7 = τ_185.1 7 := by rw [e_τ_337]; rfl
            have w8_τ_337 : τ_337.1 8 = τ_185.1 8 := by rw [e_τ_337]; rfl
            have w9_τ_337 : τ_337.1 9 = τ_185.1 9 := by rw [e_τ_337]; rfl
            have w10_τ_337 : τ_337.1 10 = (-1) := by rw [e_τ_337]; rfl
            have w11_τ_337 : τ_337.1 11 = τ_185.1 11 := by rw [e_τ_337]; rfl
            have w12_τ_337 : τ_337.1 12 = τ_185.1 12 := by rw [e_τ_337]; rfl
            have w13_τ_337 : τ_337.1 13 = τ_185.1 13 := by rw [e_τ_337]; rfl
            have w14_τ_337 : τ_337.1 14 = τ_185.1 14 := by rw [e_τ_337]; rfl
            have g1_τ_337 : τ_337.2.1 1 = τ_185.2.1 1 := by rw [e_τ_337]; rfl
            have g2_τ_337 : τ_337.2.1 2 = τ_185.2.1 2 := by rw [e_τ_337]; rfl
            have g3_τ_337 : τ_337.2.1 3 = τ_185.2.1 3 := by rw [e_τ_337]; rfl
            have g6_τ_337 : τ_337.2.1 6 = τ_185.2.1 6 := by rw [e_τ_337]; rfl
            have g7_τ_337 : τ_337.2.1 7 = τ_185.2.1 7 := by rw [e_τ_337]; rfl
            have g8_τ_337 : τ_337.2.1 8 = τ_185.2.1 8 := by rw [e_τ_337]; rfl
            have g9_τ_337 : τ_337.2.1 9 = τ_185.2.1 9 := by rw [e_τ_337]; rfl
            have g10_τ_337 : τ_337.2.1 10 = τ_185.2.1 10 := by rw [e_τ_337]; rfl
            have g11_τ_337 : τ_337.2.1 11 = τ_185.2.1 11 := by rw [e_τ_337]; rfl
            have g12_τ_337 : τ_337.2.1 12 = τ_185.2.1 12 := by rw [e_τ_337]; rfl
            have g14_τ_337 : τ_337.2.1 14 = τ_185.2.1 14 := by rw [e_τ_337]; rfl
            have g15_τ_337 : τ_337.2.1 15 = τ_185.2.1 15 := by rw [e_τ_337]; rfl
            have g18_τ_337 : τ_337.2.1 18 = τ_185.2.1 18 := by rw [e_τ_337]; rfl
            have g19_τ_337 : τ_337.2.1 19 = τ_185.2.1 19 := by rw [e_τ_337]; rfl
            have g21_τ_337 : τ_337.2.1 21 = τ_185.2.1 21 := by rw [e_τ_337]; rfl
            have g22_τ_337 : τ_337.2.1 22 = τ_185.2.1 22 := by rw [e_τ_337]; rfl
            have g25_τ_337 : τ_337.2.1 25 = τ_185.2.1 25 := by rw [e_τ_337]; rfl
            have g26_τ_337 : τ_337.2.1 26 = τ_185.2.1 26 := by rw [e_τ_337]; rfl
            have g51_τ_337 : τ_337.2.1 51 = τ_185.2.1 51 := by rw [e_τ_337]; rfl
            have g52_τ_337 : τ_337.2.1 52 = τ_185.2.1 52 := by rw [e_τ_337]; rfl
            have g53_τ_337 : τ_337.2.1 53 = τ_185.2.1 53 := by rw [e_τ_337]; rfl
            have g54_τ_337 : τ_337.2.1 54 = τ_185.2.1 54 := by rw [e_τ_337]; rfl
            have g55_τ_337 : τ_337.2.1 55 = τ_185.2.1 55 := by rw [e_τ_337]; rfl
            first | (have ca_τ_337 := congr (congrArg ca g9_τ_337) w3_τ_337) | skip
            first | (have o6_τ_337 := congrArg oc g6_τ_337) | skip
            first | (have o7_τ_337 := congrArg oc g7_τ_337) | skip
            have G1 : τ_337.2.1 1 = σ.2.1 1 := (g1_τ_337).trans G1
            have G2 : τ_337.2.1 2 = σ.2.1 2 := (g2_τ_337).trans G2
            have G3 : τ_337.2.1 3 = σ.2.1 3 := (g3_τ_337).trans G3
            have G14 : τ_337.2.1 14 = σ.2.1 14 := (g14_τ_337).trans G14
            have G15 : τ_337.2.1 15 = σ.2.1 15 := (g15_τ_337).trans G15
            have G18 : τ_337.2.1 18 = σ.2.1 18 := (g18_τ_337).trans G18
            have G19 : τ_337.2.1 19 = σ.2.1 19 := (g19_τ_337).trans G19
            have G21 : τ_337.2.1 21 = σ.2.1 21 := (g21_τ_337).trans G21
            have G22 : τ_337.2.1 22 = σ.2.1 22 := (g22_τ_337).trans G22
            have G25 : τ_337.2.1 25 = σ.2.1 25 := (g25_τ_337).trans G25
            have G26 : τ_337.2.1 26 = σ.2.1 26 := (g26_τ_337).trans G26
            have G51 : τ_337.2.1 51 = σ.2.1 51 := (g51_τ_337).trans G51
            have G52 : τ_337.2.1 52 = σ.2.1 52 := (g52_τ_337).trans G52
            have G53 : τ_337.2.1 53 = σ.2.1 53 := (g53_τ_337).trans G53
            have G54 : τ_337.2.1 54 = σ.2.1 54 := (g54_τ_337).trans G54
            have G55 : τ_337.2.1 55 = σ.2.1 55 := (g55_τ_337).trans G55
            have A1 : ∀ j, 0 ≤ τ_337.2.1 1 j ∧ τ_337.2.1 1 j ≤ 255 := fun j => hT.2 1 j
            have A2 : ∀ j, 0 ≤ τ_337.2.1 2 j ∧ τ_337.2.1 2 j ≤ 30000 := fun j => hT.2 2 j
            have A3 : ∀ j, 0 ≤ τ_337.2.1 3 j ∧ τ_337.2.1 3 j ≤ 60 := fun j => hT.2 3 j
            have A6 : ∀ j, (-1) ≤ τ_337.2.1 6 j ∧ τ_337.2.1 6 j ≤ 999 := fun j => hT.2 6 j
            have A7 : ∀ j, (-1) ≤ τ_337.2.1 7 j ∧ τ_337.2.1 7 j ≤ 1499 := fun j => hT.2 7 j
            have A8 : ∀ j, 0 ≤ τ_337.2.1 8 j ∧ τ_337.2.1 8 j ≤ 1 := fun j => hT.2 8 j
            have A9 : ∀ j, 0 ≤ τ_337.2.1 9 j ∧ τ_337.2.1 9 j ≤ 1 := fun j => hT.2 9 j
            have A10 : ∀ j, (-1) ≤ τ_337.2.1 10 j ∧ τ_337.2.1 10 j ≤ 999 := fun j => hT.2 10 j
            have A11 : ∀ j, (-1) ≤ τ_337.2.1 11 j ∧ τ_337.2.1 11 j ≤ 1499 := fun j => hT.2 11 j
            have A12 : ∀ j, 0 ≤ τ_337.2.1 12 j ∧ τ_337.2.1 12 j ≤ 1 := fun j => hT.2 12 j
            have A14 : ∀ j, 0 ≤ τ_337.2.1 14 j ∧ τ_337.2.1 14 j ≤ 30000 := fun j => hT.2 14 j
            have A15 : ∀ j, 0 ≤ τ_337.2.1 15 j ∧ τ_337.2.1 15 j ≤ 300 := fun j => hT.2 15 j
            have A18 : ∀ j, 0 ≤ τ_337.2.1 18 j ∧ τ_337.2.1 18 j ≤ 90000 := fun j => hT.2 18 j
            have A19 : ∀ j, 0 ≤ τ_337.2.1 19 j ∧ τ_337.2.1 19 j ≤ 60 := fun j => hT.2 19 j
            have A21 : ∀ j, 0 ≤ τ_337.2.1 21 j ∧ τ_337.2.1 21 j ≤ 20000 := fun j => hT.2 21 j
            have A22 : ∀ j, 0 ≤ τ_337.2.1 22 j ∧ τ_337.2.1 22 j ≤ 20000 := fun j => hT.2 22 j
            have A25 : ∀ j, 0 ≤ τ_337.2.1 25 j ∧ τ_337.2.1 25 j ≤ 20000 := fun j => hT.2 25 j
            have A26 : ∀ j, 0 ≤ τ_337.2.1 26 j ∧ τ_337.2.1 26 j ≤ 20000 := fun j => hT.2 26 j
            have A51 : ∀ j, 0 ≤ τ_337.2.1 51 j ∧ τ_337.2.1 51 j ≤ 1 := fun j => hT.2 51 j
            have A52 : ∀ j, 0 ≤ τ_337.2.1 52 j ∧ τ_337.2.1 52 j ≤ 1 := fun j => hT.2 52 j
            have A53 : ∀ j, 0 ≤ τ_337.2.1 53 j ∧ τ_337.2.1 53 j ≤ 1 := fun j => hT.2 53 j
            have A54 : ∀ j, (-1) ≤ τ_337.2.1 54 j ∧ τ_337.2.1 54 j ≤ 999 := fun j => hT.2 54 j
            have A55 : ∀ j, (-1) ≤ τ_337.2.1 55 j ∧ τ_337.2.1 55 j ≤ 1499 := fun j => hT.2 55 j
            have v2 : 0 ≤ τ_337.1 2 ∧ τ_337.1 2 ≤ 30000 := hT.1 2
            have v3 : 0 ≤ τ_337.1 3 ∧ τ_337.1 3 ≤ 1000 := hT.1 3
            have v4 : 0 ≤ τ_337.1 4 ∧ τ_337.1 4 ≤ 100 := hT.1 4
            have v5 : 0 ≤ τ_337.1 5 ∧ τ_337.1 5 ≤ 1500 := hT.1 5
            have v6 : 0 ≤ τ_337.1 6 ∧ τ_337.1 6 ≤ 30000 := hT.1 6
            have v7 : 0 ≤ τ_337.1 7 ∧ τ_337.1 7 ≤ 90000 := hT.1 7
            have v8 : 0 ≤ τ_337.1 8 ∧ τ_337.1 8 ≤ 20000 := hT.1 8
            have v9 : 0 ≤ τ_337.1 9 ∧ τ_337.1 9 ≤ 20000 := hT.1 9
            have v10 : (-1) ≤ τ_337.1 10 ∧ τ_337.1 10 ≤ 999 := hT.1 10
            have v11 : (-1) ≤ τ_337.1 11 ∧ τ_337.1 11 ≤ 999 := hT.1 11
            have v12 : 0 ≤ τ_337.1 12 ∧ τ_337.1 12 ≤ 1000 := hT.1 12
            have v13 : 0 ≤ τ_337.1 13 ∧ τ_337.1 13 ≤ 1500 := hT.1 13
            have v14 : 0 ≤ τ_337.1 14 ∧ τ_337.1 14 ≤ 1000 := hT.1 14
            refine h337 _ _ ?_
            replace hT := mT_v (i := 11) hT (show (-1 : Int) ≤ (-1) ∧ (-1) ≤ 999 from by (first | omega | (simp only [st_s] <;> omega) | assumption | omega | fail))
            refine ⟨_, K2_X13_clearTables hT, ?_⟩
            intro τ42 hn_τ42 hf_τ42 hq
            obtain ⟨hT, q40_1, q40_2⟩ := hq
            replace q40_1 : ∀ e : Int, 0 ≤ e → e < 4096 → τ42.2.1 6 e = -1 := q40_1
            replace q40_2 : ∀ e : Int, 0 ≤ e → e < 4096 → τ42.2.1 7 e = -1 := q40_2
            have w2_τ42 : τ42.1 2 = τ_337.1 2 := hf_τ42.1 2 (by decide)
            have w3_τ42 : τ42.1 3 = τ_337.1 3 := hf_τ42.1 3 (by decide)
            have w4_τ42 : τ42.1 4 = τ_337.1 4 := hf_τ42.1 4 (by decide)
            have w5_τ42 : τ42.1 5 = τ_337.1 5 := hf_τ42.1 5 (by decide)
            have w6_τ42 : τ42.1 6 = τ_337.1 6 := hf_τ42.1 6 (by decide)
            have w7_τ42 : τ42.1 7 = τ_337.1 7 := hf_τ42.1 7 (by decide)
            have w8_τ42 : τ42.1 8 = τ_337.1 8 := hf_τ42.1 8 (by decide)
            have w9_τ42 : τ42.1 9 = τ_337.1 9 := hf_τ42.1 9 (by decide)
            have w10_τ42 : τ42.1 10 = τ_337.1 10 := hf_τ42.1 10 (by decide)
            have w11_τ42 : τ42.1 11 = (-1) := hf_τ42.1 11 (by decide)
            have w12_τ42 : τ42.1 12 = τ_337.1 12 := hf_τ42.1 12 (by decide)
            have w13_τ42 : τ42.1 13 = τ_337.1 13 := hf_τ42.1 13 (by decide)
            have w14_τ42 : τ42.1 14 = τ_337.1 14 := hf_τ42.1 14 (by decide)
            have g1_τ42 : τ42.2.1 1 = τ_337.2.1 1 := hf_τ42.2.1 1 (by decide)
            have g2_τ42 : τ42.2.1 2 = τ_337.2.1 2 := hf_τ42.2.1 2 (by decide)
            have g3_τ42 : τ42.2.1 3 = τ_337.2.1 3 := hf_τ42.2.1 3 (by decide)
            have g8_τ42 : τ42.2.1 8 = τ_337.2.1 8 := hf_τ42.2.1 8 (by decide)
            have g9_τ42 : τ42.2.1 9 = τ_337.2.1 9 := hf_τ42.2.1 9 (by decide)
            have g10_τ42 : τ42.2.1 10 = τ_337.2.1 10 := hf_τ42.2.1 10 (by decide)
            have g11_τ42 : τ42.2.1 11 = τ_337.2.1 11 := hf_τ42.2.1 11 (by decide)
            have g12_τ42 : τ42.2.1 12 = τ_337.2.1 12 := hf_τ42.2.1 12 (by decide)
            have g14_τ42 : τ42.2.1 14 = τ_337.2.1 14 := hf_τ42.2.1 14 (by decide)
            have g15_τ42 : τ42.2.1 15 = τ_337.2.1 15 := hf_τ42.2.1 15 (by decide)
            have g18_τ42 : τ42.2.1 18 = τ_337.2.1 18 := hf_τ42.2.1 18 (by decide)
            have g19_τ42 : τ42.2.1 19 = τ_337.2.1 19 := hf_τ42.2.1 19 (by decide)
            have g21_τ42 : τ42.2.1 21 = τ_337.2.1 21 := hf_τ42.2.1 21 (by decide)
            have g22_τ42 : τ42.2.1 22 = τ_337.2.1 22 := hf_τ42.2.1 22 (by decide)
            have g25_τ42 : τ42.2.1 25 = τ_337.2.1 25 := hf_τ42.2.1 25 (by decide)
            have g26_τ42 : τ42.2.1 26 = τ_337.2.1 26 := hf_τ42.2.1 26 (by decide)
            have g51_τ42 : τ42.2.1 51 = τ_337.2.1 51 := hf_τ42.2.1 51 (by decide)
            have g52_τ42 : τ42.2.1 52 = τ_337.2.1 52 := hf_τ42.2.1 52 (by decide)
            have g53_τ42 : τ42.2.1 53 = τ_337.2.1 53 := hf_τ42.2.1 53 (by decide)
            have g54_τ42 : τ42.2.1 54 = τ_337.2.1 54 := hf_τ42.2.1 54 (by decide)
            have g55_τ42 : τ42.2.1 55 = τ_337.2.1 55 := hf_τ42.2.1 55 (by decide)
            first | (have ca_τ42 := congr (congrArg ca g9_τ42) w3_τ42) | skip
            first | (have o6_τ42 := congrArg oc g6_τ42) | skip
            first | (have o7_τ42 := congrArg oc g7_τ42) | skip
            have G1 : τ42.2.1 1 = σ.2.1 1 := (g1_τ42).trans G1
            have G2 : τ42.2.1 2 = σ.2.1 2 := (g2_τ42).trans G2
            have G3 : τ42.2.1 3 = σ.2.1 3 := (g3_τ42).trans G3
            have G14 : τ42.2.1 14 = σ.2.1 14 := (g14_τ42).trans G14
            have G15 : τ42.2.1 15 = σ.2.1 15 := (g15_τ42).trans G15
            have G18 : τ42.2.1 18 = σ.2.1 18 := (g18_τ42).trans G18
            have G19 : τ42.2.1 19 = σ.2.1 19 := (g19_τ42).trans G19
            have G21 : τ42.2.1 21 = σ.2.1 21 := (g21_τ42).trans G21
            have G22 : τ42.2.1 22 = σ.2.1 22 := (g22_τ42).trans G22
            have G25 : τ42.2.1 25 = σ.2.1 25 := (g25_τ42).trans G25
            have G26 : τ42.2.1 26 = σ.2.1 26 := (g26_τ42).trans G26
            have G51 : τ42.2.1 51 = σ.2.1 51 := (g51_τ42).trans G51
            have G52 : τ42.2.1 52 = σ.2.1 52 := (g52_τ42).trans G52
            have G53 : τ42.2.1 53 = σ.2.1 53 := (g53_τ42).trans G53
            have G54 : τ42.2.1 54 = σ.2.1 54 := (g54_τ42).trans G54
            have G55 : τ42.2.1 55 = σ.2.1 55 := (g55_τ42).trans G55
            have A1 : ∀ j, 0 ≤ τ42.2.1 1 j ∧ τ42.2.1 1 j ≤ 255 := fun j => hT.2 1 j
            have A2 : ∀ j, 0 ≤ τ42.2.1 2 j ∧ τ42.2.1 2 j ≤ 30000 := fun j => hT.2 2 j
            have A3 : ∀ j, 0 ≤ τ42.2.1 3 j ∧ τ42.2.1 3 j ≤ 60 := fun j => hT.2 3 j
            have A6 : ∀ j, (-1) ≤ τ42.2.1 6 j ∧ τ42.2.1 6 j ≤ 999 := fun j => hT.2 6 j
            have A7 : ∀ j, (-1) ≤ τ42.2.1 7 j ∧ τ42.2.1 7 j ≤ 1499 := fun j => hT.2 7 j
            have A8 : ∀ j, 0 ≤ τ42.2.1 8 j ∧ τ42.2.1 8 j ≤ 1 := fun j => hT.2 8 j
            have A9 : ∀ j, 0 ≤ τ42.2.1 9 j ∧ τ42.2.1 9 j ≤ 1 := fun j => hT.2 9 j
            have A10 : ∀ j, (-1) ≤ τ42.2.1 10 j ∧ τ42.2.1 10 j ≤ 999 := fun j => hT.2 10 j
            have A11 : ∀ j, (-1) ≤ τ42.2.1 11 j ∧ τ42.2.1 11 j ≤ 1499 := fun j => hT.2 11 j
            have A12 : ∀ j, 0 ≤ τ42.2.1 12 j ∧ τ42.2.1 12 j ≤ 1 := fun j => hT.2 12 j
            have A14 : ∀ j, 0 ≤ τ42.2.1 14 j ∧ τ42.2.1 14 j ≤ 30000 := fun j => hT.2 14 j
            have A15 : ∀ j, 0 ≤ τ42.2.1 15 j ∧ τ42.2.1 15 j ≤ 300 := fun j => hT.2 15 j
            have A18 : ∀ j, 0 ≤ τ42.2.1 18 j ∧ τ42.2.1 18 j ≤ 90000 := fun j => hT.2 18 j
            have A19 : ∀ j, 0 ≤ τ42.2.1 19 j ∧ τ42.2.1 19 j ≤ 60 := fun j => hT.2 19 j
            have A21 : ∀ j, 0 ≤ τ42.2.1 21 j ∧ τ42.2.1 21 j ≤ 20000 := fun j => hT.2 21 j
            have A22 : ∀ j, 0 ≤ τ42.2.1 22 j ∧ τ42.2.1 22 j ≤ 20000 := fun j => hT.2 22 j
            have A25 : ∀ j, 0 ≤ τ42.2.1 25 j ∧ τ42.2.1 25 j ≤ 20000 := fun j => hT.2 25 j
            have A26 : ∀ j, 0 ≤ τ42.2.1 26 j ∧ τ42.2.1 26 j ≤ 20000 := fun j => hT.2 26 j
            have A51 : ∀ j, 0 ≤ τ42.2.1 51 j ∧ τ42.2.1 51 j ≤ 1 := fun j => hT.2 51 j
            have A52 : ∀ j, 0 ≤ τ42.2.1 52 j ∧ τ42.2.1 52 j ≤ 1 := fun j => hT.2 52 j
            have A53 : ∀ j, 0 ≤ τ42.2.1 53 j ∧ τ42.2.1 53 j ≤ 1 := fun j => hT.2 53 j
            have A54 : ∀ j, (-1) ≤ τ42.2.1 54 j ∧ τ42.2.1 54 j ≤ 999 := fun j => hT.2 54 j
            have A55 : ∀ j, (-1) ≤ τ42.2.1 55 j ∧ τ42.2.1 55 j ≤ 1499 := fun j => hT.2 55 j
            have v2 : 0 ≤ τ42.1 2 ∧ τ42.1 2 ≤ 30000 := hT.1 2
            have v3 : 0 ≤ τ42.1 3 ∧ τ42.1 3 ≤ 1000 := hT.1 3
            have v4 : 0 ≤ τ42.1 4 ∧ τ42.1 4 ≤ 100 := hT.1 4
            have v5 : 0 ≤ τ42.1 5 ∧ τ42.1 5 ≤ 1500 := hT.1 5
            have v6 : 0 ≤ τ42.1 6 ∧ τ42.1 6 ≤ 30000 := hT.1 6
            have v7 : 0 ≤ τ42.1 7 ∧ τ42.1 7 ≤ 90000 := hT.1 7
            have v8 : 0 ≤ τ42.1 8 ∧ τ42.1 8 ≤ 20000 := hT.1 8
            have v9 : 0 ≤ τ42.1 9 ∧ τ42.1 9 ≤ 20000 := hT.1 9
            have v10 : (-1) ≤ τ42.1 10 ∧ τ42.1 10 ≤ 999 := hT.1 10
            have v11 : (-1) ≤ τ42.1 11 ∧ τ42.1 11 ≤ 999 := hT.1 11
            have v12 : 0 ≤ τ42.1 12 ∧ τ42.1 12 ≤ 1000 := hT.1 12
            have v13 : 0 ≤ τ42.1 13 ∧ τ42.1 13 ≤ 1500 := hT.1 13
            have v14 : 0 ≤ τ42.1 14 ∧ τ42.1 14 ≤ 1000 := hT.1 14
            exact l_347 ((1001 - 0 : Int).toNat + 1) _ _ (show (1001 - 0 : Int) < (((1001 - 0 : Int).toNat + 1 : Nat) : Int) from by ((first | omega | (simp only [st_s] <;> omega) | assumption | omega | fail))) hT G1 G2 G3 G14 G15 G18 G19 G21 G22 G25 G26 G51 G52 G53 G54 G55 (show (τ42.1 3) = n1 from by (first | omega | (simp only [st_s] <;> omega) | assumption | omega | fail)) (show (τ42.1 5) = n2 from by (first | omega | (simp only [st_s] <;> omega) | assumption | omega | fail)) (show (τ42.1 12) ≤ n4 from by (first | omega | (simp only [st_s] <;> omega) | assumption | omega | fail)) (show (τ42.1 13) ≤ n5 from by (first | omega | (simp only [st_s] <;> omega) | assumption | omega | fail)) (show (n2 = 0 ∨ (τ42.1 6) = σ.2.1 14 (n2 - 1) + σ.2.1 15 (n2 - 1)) from by (first | omega | (simp only [st_s] <;> omega) | assumption | omega | fail)) (show (n2 = 0 ∨ (τ42.1 7) = σ.2.1 18 (n2 - 1) + σ.2.1 19 (n2 - 1)) ∧ (τ42.1 7) ≤ 60 * n2 from by (first | omega | (simp only [st_s] <;> omega) | assumption | omega | fail)) (show (n2 = 0 ∨ (τ42.1 8) = σ.2.1 21 (n2 - 1) + σ.2.1 22 (n2 - 1)) from by (first | omega | (simp only [st_s] <;> omega) | assumption | omega | fail)) (show (n2 = 0 ∨ (τ42.1 9) = σ.2.1 25 (n2 - 1) + σ.2.1 26 (n2 - 1)) from by (first | omega | (simp only [st_s] <;> omega) | assumption | omega | fail)) (show 0 ≤ 0 ∧ 0 ≤ n1 from by (first | omega | (simp only [st_s] <;> omega) | assumption | omega | fail)) (show (τ42.1 4) = ca (σ.2.1 53) n1 from by (first | omega | (rw [show n1 = u7_185 from by omega]; omega) | fail)) (show j_e0 n1 (σ.2.1 53) (τ42.2.1 12) from by (first | (rw [g12_τ46]; assumption) | (rw [g12_τ42, g12_τ_337]; exact j_e0w i185_11 (by omega)) | fail)) (show j_e0 n1 (σ.2.1 52) (τ42.2.1 9) from by (first | (rw [g9_τ46]; assumption) | (rw [g9_τ42, g9_τ_337]; exact j_e0w i185_12 (by omega)) | fail)) (show oc (τ42.2.1 6) ≤ 0 from by (first | omega | (have := oc_0 q40_1; omega) | fail)) (show j_l2 (τ42.2.1 6) n1 from by (first | (have q9 := q44_2; obtain ⟨e, he⟩ := q9; rw [he]; exact j_l2s i347_14 (Int.le_refl _) (by omega)) | (intro e h0 h1; rw [q40_1 e h0 h1]; omega) | fail)) (show oc (τ42.2.1 7) = 0 from by (first | omega | exact oc_0 q40_2 | fail)) (show ((σ.1 10) < n1 → (τ42.1 10) = (σ.1 10)) ∧ (n1 ≤ (σ.1 10) → (τ42.1 10) = -1) from by (first | omega | (simp only [st_s] <;> omega) | assumption | omega | fail)) (show ((σ.1 11) < n1 → (τ42.1 11) = (σ.1 11)) ∧ (n1 ≤ (σ.1 11) → (τ42.1 11) = -1) from by (first | omega | (simp only [st_s] <;> omega) | assumption | omega | fail)) (show n5 ≤ (σ.1 13) → (τ42.1 13) = n5 from by (first | omega | (simp only [st_s] <;> omega) | assumption | omega | fail)) (show (τ42.1 2) = n3 from by (first | omega | (simp only [st_s] <;> omega) | assumption | omega | fail)) (show j_eq 0 (σ.2.1 8) (τ42.2.1 8) from by (first | (rw [g8_τ46]; exact i347_20) | (rw [g8_τ42, g8_τ_337]; exact i185_17) | fail)) (show j_e0 n1 (σ.2.1 51) (τ42.2.1 8) from by (first | (rw [g8_τ46]; exact i347_21) | (rw [g8_τ42, g8_τ_337]; exact j_e0w i185_18 (by omega)) | fail)) (show j_e0 n1 (σ.2.1 54) (τ42.2.1 10) from by (first | (rw [g10_τ46]; exact i347_22) | (rw [g10_τ42, g10_τ_337]; exact j_e0w i185_19 (by omega)) | fail)) (show j_e0 n1 (σ.2.1 55) (τ42.2.1 11) from by (first | (rw [g11_τ46]; exact i347_23) | (rw [g11_τ42, g11_τ_337]; exact j_e0w i185_20 (by omega)) | fail)) (show n_tb 0 (σ.2.1 1) (σ.2.1 2) (σ.2.1 3) (τ42.2.1 6) from by (first | exact tb46 | (intro s a b; exfalso; omega) | fail))
      ·
        refine ⟨(show 0 ≤ u7_185 ∧ u7_185 < 1001 from by (first | omega | (simp only [st_s] <;> omega) | assumption | omega | fail)), ?_⟩
        intro x27 r_x27 e_x27
        have b_x27 : 0 ≤ x27 ∧ x27 ≤ 1 := by rw [e_x27]; exact hT.2 51 _
        refine ⟨(show 0 ≤ x27 ∧ x27 ≤ 1 from by (first | omega | (simp only [st_s] <;> omega) | assumption | omega | fail)), ?_⟩
        replace hT := mT_a (k := 8) (j := u7_185) hT (show (0 : Int) ≤ x27 ∧ x27 ≤ 1 from by (first | omega | (simp only [st_s] <;> omega) | assumption | omega | fail))
        intro x29 r_x29 e_x29
        have b_x29 : 0 ≤ x29 ∧ x29 ≤ 1 := by rw [e_x29]; exact hT.2 52 _
        refine ⟨(show 0 ≤ x29 ∧ x29 ≤ 1 from by (first | omega | (simp only [st_s] <;> omega) | assumption | omega | fail)), ?_⟩
        replace hT := mT_a (k := 9) (j := u7_185) hT (show (0 : Int) ≤ x29 ∧ x29 ≤ 1 from by (first | omega | (simp only [st_s] <;> omega) | assumption | omega | fail))
        intro x31 r_x31 e_x31
        have b_x31 : 0 ≤ x31 ∧ x31 ≤ 1 := by rw [e_x31]; exact hT.2 53 _
        refine ⟨(show 0 ≤ x31 ∧ x31 ≤ 1 from by (first | omega | (simp only [st_s] <;> omega) | assumption | omega | fail)), ?_⟩
        replace hT := mT_a (k := 12) (j := u7_185) hT (show (0 : Int) ≤ x31 ∧ x31 ≤ 1 from by (first | omega | (simp only [st_s] <;> omega) | assumption | omega | fail))
        intro x33 r_x33 e_x33
        have b_x33 : (-1) ≤ x33 ∧ x33 ≤ 999 := by rw [e_x33]; exact hT.2 54 _
        replace hT := mT_a (k := 10) (j := u7_185) hT (show (-1 : Int) ≤ x33 ∧ x33 ≤ 999 from by (first | omega | (simp only [st_s] <;> omega) | assumption | omega | fail))
        intro x34 r_x34 e_x34
        have b_x34 : (-1) ≤ x34 ∧ x34 ≤ 1499 := by rw [e_x34]; exact hT.2 55 _
        replace hT := mT_a (k := 11) (j := u7_185) hT (show (-1 : Int) ≤ x34 ∧ x34 ≤ 1499 from by (first | omega | (simp only [st_s] <;> omega) | assumption | omega | fail))
        intro x35 r_x35 e_x35
        have b_x35 : 0 ≤ x35 ∧ x35 ≤ 1 := by rw [e_x35]; exact hT.2 12 _
        refine ⟨fun c36 => ?_, fun c36 => ?_⟩
        ·
          rw [st_s] at e_x35
          rw [G53] at e_x31
          rw [G52] at e_x29
          rw [G51] at e_x27
          rw [G54] at e_x33
          rw [G55] at e_x34
          exact l_284 _ _ _ _ hT G1 G2 G3 G14 G15 G18 G19 G21 G22 G25 G26 G51 G52 G53 G54 G55 (show (τ_185.1 3) = n1 from by (first | omega | (simp only [st_s] <;> omega) | assumption | omega | fail)) (show (τ_185.1 5) = n2 from by (first | omega | (simp only [st_s] <;> omega) | assumption | omega | fail)) (show (τ_185.1 12) ≤ n4 from by (first | omega | (simp only [st_s] <;> omega) | assumption | omega | fail)) (show (τ_185.1 13) ≤ n5 from by (first | omega | (simp only [st_s] <;> omega) | assumption | omega | fail)) (show (n2 = 0 ∨ (τ_185.1 6) = σ.2.1 14 (n2 - 1) + σ.2.1 15 (n2 - 1)) from by (first | omega | (simp only [st_s] <;> omega) | assumption | omega | fail)) (show (n2 = 0 ∨ (τ_185.1 7) = σ.2.1 18 (n2 - 1) + σ.2.1 19 (n2 - 1)) ∧ (τ_185.1 7) ≤ 60 * n2 from by (first | omega | (simp only [st_s] <;> omega) | assumption | omega | fail)) (show (n2 = 0 ∨ (τ_185.1 8) = σ.2.1 21 (n2 - 1) + σ.2.1 22 (n2 - 1)) from by (first | omega | (simp only [st_s] <;> omega) | assumption | omega | fail)) (show (n2 = 0 ∨ (τ_185.1 9) = σ.2.1 25 (n2 - 1) + σ.2.1 26 (n2 - 1)) from by (first | omega | (simp only [st_s] <;> omega) | assumption | omega | fail)) (show 0 ≤ u7_185 ∧ u7_185 < n1 from by (first | omega | (simp only [st_s] <;> omega) | assumption | omega | fail)) (show (σ.2.1 53 u7_185 = 0 ∧ 0 = 0) ∨ (¬ σ.2.1 53 u7_185 = 0 ∧ 0 = 1) from by (first | omega | (simp only [st_s] <;> omega) | assumption | omega | fail)) (show (τ_185.1 4) = ca (σ.2.1 53) u7_185 from by (first | omega | (simp only [st_s] <;> omega) | assumption | omega | fail)) (show (τ_185.1 4) = ca (σ.2.1 53) u7_185 from by (first | omega | (simp only [st_s] <;> omega) | assumption | omega | fail)) (show j_e0 (u7_185 + 1) (σ.2.1 53) ((st (τ_185.2.1 12) u7_185 x31)) from by (rw [e_x31]; exact j_e0p i185_11)) (show j_e0 (u7_185 + 1) (σ.2.1 52) ((st (τ_185.2.1 9) u7_185 x29)) from by (rw [e_x29]; exact j_e0p i185_12)) (show u7_185 + (m_185 : Int) ≥ 1001 from by (first | omega | (simp only [st_s] <;> omega) | assumption | omega | fail)) (show (τ_185.1 10) = (σ.1 10) from by (first | omega | (simp only [st_s] <;> omega) | assumption | omega | fail)) (show (τ_185.1 11) = (σ.1 11) from by (first | omega | (simp only [st_s] <;> omega) | assumption | omega | fail)) (show n5 ≤ (σ.1 13) → (τ_185.1 13) = n5 from by (first | omega | (simp only [st_s] <;> omega) | assumption | omega | fail)) (show (τ_185.1 2) = n3 from by (first | omega | (simp only [st_s] <;> omega) | assumption | omega | fail)) (show j_eq 0 (σ.2.1 8) ((st (τ_185.2.1 8) u7_185 x27)) from by exact j_eqs i185_17 (by omega)) (show j_e0 (u7_185 + 1) (σ.2.1 51) ((st (τ_185.2.1 8) u7_185 x27)) from by (rw [e_x27]; exact j_e0p i185_18)) (show j_e0 (u7_185 + 1) (σ.2.1 54) ((st (τ_185.2.1 10) u7_185 x33)) from by (rw [e_x33]; exact j_e0p i185_19)) (show j_e0 (u7_185 + 1) (σ.2.1 55) ((st (τ_185.2.1 11) u7_185 x34)) from by (rw [e_x34]; exact j_e0p i185_20))
        ·
          rw [st_s] at e_x35
          rw [G53] at e_x31
          rw [G52] at e_x29
          rw [G51] at e_x27
          rw [G54] at e_x33
          rw [G55] at e_x34
          exact l_284 _ _ _ _ hT G1 G2 G3 G14 G15 G18 G19 G21 G22 G25 G26 G51 G52 G53 G54 G55 (show (τ_185.1 3) = n1 from by (first | omega | (simp only [st_s] <;> omega) | assumption | omega | fail)) (show (τ_185.1 5) = n2 from by (first | omega | (simp only [st_s] <;> omega) | assumption | omega | fail)) (show (τ_185.1 12) ≤ n4 from by (first | omega | (simp only [st_s] <;> omega) | assumption | omega | fail)) (show (τ_185.1 13) ≤ n5 from by (first | omega | (simp only [st_s] <;> omega) | assumption | omega | fail)) (show (n2 = 0 ∨ (τ_185.1 6) = σ.2.1 14 (n2 - 1) + σ.2.1 15 (n2 - 1)) from by (first | omega | (simp only [st_s] <;> omega) | assumption | omega | fail)) (show (n2 = 0 ∨ (τ_185.1 7) = σ.2.1 18 (n2 - 1) + σ.2.1 19 (n2 - 1)) ∧ (τ_185.1 7) ≤ 60 * n2 from by (first | omega | (simp only [st_s] <;> omega) | assumption | omega | fail)) (show (n2 = 0 ∨ (τ_185.1 8) = σ.2.1 21 (n2 - 1) + σ.2.1 22 (n2 - 1)) from by (first | omega | (simp only [st_s] <;> omega) | assumption | omega | fail)) (show (n2 = 0 ∨ (τ_185.1 9) = σ.2.1 25 (n2 - 1) + σ.2.1 26 (n2 - 1)) from by (first | omega | (simp only [st_s] <;> omega) | assumption | omega | fail)) (show 0 ≤ u7_185 ∧ u7_185 < n1 from by (first | omega | (simp only [st_s] <;> omega) | assumption | omega | fail)) (show (σ.2.1 53 u7_185 = 0 ∧ 1 = 0) ∨ (¬ σ.2.1 53 u7_185 = 0 ∧ 1 = 1) from by (first | omega | (simp only [st_s] <;> omega) | assumption | omega | fail)) (show (τ_185.1 4) = ca (σ.2.1 53) u7_185 from by (first | omega | (simp only [st_s] <;> omega) | assumption | omega | fail)) (show (τ_185.1 4) = ca (σ.2.1 53) u7_185 from by (first | omega | (simp only [st_s] <;> omega) | assumption | omega | fail)) (show j_e0 (u7_185 + 1) (σ.2.1 53) ((st (τ_185.2.1 12) u7_185 x31)) from by (rw [e_x31]; exact j_e0p i185_11)) (show j_e0 (u7_185 + 1) (σ.2.1 52) ((st (τ_185.2.1 9) u7_185 x29)) from by (rw [e_x29]; exact j_e0p i185_12)) (show u7_185 + (m_185 : Int) ≥ 1001 from by (first | omega | (simp only [st_s] <;> omega) | assumption | omega | fail)) (show (τ_185.1 10) = (σ.1 10) from by (first | omega | (simp only [st_s] <;> omega) | assumption | omega | fail)) (show (τ_185.1 11) = (σ.1 11) from by (first | omega | (simp only [st_s] <;> omega) | assumption | omega | fail)) (show n5 ≤ (σ.1 13) → (τ_185.1 13) = n5 from by (first | omega | (simp only [st_s] <;> omega) | assumption | omega | fail)) (show (τ_185.1 2) = n3 from by (first | omega | (simp only [st_s] <;> omega) | assumption | omega | fail)) (show j_eq 0 (σ.2.1 8) ((st (τ_185.2.1 8) u7_185 x27)) from by exact j_eqs i185_17 (by omega)) (show j_e0 (u7_185 + 1) (σ.2.1 51) ((st (τ_185.2.1 8) u7_185 x27)) from by (rw [e_x27]; exact j_e0p i185_18)) (show j_e0 (u7_185 + 1) (σ.2.1 54) ((st (τ_185.2.1 10) u7_185 x33)) from by (rw [e_x33]; exact j_e0p i185_19)) (show j_e0 (u7_185 + 1) (σ.2.1 55) ((st (τ_185.2.1 11) u7_185 x34)) from by (rw [e_x34]; exact j_e0p i185_20))
  have l_174 : ∀ (k1_174 : Int) (τ_174 : S0), (m_T τ_174) → (τ_174.2.1 1 = σ.2.1 1) → (τ_174.2.1 2 = σ.2.1 2) → (τ_174.2.1 3 = σ.2.1 3) → (τ_174.2.1 14 = σ.2.1 14) → (τ_174.2.1 15 = σ.2.1 15) → (τ_174.2.1 18 = σ.2.1 18) → (τ_174.2.1 19 = σ.2.1 19) → (τ_174.2.1 21 = σ.2.1 21) → (τ_174.2.1 22 = σ.2.1 22) → (τ_174.2.1 25 = σ.2.1 25) → (τ_174.2.1 26 = σ.2.1 26) → (τ_174.2.1 51 = σ.2.1 51) → (τ_174.2.1 52 = σ.2.1 52) → (τ_174.2.1 53 = σ.2.1 53) → (τ_174.2.1 54 = σ.2.1 54) → (τ_174.2.1 55 = σ.2.1 55) → ((τ_174.1 3) = n1) → ((τ_174.1 5) = n2) → ((τ_174.1 12) ≤ n4) → ((τ_174.1 13) ≤ n5) → (n2 = 0 ∨ (τ_174.1 6) = σ.2.1 14 (n2 - 1) + σ.2.1 15 (n2 - 1)) → ((n2 = 0 ∨ (τ_174.1 7) = σ.2.1 18 (n2 - 1) + σ.2.1 19 (n2 - 1)) ∧ (τ_174.1 7) ≤ 60 * n2) → (n2 = 0 ∨ (τ_174.1 8) = σ.2.1 21 (n2 - 1) + σ.2.1 22 (n2 - 1)) → (n2 = 0 ∨ k1_174 = σ.2.1 25 (n2 - 1) + σ.2.1 26 (n2 - 1)) → (0 ≤ k1_174) → (k1_174 ≤ 20000) → ((τ_174.1 10) = (σ.1 10)) → ((τ_174.1 11) = (σ.1 11)) → (n5 ≤ (σ.1 13) → (τ_174.1 13) = n5) → ((τ_174.1 2) = n3) → (j_eq 0 (σ.2.1 8) (τ_174.2.1 8)) → P174 k1_174 τ_174 := by
    intro k1_174 τ_174 hT G1 G2 G3 G14 G15 G18 G19 G21 G22 G25 G26 G51 G52 G53 G54 G55 i174_1 i174_2 i174_3 i174_4 i174_5 i174_6 i174_7 i174_8 i174_9 i174_10 i174_11 i174_12 i174_13 i174_14 i174_15
    have A1 : ∀ j, 0 ≤ τ_174.2.1 1 j ∧ τ_174.2.1 1 j ≤ 255 := fun j => hT.2 1 j
    have A2 : ∀ j, 0 ≤ τ_174.2.1 2 j ∧ τ_174.2.1 2 j ≤ 30000 := fun j => hT.2 2 j
    have A3 : ∀ j, 0 ≤ τ_174.2.1 3 j ∧ τ_174.2.1 3 j ≤ 60 := fun j => hT.2 3 j
    have A6 : ∀ j, (-1) ≤ τ_174.2.1 6 j ∧ τ_174.2.1 6 j ≤ 999 := fun j => hT.2 6 j
    have A7 : ∀ j, (-1) ≤ τ_174.2.1 7 j ∧ τ_174.2.1 7 j ≤ 1499 := fun j => hT.2 7 j
    have A8 : ∀ j, 0 ≤ τ_174.2.1 8 j ∧ τ_174.2.1 8 j ≤ 1 := fun j => hT.2 8 j
    have A9 : ∀ j, 0 ≤ τ_174.2.1 9 j ∧ τ_174.2.1 9 j ≤ 1 := fun j => hT.2 9 j
    have A10 : ∀ j, (-1) ≤ τ_174.2.1 10 j ∧ τ_174.2.1 10 j ≤ 999 := fun j => hT.2 10 j
    have A11 : ∀ j, (-1) ≤ τ_174.2.1 11 j ∧ τ_174.2.1 11 j ≤ 1499 := fun j => hT.2 11 j
    have A12 : ∀ j, 0 ≤ τ_174.2.1 12 j ∧ τ_174.2.1 12 j ≤ 1 := fun j => hT.2 12 j
    have A14 : ∀ j, 0 ≤ τ_174.2.1 14 j ∧ τ_174.2.1 14 j ≤ 30000 := fun j => hT.2 14 j
    have A15 : ∀ j, 0 ≤ τ_174.2.1 15 j ∧ τ_174.2.1 15 j ≤ 300 := fun j => hT.2 15 j
    have A18 : ∀ j, 0 ≤ τ_174.2.1 18 j ∧ τ_174.2.1 18 j ≤ 90000 := fun j => hT.2 18 j
    have A19 : ∀ j, 0 ≤ τ_174.2.1 19 j ∧ τ_174.2.1 19 j ≤ 60 := fun j => hT.2 19 j
    have A21 : ∀ j, 0 ≤ τ_174.2.1 21 j ∧ τ_174.2.1 21 j ≤ 20000 := fun j => hT.2 21 j
    have A22 : ∀ j, 0 ≤ τ_174.2.1 22 j ∧ τ_174.2.1 22 j ≤ 20000 := fun j => hT.2 22 j
    have A25 : ∀ j, 0 ≤ τ_174.2.1 25 j ∧ τ_174.2.1 25 j ≤ 20000 := fun j => hT.2 25 j
    have A26 : ∀ j, 0 ≤ τ_174.2.1 26 j ∧ τ_174.2.1 26 j ≤ 20000 := fun j => hT.2 26 j
    have A51 : ∀ j, 0 ≤ τ_174.2.1 51 j ∧ τ_174.2.1 51 j ≤ 1 := fun j => hT.2 51 j
    have A52 : ∀ j, 0 ≤ τ_174.2.1 52 j ∧ τ_174.2.1 52 j ≤ 1 := fun j => hT.2 52 j
    have A53 : ∀ j, 0 ≤ τ_174.2.1 53 j ∧ τ_174.2.1 53 j ≤ 1 := fun j => hT.2 53 j
    have A54 : ∀ j, (-1) ≤ τ_174.2.1 54 j ∧ τ_174.2.1 54 j ≤ 999 := fun j => hT.2 54 j
    have A55 : ∀ j, (-1) ≤ τ_174.2.1 55 j ∧ τ_174.2.1 55 j ≤ 1499 := fun j => hT.2 55 j
    have v2 : 0 ≤ τ_174.1 2 ∧ τ_174.1 2 ≤ 30000 := hT.1 2
    have v3 : 0 ≤ τ_174.1 3 ∧ τ_174.1 3 ≤ 1000 := hT.1 3
    have v4 : 0 ≤ τ_174.1 4 ∧ τ_174.1 4 ≤ 100 := hT.1 4
    have v5 : 0 ≤ τ_174.1 5 ∧ τ_174.1 5 ≤ 1500 := hT.1 5
    have v6 : 0 ≤ τ_174.1 6 ∧ τ_174.1 6 ≤ 30000 := hT.1 6
    have v7 : 0 ≤ τ_174.1 7 ∧ τ_174.1 7 ≤ 90000 := hT.1 7
    have v8 : 0 ≤ τ_174.1 8 ∧ τ_174.1 8 ≤ 20000 := hT.1 8
    have v9 : 0 ≤ τ_174.1 9 ∧ τ_174.1 9 ≤ 20000 := hT.1 9
    have v10 : (-1) ≤ τ_174.1 10 ∧ τ_174.1 10 ≤ 999 := hT.1 10
    have v11 : (-1) ≤ τ_174.1 11 ∧ τ_174.1 11 ≤ 999 := hT.1 11
    have v12 : 0 ≤ τ_174.1 12 ∧ τ_174.1 12 ≤ 1000 := hT.1 12
    have v13 : 0 ≤ τ_174.1 13 ∧ τ_174.1 13 ≤ 1500 := hT.1 13
    have v14 : 0 ≤ τ_174.1 14 ∧ τ_174.1 14 ≤ 1000 := hT.1 14
    refine h174 k1_174 τ_174 ?_
    replace hT := mT_v (i := 9) hT (show 0 ≤ k1_174 ∧ k1_174 ≤ 20000 from by (first | omega | (simp only [st_s] <;> omega) | assumption | omega | fail))
    replace hT := mT_v (i := 4) hT (show (0 : Int) ≤ 0 ∧ 0 ≤ 100 from by (first | omega | (simp only [st_s] <;> omega) | assumption | omega | fail))
    exact l_185 ((1001 - 0 : Int).toNat + 1) _ _ (show (1001 - 0 : Int) < (((1001 - 0 : Int).toNat + 1 : Nat) : Int) from by ((first | omega | (simp only [st_s] <;> omega) | assumption | omega | fail))) hT G1 G2 G3 G14 G15 G18 G19 G21 G22 G25 G26 G51 G52 G53 G54 G55 (show (τ_174.1 3) = n1 from by (first | omega | (simp only [st_s] <;> omega) | assumption | omega | fail)) (show (τ_174.1 5) = n2 from by (first | omega | (simp only [st_s] <;> omega) | assumption | omega | fail)) (show (τ_174.1 12) ≤ n4 from by (first | omega | (simp only [st_s] <;> omega) | assumption | omega | fail)) (show (τ_174.1 13) ≤ n5 from by (first | omega | (simp only [st_s] <;> omega) | assumption | omega | fail)) (show (n2 = 0 ∨ (τ_174.1 6) = σ.2.1 14 (n2 - 1) + σ.2.1 15 (n2 - 1)) from by (first | omega | (simp only [st_s] <;> omega) | assumption | omega | fail)) (show (n2 = 0 ∨ (τ_174.1 7) = σ.2.1 18 (n2 - 1) + σ.2.1 19 (n2 - 1)) ∧ (τ_174.1 7) ≤ 60 * n2 from by (first | omega | (simp only [st_s] <;> omega) | assumption | omega | fail)) (show (n2 = 0 ∨ (τ_174.1 8) = σ.2.1 21 (n2 - 1) + σ.2.1 22 (n2 - 1)) from by (first | omega | (simp only [st_s] <;> omega) | assumption | omega | fail)) (show (n2 = 0 ∨ (k1_174) = σ.2.1 25 (n2 - 1) + σ.2.1 26 (n2 - 1)) from by (first | omega | (simp only [st_s] <;> omega) | assumption | omega | fail)) (show 0 ≤ 0 ∧ 0 ≤ n1 from by (first | omega | (simp only [st_s] <;> omega) | assumption | omega | fail)) (show ((0 : Int)) = ca (σ.2.1 53) 0 from by (first | rfl | omega | fail)) (show j_e0 0 (σ.2.1 53) (τ_174.2.1 12) from by (first | assumption | (intro j h0 h1; exfalso; omega) | fail)) (show j_e0 0 (σ.2.1 52) (τ_174.2.1 9) from by (first | assumption | (intro j h0 h1; exfalso; omega) | fail)) (show (τ_174.1 10) = (σ.1 10) from by (first | omega | (simp only [st_s] <;> omega) | assumption | omega | fail)) (show (τ_174.1 11) = (σ.1 11) from by (first | omega | (simp only [st_s] <;> omega) | assumption | omega | fail)) (show n5 ≤ (σ.1 13) → (τ_174.1 13) = n5 from by (first | omega | (simp only [st_s] <;> omega) | assumption | omega | fail)) (show (τ_174.1 2) = n3 from by (first | omega | (simp only [st_s] <;> omega) | assumption | omega | fail)) (show j_eq 0 (σ.2.1 8) (τ_174.2.1 8) from by (first | exact i174_15 | exact i284_20 | fail)) (show j_e0 0 (σ.2.1 51) (τ_174.2.1 8) from by (first | exact i284_21 | (intro j h0 h1; exfalso; omega) | fail)) (show j_e0 0 (σ.2.1 54) (τ_174.2.1 10) from by (first | exact i284_22 | (intro j h0 h1; exfalso; omega) | fail)) (show j_e0 0 (σ.2.1 55) (τ_174.2.1 11) from by (first | exact i284_23 | (intro j h0 h1; exfalso; omega) | fail))
  have l_136 : ∀ (k1_136 : Int) (τ_136 : S0), (m_T τ_136) → (τ_136.2.1 1 = σ.2.1 1) → (τ_136.2.1 2 = σ.2.1 2) → (τ_136.2.1 3 = σ.2.1 3) → (τ_136.2.1 14 = σ.2.1 14) → (τ_136.2.1 15 = σ.2.1 15) → (τ_136.2.1 18 = σ.2.1 18) → (τ_136.2.1 19 = σ.2.1 19) → (τ_136.2.1 21 = σ.2.1 21) → (τ_136.2.1 22 = σ.2.1 22) → (τ_136.2.1 25 = σ.2.1 25) → (τ_136.2.1 26 = σ.2.1 26) → (τ_136.2.1 51 = σ.2.1 51) → (τ_136.2.1 52 = σ.2.1 52) → (τ_136.2.1 53 = σ.2.1 53) → (τ_136.2.1 54 = σ.2.1 54) → (τ_136.2.1 55 = σ.2.1 55) → ((τ_136.1 3) = n1) → ((τ_136.1 5) = n2) → ((τ_136.1 12) ≤ n4) → ((τ_136.1 13) ≤ n5) → (n2 = 0 ∨ (τ_136.1 6) = σ.2.1 14 (n2 - 1) + σ.2.1 15 (n2 - 1)) → ((n2 = 0 ∨ (τ_136.1 7) = σ.2.1 18 (n2 - 1) + σ.2.1 19 (n2 - 1)) ∧ (τ_136.1 7) ≤ 60 * n2) → (n2 = 0 ∨ k1_136 = σ.2.1 21 (n2 - 1) + σ.2.1 22 (n2 - 1)) → (0 ≤ k1_136) → (k1_136 ≤ 20000) → ((τ_136.1 10) = (σ.1 10)) → ((τ_136.1 11) = (σ.1 11)) → (n5 ≤ (σ.1 13) → (τ_136.1 13) = n5) → ((τ_136.1 2) = n3) → (j_eq 0 (σ.2.1 8) (τ_136.2.1 8)) → P136 k1_136 τ_136 := by
    intro k1_136 τ_136 hT G1 G2 G3 G14 G15 G18 G19 G21 G22 G25 G26 G51 G52 G53 G54 G55 i136_1 i136_2 i136_3 i136_4 i136_5 i136_6 i136_7 i136_8 i136_9 i136_10 i136_11 i136_12 i136_13 i136_14
    have A1 : ∀ j, 0 ≤ τ_136.2.1 1 j ∧ τ_136.2.1 1 j ≤ 255 := fun j => hT.2 1 j
    have A2 : ∀ j, 0 ≤ τ_136.2.1 2 j ∧ τ_136.2.1 2 j ≤ 30000 := fun j => hT.2 2 j
    have A3 : ∀ j, 0 ≤ τ_136.2.1 3 j ∧ τ_136.2.1 3 j ≤ 60 := fun j => hT.2 3 j
    have A6 : ∀ j, (-1) ≤ τ_136.2.1 6 j ∧ τ_136.2.1 6 j ≤ 999 := fun j => hT.2 6 j
    have A7 : ∀ j, (-1) ≤ τ_136.2.1 7 j ∧ τ_136.2.1 7 j ≤ 1499 := fun j => hT.2 7 j
    have A8 : ∀ j, 0 ≤ τ_136.2.1 8 j ∧ τ_136.2.1 8 j ≤ 1 := fun j => hT.2 8 j
    have A9 : ∀ j, 0 ≤ τ_136.2.1 9 j ∧ τ_136.2.1 9 j ≤ 1 := fun j => hT.2 9 j
    have A10 : ∀ j, (-1) ≤ τ_136.2.1 10 j ∧ τ_136.2.1 10 j ≤ 999 := fun j => hT.2 10 j
    have A11 : ∀ j, (-1) ≤ τ_136.2.1 11 j ∧ τ_136.2.1 11 j ≤ 1499 := fun j => hT.2 11 j
    have A12 : ∀ j, 0 ≤ τ_136.2.1 12 j ∧ τ_136.2.1 12 j ≤ 1 := fun j => hT.2 12 j
    have A14 : ∀ j, 0 ≤ τ_136.2.1 14 j ∧ τ_136.2.1 14 j ≤ 30000 := fun j => hT.2 14 j
    have A15 : ∀ j, 0 ≤ τ_136.2.1 15 j ∧ τ_136.2.1 15 j ≤ 300 := fun j => hT.2 15 j
    have A18 : ∀ j, 0 ≤ τ_136.2.1 18 j ∧ τ_136.2.1 18 j ≤ 90000 := fun j => hT.2 18 j
    have A19 : ∀ j, 0 ≤ τ_136.2.1 19 j ∧ τ_136.2.1 19 j ≤ 60 := fun j => hT.2 19 j
    have A21 : ∀ j, 0 ≤ τ_136.2.1 21 j ∧ τ_136.2.1 21 j ≤ 20000 := fun j => hT.2 21 j
    have A22 : ∀ j, 0 ≤ τ_136.2.1 22 j ∧ τ_136.2.1 22 j ≤ 20000 := fun j => hT.2 22 j
    have A25 : ∀ j, 0 ≤ τ_136.2.1 25 j ∧ τ_136.2.1 25 j ≤ 20000 := fun j => hT.2 25 j
    have A26 : ∀ j, 0 ≤ τ_136.2.1 26 j ∧ τ_136.2.1 26 j ≤ 20000 := fun j => hT.2 26 j
    have A51 : ∀ j, 0 ≤ τ_136.2.1 51 j ∧ τ_136.2.1 51 j ≤ 1 := fun j => hT.2 51 j
    have A52 : ∀ j, 0 ≤ τ_136.2.1 52 j ∧ τ_136.2.1 52 j ≤ 1 := fun j => hT.2 52 j
    have A53 : ∀ j, 0 ≤ τ_136.2.1 53 j ∧ τ_136.2.1 53 j ≤ 1 := fun j => hT.2 53 j
    have A54 : ∀ j, (-1) ≤ τ_136.2.1 54 j ∧ τ_136.2.1 54 j ≤ 999 := fun j => hT.2 54 j
    have A55 : ∀ j, (-1) ≤ τ_136.2.1 55 j ∧ τ_136.2.1 55 j ≤ 1499 := fun j => hT.2 55 j
    have v2 : 0 ≤ τ_136.1 2 ∧ τ_136.1 2 ≤ 30000 := hT.1 2
    have v3 : 0 ≤ τ_136.1 3 ∧ τ_136.1 3 ≤ 1000 := hT.1 3
    have v4 : 0 ≤ τ_136.1 4 ∧ τ_136.1 4 ≤ 100 := hT.1 4
    have v5 : 0 ≤ τ_136.1 5 ∧ τ_136.1 5 ≤ 1500 := hT.1 5
    have v6 : 0 ≤ τ_136.1 6 ∧ τ_136.1 6 ≤ 30000 := hT.1 6
    have v7 : 0 ≤ τ_136.1 7 ∧ τ_136.1 7 ≤ 90000 := hT.1 7
    have v8 : 0 ≤ τ_136.1 8 ∧ τ_136.1 8 ≤ 20000 := hT.1 8
    have v9 : 0 ≤ τ_136.1 9 ∧ τ_136.1 9 ≤ 20000 := hT.1 9
    have v10 : (-1) ≤ τ_136.1 10 ∧ τ_136.1 10 ≤ 999 := hT.1 10
    have v11 : (-1) ≤ τ_136.1 11 ∧ τ_136.1 11 ≤ 999 := hT.1 11
    have v12 : 0 ≤ τ_136.1 12 ∧ τ_136.1 12 ≤ 1000 := hT.1 12
    have v13 : 0 ≤ τ_136.1 13 ∧ τ_136.1 13 ≤ 1500 := hT.1 13
    have v14 : 0 ≤ τ_136.1 14 ∧ τ_136.1 14 ≤ 1000 := hT.1 14
    refine h136 k1_136 τ_136 ?_
    replace hT := mT_v (i := 8) hT (show 0 ≤ k1_136 ∧ k1_136 ≤ 20000 from by (first | omega | (simp only [st_s] <;> omega) | assumption | omega | fail))
    refine ⟨fun c19 => ?_, fun c19 => ?_⟩
    ·
      refine ⟨(show 0 ≤ (τ_136.1 5 - 1) ∧ (τ_136.1 5 - 1) < 1501 from by (first | omega | (simp only [st_s] <;> omega) | assumption | omega | fail)), ?_⟩
      intro x21 r_x21 e_x21
      have b_x21 : 0 ≤ x21 ∧ x21 ≤ 20000 := by rw [e_x21]; exact hT.2 25 _
      intro x22 r_x22 e_x22
      have b_x22 : 0 ≤ x22 ∧ x22 ≤ 20000 := by rw [e_x22]; exact hT.2 26 _
      rw [G25, i136_2] at e_x21
      rw [G26, i136_2] at e_x22
      refine ⟨(⟨by (first | omega | (simp only [st_s] <;> omega) | assumption | omega | fail), by (first | omega | (simp only [st_s] <;> omega) | assumption | omega | fail)⟩ : rg (x21 + x22)), ?_⟩
      exact l_174 _ _ hT G1 G2 G3 G14 G15 G18 G19 G21 G22 G25 G26 G51 G52 G53 G54 G55 (show (τ_136.1 3) = n1 from by (first | omega | (simp only [st_s] <;> omega) | assumption | omega | fail)) (show (τ_136.1 5) = n2 from by (first | omega | (simp only [st_s] <;> omega) | assumption | omega | fail)) (show (τ_136.1 12) ≤ n4 from by (first | omega | (simp only [st_s] <;> omega) | assumption | omega | fail)) (show (τ_136.1 13) ≤ n5 from by (first | omega | (simp only [st_s] <;> omega) | assumption | omega | fail)) (show (n2 = 0 ∨ (τ_136.1 6) = σ.2.1 14 (n2 - 1) + σ.2.1 15 (n2 - 1)) from by (first | omega | (simp only [st_s] <;> omega) | assumption | omega | fail)) (show (n2 = 0 ∨ (τ_136.1 7) = σ.2.1 18 (n2 - 1) + σ.2.1 19 (n2 - 1)) ∧ (τ_136.1 7) ≤ 60 * n2 from by (first | omega | (simp only [st_s] <;> omega) | assumption | omega | fail)) (show (n2 = 0 ∨ (k1_136) = σ.2.1 21 (n2 - 1) + σ.2.1 22 (n2 - 1)) from by (first | omega | (simp only [st_s] <;> omega) | assumption | omega | fail)) (show (n2 = 0 ∨ (x21 + x22) = σ.2.1 25 (n2 - 1) + σ.2.1 26 (n2 - 1)) from by (first | omega | (simp only [st_s] <;> omega) | assumption | omega | fail)) (show 0 ≤ (x21 + x22) from by (first | omega | (simp only [st_s] <;> omega) | assumption | omega | fail)) (show (x21 + x22) ≤ 20000 from by (first | omega | (simp only [st_s] <;> omega) | assumption | omega | fail)) (show (τ_136.1 10) = (σ.1 10) from by (first | omega | (simp only [st_s] <;> omega) | assumption | omega | fail)) (show (τ_136.1 11) = (σ.1 11) from by (first | omega | (simp only [st_s] <;> omega) | assumption | omega | fail)) (show n5 ≤ (σ.1 13) → (τ_136.1 13) = n5 from by (first | omega | (simp only [st_s] <;> omega) | assumption | omega | fail)) (show (τ_136.1 2) = n3 from by (first | omega | (simp only [st_s] <;> omega) | assumption | omega | fail)) (show j_eq 0 (σ.2.1 8) (τ_136.2.1 8) from by exact i136_14)
    ·
      exact l_174 _ _ hT G1 G2 G3 G14 G15 G18 G19 G21 G22 G25 G26 G51 G52 G53 G54 G55 (show (τ_136.1 3) = n1 from by (first | omega | (simp only [st_s] <;> omega) | assumption | omega | fail)) (show (τ_136.1 5) = n2 from by (first | omega | (simp only [st_s] <;> omega) | assumption | omega | fail)) (show (τ_136.1 12) ≤ n4 from by (first | omega | (simp only [st_s] <;> omega) | assumption | omega | fail)) (show (τ_136.1 13) ≤ n5 from by (first | omega | (simp only [st_s] <;> omega) | assumption | omega | fail)) (show (n2 = 0 ∨ (τ_136.1 6) = σ.2.1 14 (n2 - 1) + σ.2.1 15 (n2 - 1)) from by (first | omega | (simp only [st_s] <;> omega) | assumption | omega | fail)) (show (n2 = 0 ∨ (τ_136.1 7) = σ.2.1 18 (n2 - 1) + σ.2.1 19 (n2 - 1)) ∧ (τ_136.1 7) ≤ 60 * n2 from by (first | omega | (simp only [st_s] <;> omega) | assumption | omega | fail)) (show (n2 = 0 ∨ (k1_136) = σ.2.1 21 (n2 - 1) + σ.2.1 22 (n2 - 1)) from by (first | omega | (simp only [st_s] <;> omega) | assumption | omega | fail)) (show (n2 = 0 ∨ 0 = σ.2.1 25 (n2 - 1) + σ.2.1 26 (n2 - 1)) from by (first | omega | (simp only [st_s] <;> omega) | assumption | omega | fail)) (show 0 ≤ 0 from by (first | omega | (simp only [st_s] <;> omega) | assumption | omega | fail)) (show 0 ≤ 20000 from by (first | omega | (simp only [st_s] <;> omega) | assumption | omega | fail)) (show (τ_136.1 10) = (σ.1 10) from by (first | omega | (simp only [st_s] <;> omega) | assumption | omega | fail)) (show (τ_136.1 11) = (σ.1 11) from by (first | omega | (simp only [st_s] <;> omega) | assumption | omega | fail)) (show n5 ≤ (σ.1 13) → (τ_136.1 13) = n5 from by (first | omega | (simp only [st_s] <;> omega) | assumption | omega | fail)) (show (τ_136.1 2) = n3 from by (first | omega | (simp only [st_s] <;> omega) | assumption | omega | fail)) (show j_eq 0 (σ.2.1 8) (τ_136.2.1 8) from by exact i136_14)
  have l_98 : ∀ (k1_98 : Int) (τ_98 : S0), (m_T τ_98) → (τ_98.2.1 1 = σ.2.1 1) → (τ_98.2.1 2 = σ.2.1 2) → (τ_98.2.1 3 = σ.2.1 3) → (τ_98.2.1 14 = σ.2.1 14) → (τ_98.2.1 15 = σ.2.1 15) → (τ_98.2.1 18 = σ.2.1 18) → (τ_98.2.1 19 = σ.2.1 19) → (τ_98.2.1 21 = σ.2.1 21) → (τ_98.2.1 22 = σ.2.1 22) → (τ_98.2.1 25 = σ.2.1 25) → (τ_98.2.1 26 = σ.2.1 26) → (τ_98.2.1 51 = σ.2.1 51) → (τ_98.2.1 52 = σ.2.1 52) → (τ_98.2.1 53 = σ.2.1 53) → (τ_98.2.1 54 = σ.2.1 54) → (τ_98.2.1 55 = σ.2.1 55) → ((τ_98.1 3) = n1) → ((τ_98.1 5) = n2) → ((τ_98.1 12) ≤ n4) → ((τ_98.1 13) ≤ n5) → (n2 = 0 ∨ (τ_98.1 6) = σ.2.1 14 (n2 - 1) + σ.2.1 15 (n2 - 1)) → ((n2 = 0 ∨ k1_98 = σ.2.1 18 (n2 - 1) + σ.2.1 19 (n2 - 1)) ∧ k1_98 ≤ 60 * n2) → (0 ≤ k1_98) → (k1_98 ≤ 90000) → ((τ_98.1 10) = (σ.1 10)) → ((τ_98.1 11) = (σ.1 11)) → (n5 ≤ (σ.1 13) → (τ_98.1 13) = n5) → ((τ_98.1 2) = n3) → (j_eq 0 (σ.2.1 8) (τ_98.2.1 8)) → P98 k1_98 τ_98 := by
    intro k1_98 τ_98 hT G1 G2 G3 G14 G15 G18 G19 G21 G22 G25 G26 G51 G52 G53 G54 G55 i98_1 i98_2 i98_3 i98_4 i98_5 i98_6 i98_7 i98_8 i98_9 i98_10 i98_11 i98_12 i98_13
    have A1 : ∀ j, 0 ≤ τ_98.2.1 1 j ∧ τ_98.2.1 1 j ≤ 255 := fun j => hT.2 1 j
    have A2 : ∀ j, 0 ≤ τ_98.2.1 2 j ∧ τ_98.2.1 2 j ≤ 30000 := fun j => hT.2 2 j
    have A3 : ∀ j, 0 ≤ τ_98.2.1 3 j ∧ τ_98.2.1 3 j ≤ 60 := fun j => hT.2 3 j
    have A6 : ∀ j, (-1) ≤ τ_98.2.1 6 j ∧ τ_98.2.1 6 j ≤ 999 := fun j => hT.2 6 j
    have A7 : ∀ j, (-1) ≤ τ_98.2.1 7 j ∧ τ_98.2.1 7 j ≤ 1499 := fun j => hT.2 7 j
    have A8 : ∀ j, 0 ≤ τ_98.2.1 8 j ∧ τ_98.2.1 8 j ≤ 1 := fun j => hT.2 8 j
    have A9 : ∀ j, 0 ≤ τ_98.2.1 9 j ∧ τ_98.2.1 9 j ≤ 1 := fun j => hT.2 9 j
    have A10 : ∀ j, (-1) ≤ τ_98.2.1 10 j ∧ τ_98.2.1 10 j ≤ 999 := fun j => hT.2 10 j
    have A11 : ∀ j, (-1) ≤ τ_98.2.1 11 j ∧ τ_98.2.1 11 j ≤ 1499 := fun j => hT.2 11 j
    have A12 : ∀ j, 0 ≤ τ_98.2.1 12 j ∧ τ_98.2.1 12 j ≤ 1 := fun j => hT.2 12 j
    have A14 : ∀ j, 0 ≤ τ_98.2.1 14 j ∧ τ_98.2.1 14 j ≤ 30000 := fun j => hT.2 14 j
    have A15 : ∀ j, 0 ≤ τ_98.2.1 15 j ∧ τ_98.2.1 15 j ≤ 300 := fun j => hT.2 15 j
    have A18 : ∀ j, 0 ≤ τ_98.2.1 18 j ∧ τ_98.2.1 18 j ≤ 90000 := fun j => hT.2 18 j
    have A19 : ∀ j, 0 ≤ τ_98.2.1 19 j ∧ τ_98.2.1 19 j ≤ 60 := fun j => hT.2 19 j
    have A21 : ∀ j, 0 ≤ τ_98.2.1 21 j ∧ τ_98.2.1 21 j ≤ 20000 := fun j => hT.2 21 j
    have A22 : ∀ j, 0 ≤ τ_98.2.1 22 j ∧ τ_98.2.1 22 j ≤ 20000 := fun j => hT.2 22 j
    have A25 : ∀ j, 0 ≤ τ_98.2.1 25 j ∧ τ_98.2.1 25 j ≤ 20000 := fun j => hT.2 25 j
    have A26 : ∀ j, 0 ≤ τ_98.2.1 26 j ∧ τ_98.2.1 26 j ≤ 20000 := fun j => hT.2 26 j
    have A51 : ∀ j, 0 ≤ τ_98.2.1 51 j ∧ τ_98.2.1 51 j ≤ 1 := fun j => hT.2 51 j
    have A52 : ∀ j, 0 ≤ τ_98.2.1 52 j ∧ τ_98.2.1 52 j ≤ 1 := fun j => hT.2 52 j
    have A53 : ∀ j, 0 ≤ τ_98.2.1 53 j ∧ τ_98.2.1 53 j ≤ 1 := fun j => hT.2 53 j
    have A54 : ∀ j, (-1) ≤ τ_98.2.1 54 j ∧ τ_98.2.1 54 j ≤ 999 := fun j => hT.2 54 j
    have A55 : ∀ j, (-1) ≤ τ_98.2.1 55 j ∧ τ_98.2.1 55 j ≤ 1499 := fun j => hT.2 55 j
    have v2 : 0 ≤ τ_98.1 2 ∧ τ_98.1 2 ≤ 30000 := hT.1 2
    have v3 : 0 ≤ τ_98.1 3 ∧ τ_98.1 3 ≤ 1000 := hT.1 3
    have v4 : 0 ≤ τ_98.1 4 ∧ τ_98.1 4 ≤ 100 := hT.1 4
    have v5 : 0 ≤ τ_98.1 5 ∧ τ_98.1 5 ≤ 1500 := hT.1 5
    have v6 : 0 ≤ τ_98.1 6 ∧ τ_98.1 6 ≤ 30000 := hT.1 6
    have v7 : 0 ≤ τ_98.1 7 ∧ τ_98.1 7 ≤ 90000 := hT.1 7
    have v8 : 0 ≤ τ_98.1 8 ∧ τ_98.1 8 ≤ 20000 := hT.1 8
    have v9 : 0 ≤ τ_98.1 9 ∧ τ_98.1 9 ≤ 20000 := hT.1 9
    have v10 : (-1) ≤ τ_98.1 10 ∧ τ_98.1 10 ≤ 999 := hT.1 10
    have v11 : (-1) ≤ τ_98.1 11 ∧ τ_98.1 11 ≤ 999 := hT.1 11
    have v12 : 0 ≤ τ_98.1 12 ∧ τ_98.1 12 ≤ 1000 := hT.1 12
    have v13 : 0 ≤ τ_98.1 13 ∧ τ_98.1 13 ≤ 1500 := hT.1 13
    have v14 : 0 ≤ τ_98.1 14 ∧ τ_98.1 14 ≤ 1000 := hT.1 14
    refine h98 k1_98 τ_98 ?_
    replace hT := mT_v (i := 7) hT (show 0 ≤ k1_98 ∧ k1_98 ≤ 90000 from by (first | omega | (simp only [st_s] <;> omega) | assumption | omega | fail))
    refine ⟨fun c14 => ?_, fun c14 => ?_⟩
    ·
      refine ⟨(show 0 ≤ (τ_98.1 5 - 1) ∧ (τ_98.1 5 - 1) < 1501 from by (first | omega | (simp only [st_s] <;> omega) | assumption | omega | fail)), ?_⟩
      intro x16 r_x16 e_x16
      have b_x16 : 0 ≤ x16 ∧ x16 ≤ 20000 := by rw [e_x16]; exact hT.2 21 _
      intro x17 r_x17 e_x17
      have b_x17 : 0 ≤ x17 ∧ x17 ≤ 20000 := by rw [e_x17]; exact hT.2 22 _
      rw [G21, i98_2] at e_x16
      rw [G22, i98_2] at e_x17
      refine ⟨(⟨by (first | omega | (simp only [st_s] <;> omega) | assumption | omega | fail), by (first | omega | (simp only [st_s] <;> omega) | assumption | omega | fail)⟩ : rg (x16 + x17)), ?_⟩
      exact l_136 _ _ hT G1 G2 G3 G14 G15 G18 G19 G21 G22 G25 G26 G51 G52 G53 G54 G55 (show (τ_98.1 3) = n1 from by (first | omega | (simp only [st_s] <;> omega) | assumption | omega | fail)) (show (τ_98.1 5) = n2 from by (first | omega | (simp only [st_s] <;> omega) | assumption | omega | fail)) (show (τ_98.1 12) ≤ n4 from by (first | omega | (simp only [st_s] <;> omega) | assumption | omega | fail)) (show (τ_98.1 13) ≤ n5 from by (first | omega | (simp only [st_s] <;> omega) | assumption | omega | fail)) (show (n2 = 0 ∨ (τ_98.1 6) = σ.2.1 14 (n2 - 1) + σ.2.1 15 (n2 - 1)) from by (first | omega | (simp only [st_s] <;> omega) | assumption | omega | fail)) (show (n2 = 0 ∨ (k1_98) = σ.2.1 18 (n2 - 1) + σ.2.1 19 (n2 - 1)) ∧ (k1_98) ≤ 60 * n2 from by (first | omega | (simp only [st_s] <;> omega) | assumption | omega | fail)) (show (n2 = 0 ∨ (x16 + x17) = σ.2.1 21 (n2 - 1) + σ.2.1 22 (n2 - 1)) from by (first | omega | (simp only [st_s] <;> omega) | assumption | omega | fail)) (show 0 ≤ (x16 + x17) from by (first | omega | (simp only [st_s] <;> omega) | assumption | omega | fail)) (show (x16 + x17) ≤ 20000 from by (first | omega | (simp only [st_s] <;> omega) | assumption | omega | fail)) (show (τ_98.1 10) = (σ.1 10) from by (first | omega | (simp only [st_s] <;> omega) | assumption | omega | fail)) (show (τ_98.1 11) = (σ.1 11) from by (first | omega | (simp only [st_s] <;> omega) | assumption | omega | fail)) (show n5 ≤ (σ.1 13) → (τ_98.1 13) = n5 from by (first | omega | (simp only [st_s] <;> omega) | assumption | omega | fail)) (show (τ_98.1 2) = n3 from by (first | omega | (simp only [st_s] <;> omega) | assumption | omega | fail)) (show j_eq 0 (σ.2.1 8) (τ_98.2.1 8) from by exact i98_13)
    ·
      exact l_136 _ _ hT G1 G2 G3 G14 G15 G18 G19 G21 G22 G25 G26 G51 G52 G53 G54 G55 (show (τ_98.1 3) = n1 from by (first | omega | (simp only [st_s] <;> omega) | assumption | omega | fail)) (show (τ_98.1 5) = n2 from by (first | omega | (simp only [st_s] <;> omega) | assumption | omega | fail)) (show (τ_98.1 12) ≤ n4 from by (first | omega | (simp only [st_s] <;> omega) | assumption | omega | fail)) (show (τ_98.1 13) ≤ n5 from by (first | omega | (simp only [st_s] <;> omega) | assumption | omega | fail)) (show (n2 = 0 ∨ (τ_98.1 6) = σ.2.1 14 (n2 - 1) + σ.2.1 15 (n2 - 1)) from by (first | omega | (simp only [st_s] <;> omega) | assumption | omega | fail)) (show (n2 = 0 ∨ (k1_98) = σ.2.1 18 (n2 - 1) + σ.2.1 19 (n2 - 1)) ∧ (k1_98) ≤ 60 * n2 from by (first | omega | (simp only [st_s] <;> omega) | assumption | omega | fail)) (show (n2 = 0 ∨ 0 = σ.2.1 21 (n2 - 1) + σ.2.1 22 (n2 - 1)) from by (first | omega | (simp only [st_s] <;> omega) | assumption | omega | fail)) (show 0 ≤ 0 from by (first | omega | (simp only [st_s] <;> omega) | assumption | omega | fail)) (show 0 ≤ 20000 from by (first | omega | (simp only [st_s] <;> omega) | assumption | omega | fail)) (show (τ_98.1 10) = (σ.1 10) from by (first | omega | (simp only [st_s] <;> omega) | assumption | omega | fail)) (show (τ_98.1 11) = (σ.1 11) from by (first | omega | (simp only [st_s] <;> omega) | assumption | omega | fail)) (show n5 ≤ (σ.1 13) → (τ_98.1 13) = n5 from by (first | omega | (simp only [st_s] <;> omega) | assumption | omega | fail)) (show (τ_98.1 2) = n3 from by (first | omega | (simp only [st_s] <;> omega) | assumption | omega | fail)) (show j_eq 0 (σ.2.1 8) (τ_98.2.1 8) from by exact i98_13)
  have l_60 : ∀ (k1_60 : Int) (τ_60 : S0), (m_T τ_60) → (τ_60.2.1 1 = σ.2.1 1) → (τ_60.2.1 2 = σ.2.1 2) → (τ_60.2.1 3 = σ.2.1 3) → (τ_60.2.1 14 = σ.2.1 14) → (τ_60.2.1 15 = σ.2.1 15) → (τ_60.2.1 18 = σ.2.1 18) → (τ_60.2.1 19 = σ.2.1 19) → (τ_60.2.1 21 = σ.2.1 21) → (τ_60.2.1 22 = σ.2.1 22) → (τ_60.2.1 25 = σ.2.1 25) → (τ_60.2.1 26 = σ.2.1 26) → (τ_60.2.1 51 = σ.2.1 51) → (τ_60.2.1 52 = σ.2.1 52) → (τ_60.2.1 53 = σ.2.1 53) → (τ_60.2.1 54 = σ.2.1 54) → (τ_60.2.1 55 = σ.2.1 55) → ((τ_60.1 3) = n1) → ((τ_60.1 5) = n2) → ((τ_60.1 12) ≤ n4) → ((τ_60.1 13) ≤ n5) → (n2 = 0 ∨ k1_60 = σ.2.1 14 (n2 - 1) + σ.2.1 15 (n2 - 1)) → (0 ≤ k1_60) → (k1_60 ≤ 30000) → ((τ_60.1 10) = (σ.1 10)) → ((τ_60.1 11) = (σ.1 11)) → (n5 ≤ (σ.1 13) → (τ_60.1 13) = n5) → ((τ_60.1 2) = n3) → (j_eq 0 (σ.2.1 8) (τ_60.2.1 8)) → P60 k1_60 τ_60 := by
    intro k1_60 τ_60 hT G1 G2 G3 G14 G15 G18 G19 G21 G22 G25 G26 G51 G52 G53 G54 G55 i60_1 i60_2 i60_3 i60_4 i60_5 i60_6 i60_7 i60_8 i60_9 i60_10 i60_11 i60_12
    have A1 : ∀ j, 0 ≤ τ_60.2.1 1 j ∧ τ_60.2.1 1 j ≤ 255 := fun j => hT.2 1 j
    have A2 : ∀ j, 0 ≤ τ_60.2.1 2 j ∧ τ_60.2.1 2 j ≤ 30000 := fun j => hT.2 2 j
    have A3 : ∀ j, 0 ≤ τ_60.2.1 3 j ∧ τ_60.2.1 3 j ≤ 60 := fun j => hT.2 3 j
    have A6 : ∀ j, (-1) ≤ τ_60.2.1 6 j ∧ τ_60.2.1 6 j ≤ 999 := fun j => hT.2 6 j
    have A7 : ∀ j, (-1) ≤ τ_60.2.1 7 j ∧ τ_60.2.1 7 j ≤ 1499 := fun j => hT.2 7 j
    have A8 : ∀ j, 0 ≤ τ_60.2.1 8 j ∧ τ_60.2.1 8 j ≤ 1 := fun j => hT.2 8 j
    have A9 : ∀ j, 0 ≤ τ_60.2.1 9 j ∧ τ_60.2.1 9 j ≤ 1 := fun j => hT.2 9 j
    have A10 : ∀ j, (-1) ≤ τ_60.2.1 10 j ∧ τ_60.2.1 10 j ≤ 999 := fun j => hT.2 10 j
    have A11 : ∀ j, (-1) ≤ τ_60.2.1 11 j ∧ τ_60.2.1 11 j ≤ 1499 := fun j => hT.2 11 j
    have A12 : ∀ j, 0 ≤ τ_60.2.1 12 j ∧ τ_60.2.1 12 j ≤ 1 := fun j => hT.2 12 j
    have A14 : ∀ j, 0 ≤ τ_60.2.1 14 j ∧ τ_60.2.1 14 j ≤ 30000 := fun j => hT.2 14 j
    have A15 : ∀ j, 0 ≤ τ_60.2.1 15 j ∧ τ_60.2.1 15 j ≤ 300 := fun j => hT.2 15 j
    have A18 : ∀ j, 0 ≤ τ_60.2.1 18 j ∧ τ_60.2.1 18 j ≤ 90000 := fun j => hT.2 18 j
    have A19 : ∀ j, 0 ≤ τ_60.2.1 19 j ∧ τ_60.2.1 19 j ≤ 60 := fun j => hT.2 19 j
    have A21 : ∀ j, 0 ≤ τ_60.2.1 21 j ∧ τ_60.2.1 21 j ≤ 20000 := fun j => hT.2 21 j
    have A22 : ∀ j, 0 ≤ τ_60.2.1 22 j ∧ τ_60.2.1 22 j ≤ 20000 := fun j => hT.2 22 j
    have A25 : ∀ j, 0 ≤ τ_60.2.1 25 j ∧ τ_60.2.1 25 j ≤ 20000 := fun j => hT.2 25 j
    have A26 : ∀ j, 0 ≤ τ_60.2.1 26 j ∧ τ_60.2.1 26 j ≤ 20000 := fun j => hT.2 26 j
    have A51 : ∀ j, 0 ≤ τ_60.2.1 51 j ∧ τ_60.2.1 51 j ≤ 1 := fun j => hT.2 51 j
    have A52 : ∀ j, 0 ≤ τ_60.2.1 52 j ∧ τ_60.2.1 52 j ≤ 1 := fun j => hT.2 52 j
    have A53 : ∀ j, 0 ≤ τ_60.2.1 53 j ∧ τ_60.2.1 53 j ≤ 1 := fun j => hT.2 53 j
    have A54 : ∀ j, (-1) ≤ τ_60.2.1 54 j ∧ τ_60.2.1 54 j ≤ 999 := fun j => hT.2 54 j
    have A55 : ∀ j, (-1) ≤ τ_60.2.1 55 j ∧ τ_60.2.1 55 j ≤ 1499 := fun j => hT.2 55 j
    have v2 : 0 ≤ τ_60.1 2 ∧ τ_60.1 2 ≤ 30000 := hT.1 2
    have v3 : 0 ≤ τ_60.1 3 ∧ τ_60.1 3 ≤ 1000 := hT.1 3
    have v4 : 0 ≤ τ_60.1 4 ∧ τ_60.1 4 ≤ 100 := hT.1 4
    have v5 : 0 ≤ τ_60.1 5 ∧ τ_60.1 5 ≤ 1500 := hT.1 5
    have v6 : 0 ≤ τ_60.1 6 ∧ τ_60.1 6 ≤ 30000 := hT.1 6
    have v7 : 0 ≤ τ_60.1 7 ∧ τ_60.1 7 ≤ 90000 := hT.1 7
    have v8 : 0 ≤ τ_60.1 8 ∧ τ_60.1 8 ≤ 20000 := hT.1 8
    have v9 : 0 ≤ τ_60.1 9 ∧ τ_60.1 9 ≤ 20000 := hT.1 9
    have v10 : (-1) ≤ τ_60.1 10 ∧ τ_60.1 10 ≤ 999 := hT.1 10
    have v11 : (-1) ≤ τ_60.1 11 ∧ τ_60.1 11 ≤ 999 := hT.1 11
    have v12 : 0 ≤ τ_60.1 12 ∧ τ_60.1 12 ≤ 1000 := hT.1 12
    have v13 : 0 ≤ τ_60.1 13 ∧ τ_60.1 13 ≤ 1500 := hT.1 13
    have v14 : 0 ≤ τ_60.1 14 ∧ τ_60.1 14 ≤ 1000 := hT.1 14
    refine h60 k1_60 τ_60 ?_
    replace hT := mT_v (i := 6) hT (show 0 ≤ k1_60 ∧ k1_60 ≤ 30000 from by (first | omega | (simp only [st_s] <;> omega) | assumption | omega | fail))
    refine ⟨fun c9 => ?_, fun c9 => ?_⟩
    ·
      refine ⟨(show 0 ≤ (τ_60.1 5 - 1) ∧ (τ_60.1 5 - 1) < 1501 from by (first | omega | (simp only [st_s] <;> omega) | assumption | omega | fail)), ?_⟩
      intro x11 r_x11 e_x11
      have b_x11 : 0 ≤ x11 ∧ x11 ≤ 90000 := by rw [e_x11]; exact hT.2 18 _
      intro x12 r_x12 e_x12
      have b_x12 : 0 ≤ x12 ∧ x12 ≤ 60 := by rw [e_x12]; exact hT.2 19 _
      rw [G18, i60_2] at e_x11
      rw [G19, i60_2] at e_x12
      refine ⟨(⟨by (first | omega | (simp only [st_s] <;> omega) | assumption | omega | fail), by (first | omega | (simp only [st_s] <;> omega) | assumption | omega | fail)⟩ : rg (x11 + x12)), ?_⟩
      exact l_98 _ _ hT G1 G2 G3 G14 G15 G18 G19 G21 G22 G25 G26 G51 G52 G53 G54 G55 (show (τ_60.1 3) = n1 from by (first | omega | (simp only [st_s] <;> omega) | assumption | omega | fail)) (show (τ_60.1 5) = n2 from by (first | omega | (simp only [st_s] <;> omega) | assumption | omega | fail)) (show (τ_60.1 12) ≤ n4 from by (first | omega | (simp only [st_s] <;> omega) | assumption | omega | fail)) (show (τ_60.1 13) ≤ n5 from by (first | omega | (simp only [st_s] <;> omega) | assumption | omega | fail)) (show (n2 = 0 ∨ (k1_60) = σ.2.1 14 (n2 - 1) + σ.2.1 15 (n2 - 1)) from by (first | omega | (simp only [st_s] <;> omega) | assumption | omega | fail)) (show (n2 = 0 ∨ (x11 + x12) = σ.2.1 18 (n2 - 1) + σ.2.1 19 (n2 - 1)) ∧ (x11 + x12) ≤ 60 * n2 from by (first | omega | (simp only [st_s] <;> omega) | assumption | omega | fail)) (show 0 ≤ (x11 + x12) from by (first | omega | (simp only [st_s] <;> omega) | assumption | omega | fail)) (show (x11 + x12) ≤ 90000 from by (first | omega | (simp only [st_s] <;> omega) | assumption | omega | fail)) (show (τ_60.1 10) = (σ.1 10) from by (first | omega | (simp only [st_s] <;> omega) | assumption | omega | fail)) (show (τ_60.1 11) = (σ.1 11) from by (first | omega | (simp only [st_s] <;> omega) | assumption | omega | fail)) (show n5 ≤ (σ.1 13) → (τ_60.1 13) = n5 from by (first | omega | (simp only [st_s] <;> omega) | assumption | omega | fail)) (show (τ_60.1 2) = n3 from by (first | omega | (simp only [st_s] <;> omega) | assumption | omega | fail)) (show j_eq 0 (σ.2.1 8) (τ_60.2.1 8) from by exact i60_12)
    ·
      exact l_98 _ _ hT G1 G2 G3 G14 G15 G18 G19 G21 G22 G25 G26 G51 G52 G53 G54 G55 (show (τ_60.1 3) = n1 from by (first | omega | (simp only [st_s] <;> omega) | assumption | omega | fail)) (show (τ_60.1 5) = n2 from by (first | omega | (simp only [st_s] <;> omega) | assumption | omega | fail)) (show (τ_60.1 12) ≤ n4 from by (first | omega | (simp only [st_s] <;> omega) | assumption | omega | fail)) (show (τ_60.1 13) ≤ n5 from by (first | omega | (simp only [st_s] <;> omega) | assumption | omega | fail)) (show (n2 = 0 ∨ (k1_60) = σ.2.1 14 (n2 - 1) + σ.2.1 15 (n2 - 1)) from by (first | omega | (simp only [st_s] <;> omega) | assumption | omega | fail)) (show (n2 = 0 ∨ 0 = σ.2.1 18 (n2 - 1) + σ.2.1 19 (n2 - 1)) ∧ 0 ≤ 60 * n2 from by (first | omega | (simp only [st_s] <;> omega) | assumption | omega | fail)) (show 0 ≤ 0 from by (first | omega | (simp only [st_s] <;> omega) | assumption | omega | fail)) (show 0 ≤ 90000 from by (first | omega | (simp only [st_s] <;> omega) | assumption | omega | fail)) (show (τ_60.1 10) = (σ.1 10) from by (first | omega | (simp only [st_s] <;> omega) | assumption | omega | fail)) (show (τ_60.1 11) = (σ.1 11) from by (first | omega | (simp only [st_s] <;> omega) | assumption | omega | fail)) (show n5 ≤ (σ.1 13) → (τ_60.1 13) = n5 from by (first | omega | (simp only [st_s] <;> omega) | assumption | omega | fail)) (show (τ_60.1 2) = n3 from by (first | omega | (simp only [st_s] <;> omega) | assumption | omega | fail)) (show j_eq 0 (σ.2.1 8) (τ_60.2.1 8) from by exact i60_12)
  refine ⟨_, K3_X13_dropTo hT (show 0 ≤ n4 from by (first | omega | (simp only [st_s] <;> omega) | assumption | omega | fail)) (show 0 ≤ n5 from by (first | omega | (simp only [st_s] <;> omega) | assumption | omega | fail)) (show 0 ≤ n6 from by (first | omega | (simp only [st_s] <;> omega) | assumption | omega | fail)) (show (σ.1 12) ≤ ca (σ.2.1 9) (σ.1 3) from AVt), ?_⟩
  intro τ3 hn_τ3 hf_τ3 hq
  obtain ⟨hT, q1_1, q1_2, q1_3, q1_4, q1_5, q1_6, q1_7, q1_8, q1_9⟩ := hq
  replace q1_1 : n4 ≤ (σ.1 12) → (τ3.1 12) = n4 := q1_1
  replace q1_2 : n5 ≤ (σ.1 13) → (τ3.1 13) = n5 := q1_2
  replace q1_3 : n6 ≤ (σ.1 14) → (τ3.1 14) = n6 := q1_3
  replace q1_4 : (τ3.1 12) ≤ (σ.1 12) := q1_4
  replace q1_5 : (τ3.1 13) ≤ (σ.1 13) := q1_5
  replace q1_6 : (τ3.1 14) ≤ (σ.1 14) := q1_6
  replace q1_7 : (τ3.1 12) ≤ ca (τ3.2.1 9) (τ3.1 3) := q1_7
  replace q1_8 : n_S σ → n_S τ3 := q1_8
  replace q1_9 : (σ.1 13) ≤ n5 → (τ3.1 13) = (σ.1 13) := q1_9
  have w2_τ3 : τ3.1 2 = σ.1 2 := hf_τ3.1 2 (by decide)
  have w3_τ3 : τ3.1 3 = σ.1 3 := hf_τ3.1 3 (by decide)
  have w4_τ3 : τ3.1 4 = σ.1 4 := hf_τ3.1 4 (by decide)
  have w5_τ3 : τ3.1 5 = σ.1 5 := hf_τ3.1 5 (by decide)
  have w6_τ3 : τ3.1 6 = σ.1 6 := hf_τ3.1 6 (by decide)
  have w7_τ3 : τ3.1 7 = σ.1 7 := hf_τ3.1 7 (by decide)
  have w8_τ3 : τ3.1 8 = σ.1 8 := hf_τ3.1 8 (by decide)
  have w9_τ3 : τ3.1 9 = σ.1 9 := hf_τ3.1 9 (by decide)
  have w10_τ3 : τ3.1 10 = σ.1 10 := hf_τ3.1 10 (by decide)
  have w11_τ3 : τ3.1 11 = σ.1 11 := hf_τ3.1 11 (by decide)
  have g1_τ3 : τ3.2.1 1 = σ.2.1 1 := hf_τ3.2.1 1 (by decide)
  have g2_τ3 : τ3.2.1 2 = σ.2.1 2 := hf_τ3.2.1 2 (by decide)
  have g3_τ3 : τ3.2.1 3 = σ.2.1 3 := hf_τ3.2.1 3 (by decide)
  have g6_τ3 : τ3.2.1 6 = σ.2.1 6 := hf_τ3.2.1 6 (by decide)
  have g7_τ3 : τ3.2.1 7 = σ.2.1 7 := hf_τ3.2.1 7 (by decide)
  have g8_τ3 : τ3.2.1 8 = σ.2.1 8 := hf_τ3.2.1 8 (by decide)
  have g10_τ3 : τ3.2.1 10 = σ.2.1 10 := hf_τ3.2.1 10 (by decide)
  have g12_τ3 : τ3.2.1 12 = σ.2.1 12 := hf_τ3.2.1 12 (by decide)
  have g14_τ3 : τ3.2.1 14 = σ.2.1 14 := hf_τ3.2.1 14 (by decide)
  have g15_τ3 : τ3.2.1 15 = σ.2.1 15 := hf_τ3.2.1 15 (by decide)
  have g18_τ3 : τ3.2.1 18 = σ.2.1 18 := hf_τ3.2.1 18 (by decide)
  have g19_τ3 : τ3.2.1 19 = σ.2.1 19 := hf_τ3.2.1 19 (by decide)
  have g21_τ3 : τ3.2.1 21 = σ.2.1 21 := hf_τ3.2.1 21 (by decide)
  have g22_τ3 : τ3.2.1 22 = σ.2.1 22 := hf_τ3.2.1 22 (by decide)
  have g25_τ3 : τ3.2.1 25 = σ.2.1 25 := hf_τ3.2.1 25 (by decide)
  have g26_τ3 : τ3.2.1 26 = σ.2.1 26 := hf_τ3.2.1 26 (by decide)
  have g51_τ3 : τ3.2.1 51 = σ.2.1 51 := hf_τ3.2.1 51 (by decide)
  have g52_τ3 : τ3.2.1 52 = σ.2.1 52 := hf_τ3.2.1 52 (by decide)
  have g53_τ3 : τ3.2.1 53 = σ.2.1 53 := hf_τ3.2.1 53 (by decide)
  have g54_τ3 : τ3.2.1 54 = σ.2.1 54 := hf_τ3.2.1 54 (by decide)
  have g55_τ3 : τ3.2.1 55 = σ.2.1 55 := hf_τ3.2.1 55 (by decide)
  first | (have ca_τ3 := congr (congrArg ca g9_τ3) w3_τ3) | skip
  first | (have o6_τ3 := congrArg oc g6_τ3) | skip
  first | (have o7_τ3 := congrArg oc g7_τ3) | skip
  have G1 : τ3.2.1 1 = σ.2.1 1 := (g1_τ3).trans G1
  have G2 : τ3.2.1 2 = σ.2.1 2 := (g2_τ3).trans G2
  have G3 : τ3.2.1 3 = σ.2.1 3 := (g3_τ3).trans G3
  have G14 : τ3.2.1 14 = σ.2.1 14 := (g14_τ3).trans G14
  have G15 : τ3.2.1 15 = σ.2.1 15 := (g15_τ3).trans G15
  have G18 : τ3.2.1 18 = σ.2.1 18 := (g18_τ3).trans G18
  have G19 : τ3.2.1 19 = σ.2.1 19 := (g19_τ3).trans G19
  have G21 : τ3.2.1 21 = σ.2.1 21 := (g21_τ3).trans G21
  have G22 : τ3.2.1 22 = σ.2.1 22 := (g22_τ3).trans G22
  have G25 : τ3.2.1 25 = σ.2.1 25 := (g25_τ3).trans G25
  have G26 : τ3.2.1 26 = σ.2.1 26 := (g26_τ3).trans G26
  have G51 : τ3.2.1 51 = σ.2.1 51 := (g51_τ3).trans G51
  have G52 : τ3.2.1 52 = σ.2.1 52 := (g52_τ3).trans G52
  have G53 : τ3.2.1 53 = σ.2.1 53 := (g53_τ3).trans G53
  have G54 : τ3.2.1 54 = σ.2.1 54 := (g54_τ3).trans G54
  have G55 : τ3.2.1 55 = σ.2.1 55 := (g55_τ3).trans G55
  have AVt : (τ3.1 12) ≤ ca (τ3.2.1 9) (τ3.1 3) := q1_7
  have A1 : ∀ j, 0 ≤ τ3.2.1 1 j ∧ τ3.2.1 1 j ≤ 255 := fun j => hT.2 1 j
  have A2 : ∀ j, 0 ≤ τ3.2.1 2 j ∧ τ3.2.1 2 j ≤ 30000 := fun j => hT.2 2 j
  have A3 : ∀ j, 0 ≤ τ3.2.1 3 j ∧ τ3.2.1 3 j ≤ 60 := fun j => hT.2 3 j
  have A6 : ∀ j, (-1) ≤ τ3.2.1 6 j ∧ τ3.2.1 6 j ≤ 999 := fun j => hT.2 6 j
  have A7 : ∀ j, (-1) ≤ τ3.2.1 7 j ∧ τ3.2.1 7 j ≤ 1499 := fun j => hT.2 7 j
  have A8 : ∀ j, 0 ≤ τ3.2.1 8 j ∧ τ3.2.1 8 j ≤ 1 := fun j => hT.2 8 j
  have A9 : ∀ j, 0 ≤ τ3.2.1 9 j ∧ τ3.2.1 9 j ≤ 1 := fun j => hT.2 9 j
  have A10 : ∀ j, (-1) ≤ τ3.2.1 10 j ∧ τ3.2.1 10 j ≤ 999 := fun j => hT.2 10 j
  have A11 : ∀ j, (-1) ≤ τ3.2.1 11 j ∧ τ3.2.1 11 j ≤ 1499 := fun j => hT.2 11 j
  have A12 : ∀ j, 0 ≤ τ3.2.1 12 j ∧ τ3.2.1 12 j ≤ 1 := fun j => hT.2 12 j
  have A14 : ∀ j, 0 ≤ τ3.2.1 14 j ∧ τ3.2.1 14 j ≤ 30000 := fun j => hT.2 14 j
  have A15 : ∀ j, 0 ≤ τ3.2.1 15 j ∧ τ3.2.1 15 j ≤ 300 := fun j => hT.2 15 j
  have A18 : ∀ j, 0 ≤ τ3.2.1 18 j ∧ τ3.2.1 18 j ≤ 90000 := fun j => hT.2 18 j
  have A19 : ∀ j, 0 ≤ τ3.2.1 19 j ∧ τ3.2.1 19 j ≤ 60 := fun j => hT.2 19 j
  have A21 : ∀ j, 0 ≤ τ3.2.1 21 j ∧ τ3.2.1 21 j ≤ 20000 := fun j => hT.2 21 j
  have A22 : ∀ j, 0 ≤ τ3.2.1 22 j ∧ τ3.2.1 22 j ≤ 20000 := fun j => hT.2 22 j
  have A25 : ∀ j, 0 ≤ τ3.2.1 25 j ∧ τ3.2.1 25 j ≤ 20000 := fun j => hT.2 25 j
  have A26 : ∀ j, 0 ≤ τ3.2.1 26 j ∧ τ3.2.1 26 j ≤ 20000 := fun j => hT.2 26 j
  have A51 : ∀ j, 0 ≤ τ3.2.1 51 j ∧ τ3.2.1 51 j ≤ 1 := fun j => hT.2 51 j
  have A52 : ∀ j, 0 ≤ τ3.2.1 52 j ∧ τ3.2.1 52 j ≤ 1 := fun j => hT.2 52 j
  have A53 : ∀ j, 0 ≤ τ3.2.1 53 j ∧ τ3.2.1 53 j ≤ 1 := fun j => hT.2 53 j
  have A54 : ∀ j, (-1) ≤ τ3.2.1 54 j ∧ τ3.2.1 54 j ≤ 999 := fun j => hT.2 54 j
  have A55 : ∀ j, (-1) ≤ τ3.2.1 55 j ∧ τ3.2.1 55 j ≤ 1499 := fun j => hT.2 55 j
  have v2 : 0 ≤ τ3.1 2 ∧ τ3.1 2 ≤ 30000 := hT.1 2
  have v3 : 0 ≤ τ3.1 3 ∧ τ3.1 3 ≤ 1000 := hT.1 3
  have v4 : 0 ≤ τ3.1 4 ∧ τ3.1 4 ≤ 100 := hT.1 4
  have v5 : 0 ≤ τ3.1 5 ∧ τ3.1 5 ≤ 1500 := hT.1 5
  have v6 : 0 ≤ τ3.1 6 ∧ τ3.1 6 ≤ 30000 := hT.1 6
  have v7 : 0 ≤ τ3.1 7 ∧ τ3.1 7 ≤ 90000 := hT.1 7
  have v8 : 0 ≤ τ3.1 8 ∧ τ3.1 8 ≤ 20000 := hT.1 8
  have v9 : 0 ≤ τ3.1 9 ∧ τ3.1 9 ≤ 20000 := hT.1 9
  have v10 : (-1) ≤ τ3.1 10 ∧ τ3.1 10 ≤ 999 := hT.1 10
  have v11 : (-1) ≤ τ3.1 11 ∧ τ3.1 11 ≤ 999 := hT.1 11
  have v12 : 0 ≤ τ3.1 12 ∧ τ3.1 12 ≤ 1000 := hT.1 12
  have v13 : 0 ≤ τ3.1 13 ∧ τ3.1 13 ≤ 1500 := hT.1 13
  have v14 : 0 ≤ τ3.1 14 ∧ τ3.1 14 ≤ 1000 := hT.1 14
  replace hT := mT_v (i := 3) hT (show 0 ≤ n1 ∧ n1 ≤ 1000 from by (first | omega | (simp only [st_s] <;> omega) | assumption | omega | fail))
  replace hT := mT_v (i := 5) hT (show 0 ≤ n2 ∧ n2 ≤ 1500 from by (first | omega | (simp only [st_s] <;> omega) | assumption | omega | fail))
  replace hT := mT_v (i := 2) hT (show 0 ≤ n3 ∧ n3 ≤ 30000 from by (first | omega | (simp only [st_s] <;> omega) | assumption | omega | fail))
  refine ⟨fun c4 => ?_, fun c4 => ?_⟩
  ·
    refine ⟨(show 0 ≤ (n2 - 1) ∧ (n2 - 1) < 1501 from by (first | omega | (simp only [st_s] <;> omega) | assumption | omega | fail)), ?_⟩
    intro x6 r_x6 e_x6
    have b_x6 : 0 ≤ x6 ∧ x6 ≤ 30000 := by rw [e_x6]; exact hT.2 14 _
    intro x7 r_x7 e_x7
    have b_x7 : 0 ≤ x7 ∧ x7 ≤ 300 := by rw [e_x7]; exact hT.2 15 _
    rw [G14] at e_x6
    rw [G15] at e_x7
    refine ⟨(⟨by (first | omega | (simp only [st_s] <;> omega) | assumption | omega | fail), by (first | omega | (simp only [st_s] <;> omega) | assumption | omega | fail)⟩ : rg (x6 + x7)), ?_⟩
    exact l_60 _ _ hT G1 G2 G3 G14 G15 G18 G19 G21 G22 G25 G26 G51 G52 G53 G54 G55 (show (n1) = n1 from by (first | omega | (simp only [st_s] <;> omega) | assumption | omega | fail)) (show (n2) = n2 from by (first | omega | (simp only [st_s] <;> omega) | assumption | omega | fail)) (show (τ3.1 12) ≤ n4 from by (first | omega | (simp only [st_s] <;> omega) | assumption | omega | fail)) (show (τ3.1 13) ≤ n5 from by (first | omega | (simp only [st_s] <;> omega) | assumption | omega | fail)) (show (n2 = 0 ∨ (x6 + x7) = σ.2.1 14 (n2 - 1) + σ.2.1 15 (n2 - 1)) from by (first | omega | (simp only [st_s] <;> omega) | assumption | omega | fail)) (show 0 ≤ (x6 + x7) from by (first | omega | (simp only [st_s] <;> omega) | assumption | omega | fail)) (show (x6 + x7) ≤ 30000 from by (first | omega | (simp only [st_s] <;> omega) | assumption | omega | fail)) (show (τ3.1 10) = (σ.1 10) from by (first | omega | (simp only [st_s] <;> omega) | assumption | omega | fail)) (show (τ3.1 11) = (σ.1 11) from by (first | omega | (simp only [st_s] <;> omega) | assumption | omega | fail)) (show n5 ≤ (σ.1 13) → (τ3.1 13) = n5 from by (first | omega | (simp only [st_s] <;> omega) | assumption | omega | fail)) (show (n3) = n3 from by (first | omega | (simp only [st_s] <;> omega) | assumption | omega | fail)) (show j_eq 0 (σ.2.1 8) (τ3.2.1 8) from by (rw [g8_τ3]; exact j_eq0 _ _))
  ·
    exact l_60 _ _ hT G1 G2 G3 G14 G15 G18 G19 G21 G22 G25 G26 G51 G52 G53 G54 G55 (show (n1) = n1 from by (first | omega | (simp only [st_s] <;> omega) | assumption | omega | fail)) (show (n2) = n2 from by (first | omega | (simp only [st_s] <;> omega) | assumption | omega | fail)) (show (τ3.1 12) ≤ n4 from by (first | omega | (simp only [st_s] <;> omega) | assumption | omega | fail)) (show (τ3.1 13) ≤ n5 from by (first | omega | (simp only [st_s] <;> omega) | assumption | omega | fail)) (show (n2 = 0 ∨ 0 = σ.2.1 14 (n2 - 1) + σ.2.1 15 (n2 - 1)) from by (first | omega | (simp only [st_s] <;> omega) | assumption | omega | fail)) (show 0 ≤ 0 from by (first | omega | (simp only [st_s] <;> omega) | assumption | omega | fail)) (show 0 ≤ 30000 from by (first | omega | (simp only [st_s] <;> omega) | assumption | omega | fail)) (show (τ3.1 10) = (σ.1 10) from by (first | omega | (simp only [st_s] <;> omega) | assumption | omega | fail)) (show (τ3.1 11) = (σ.1 11) from by (first | omega | (simp only [st_s] <;> omega) | assumption | omega | fail)) (show n5 ≤ (σ.1 13) → (τ3.1 13) = n5 from by (first | omega | (simp only [st_s] <;> omega) | assumption | omega | fail)) (show (n3) = n3 from by (first | omega | (simp only [st_s] <;> omega) | assumption | omega | fail)) (show j_eq 0 (σ.2.1 8) (τ3.2.1 8) from by (rw [g8_τ3]; exact j_eq0 _ _))
set_option maxHeartbeats 1000000 in
theorem K3_X13_forgetTrees {n1 : Int} {σ : S0} (hT : m_T σ) (p1 : 0 ≤ n1) (p2 : n1 ≤ 1500) : W_X13_forgetTrees n1 σ (fun (τ : S0) => (m_T τ) ∧ ((τ.1 38) = 0) ∧ ((τ.1 49) = 0) ∧ (∀ i : Int, i < n1 → τ.2.1 94 i = σ.2.1 94 i ∧ τ.2.1 96 i = σ.2.1 96 i) ∧ (∀ i : Int, n1 ≤ i → i < 1500 → τ.2.1 94 i = -1 ∧ τ.2.1 96 i = 0) ∧ (∀ i : Int, 0 ≤ i → i < 1500 → τ.2.1 95 i = -9)) := by
  have A94 : ∀ j, (-1) ≤ σ.2.1 94 j ∧ σ.2.1 94 j ≤ 2 := fun j => hT.2 94 j
  have A95 : ∀ j, (-9) ≤ σ.2.1 95 j ∧ σ.2.1 95 j ≤ 1499 := fun j => hT.2 95 j
  have A96 : ∀ j, 0 ≤ σ.2.1 96 j ∧ σ.2.1 96 j ≤ 1 := fun j => hT.2 96 j
  have v38 : 0 ≤ σ.1 38 ∧ σ.1 38 ≤ 1500 := hT.1 38
  have v49 : 0 ≤ σ.1 49 ∧ σ.1 49 ≤ 1 := hT.1 49
  intro P7 P36 h7 h36
  have l_36 : ∀ (m_36 : Nat) (u2_36 : Int) (τ_36 : S0), 1501 - u2_36 < (m_36 : Int) → (m_T τ_36) → (0 ≤ u2_36) → (u2_36 ≤ 1500) → ((τ_36.1 49) = 0) → (∀ i : Int, i < n1 → τ_36.2.1 94 i = σ.2.1 94 i ∧ τ_36.2.1 96 i = σ.2.1 96 i) → (∀ i : Int, n1 ≤ i → i < 1500 → τ_36.2.1 94 i = -1 ∧ τ_36.2.1 96 i = 0) → (∀ i : Int, 0 ≤ i → i < u2_36 → τ_36.2.1 95 i = -9) → P36 u2_36 τ_36 := by
    intro m_36
    induction m_36 with
    | zero =>
      intro u2_36 τ_36 hm hT i36_1 i36_2 i36_3 i36_4 i36_5 i36_6
      have A94 : ∀ j, (-1) ≤ τ_36.2.1 94 j ∧ τ_36.2.1 94 j ≤ 2 := fun j => hT.2 94 j
      have A95 : ∀ j, (-9) ≤ τ_36.2.1 95 j ∧ τ_36.2.1 95 j ≤ 1499 := fun j => hT.2 95 j
      have A96 : ∀ j, 0 ≤ τ_36.2.1 96 j ∧ τ_36.2.1 96 j ≤ 1 := fun j => hT.2 96 j
      have v38 : 0 ≤ τ_36.1 38 ∧ τ_36.1 38 ≤ 1500 := hT.1 38
      have v49 : 0 ≤ τ_36.1 49 ∧ τ_36.1 49 ≤ 1 := hT.1 49
      exfalso; (first | omega | (simp only [st_s] <;> omega) | assumption | omega | fail)
    | succ m_36 ih_36 =>
      intro u2_36 τ_36 hm_36 hT i36_1 i36_2 i36_3 i36_4 i36_5 i36_6
      have A94 : ∀ j, (-1) ≤ τ_36.2.1 94 j ∧ τ_36.2.1 94 j ≤ 2 := fun j => hT.2 94 j
      have A95 : ∀ j, (-9) ≤ τ_36.2.1 95 j ∧ τ_36.2.1 95 j ≤ 1499 := fun j => hT.2 95 j
      have A96 : ∀ j, 0 ≤ τ_36.2.1 96 j ∧ τ_36.2.1 96 j ≤ 1 := fun j => hT.2 96 j
      have v38 : 0 ≤ τ_36.1 38 ∧ τ_36.1 38 ≤ 1500 := hT.1 38
      have v49 : 0 ≤ τ_36.1 49 ∧ τ_36.1 49 ≤ 1 := hT.1 49
      refine h36 u2_36 τ_36 ?_
      refine ⟨fun c4 => ?_, fun c4 => ?_⟩
      ·
        replace hT := mT_v (i := 38) hT (show (0 : Int) ≤ 0 ∧ 0 ≤ 1500 from by (first | omega | (simp only [st_s] <;> omega) | assumption | omega | fail))
        exact ⟨hT, (show ((0 : Int)) = 0 from by (first | omega | (simp only [st_s] <;> omega) | assumption | omega | fail)), (show (τ_36.1 49) = 0 from by (first | omega | (simp only [st_s] <;> omega) | assumption | omega | fail)), (show ∀ i : Int, i < n1 → τ_36.2.1 94 i = σ.2.1 94 i ∧ τ_36.2.1 96 i = σ.2.1 96 i from by exact i36_4), (show ∀ i : Int, n1 ≤ i → i < 1500 → τ_36.2.1 94 i = -1 ∧ τ_36.2.1 96 i = 0 from by exact i36_5), (show ∀ i : Int, 0 ≤ i → i < 1500 → τ_36.2.1 95 i = -9 from by (intro i a b; exact i36_6 i a (by omega)))⟩
      ·
        refine ⟨(show 0 ≤ u2_36 ∧ u2_36 < 1501 from by (first | omega | (simp only [st_s] <;> omega) | assumption | omega | fail)), ?_⟩
        replace hT := mT_a (k := 95) (j := u2_36) hT (show (-9 : Int) ≤ (-9) ∧ (-9) ≤ 1499 from by (first | omega | (simp only [st_s] <;> omega) | assumption | omega | fail))
        refine ⟨(⟨by (first | omega | (simp only [st_s] <;> omega) | assumption | omega | fail), by (first | omega | (simp only [st_s] <;> omega) | assumption | omega | fail)⟩ : rg (u2_36 + 1)), ?_⟩
        exact ih_36 _ _ (show (1501 - (u2_36 + 1) : Int) < ((m_36 : Nat) : Int) from by ((first | omega | (simp only [st_s] <;> omega) | assumption | omega | fail))) hT (show 0 ≤ (u2_36 + 1) from by (first | omega | (simp only [st_s] <;> omega) | assumption | omega | fail)) (show (u2_36 + 1) ≤ 1500 from by (first | omega | (simp only [st_s] <;> omega) | assumption | omega | fail)) (show (τ_36.1 49) = 0 from by (first | omega | (simp only [st_s] <;> omega) | assumption | omega | fail)) (show ∀ i : Int, i < n1 → τ_36.2.1 94 i = σ.2.1 94 i ∧ τ_36.2.1 96 i = σ.2.1 96 i from by (first | exact i36_4 | exact i7_5 | fail)) (show ∀ i : Int, n1 ≤ i → i < 1500 → τ_36.2.1 94 i = -1 ∧ τ_36.2.1 96 i = 0 from by (first | exact i36_5 | (intro i a b; exact i7_6 i a (by omega)) | fail)) (show ∀ i : Int, 0 ≤ i → i < (u2_36 + 1) → (st (τ_36.2.1 95) u2_36 (-9)) i = -9 from by (first | (intro i a b; exfalso; omega) | (intro i a b; rcases (by omega : i < u2_36 ∨ i = u2_36) with y | y; (rw [st_n _ _ (by omega)]; exact i36_6 i a y); (rw [y, st_s])) | fail))
  have l_7 : ∀ (m_7 : Nat) (u2_7 : Int) (τ_7 : S0), 1501 - u2_7 < (m_7 : Int) → (m_T τ_7) → (0 ≤ u2_7) → (u2_7 ≤ 1500) → ((τ_7.1 49) = 0) → (n1 ≤ u2_7) → (∀ i : Int, i < n1 → τ_7.2.1 94 i = σ.2.1 94 i ∧ τ_7.2.1 96 i = σ.2.1 96 i) → (∀ i : Int, n1 ≤ i → i < u2_7 → τ_7.2.1 94 i = -1 ∧ τ_7.2.1 96 i = 0) → P7 u2_7 τ_7 := by
    intro m_7
    induction m_7 with
    | zero =>
      intro u2_7 τ_7 hm hT i7_1 i7_2 i7_3 i7_4 i7_5 i7_6
      have A94 : ∀ j, (-1) ≤ τ_7.2.1 94 j ∧ τ_7.2.1 94 j ≤ 2 := fun j => hT.2 94 j
      have A95 : ∀ j, (-9) ≤ τ_7.2.1 95 j ∧ τ_7.2.1 95 j ≤ 1499 := fun j => hT.2 95 j
      have A96 : ∀ j, 0 ≤ τ_7.2.1 96 j ∧ τ_7.2.1 96 j ≤ 1 := fun j => hT.2 96 j
      have v38 : 0 ≤ τ_7.1 38 ∧ τ_7.1 38 ≤ 1500 := hT.1 38
      have v49 : 0 ≤ τ_7.1 49 ∧ τ_7.1 49 ≤ 1 := hT.1 49
      exfalso; (first | omega | (simp only [st_s] <;> omega) | assumption | omega | fail)
    | succ m_7 ih_7 =>
      intro u2_7 τ_7 hm_7 hT i7_1 i7_2 i7_3 i7_4 i7_5 i7_6
      have A94 : ∀ j, (-1) ≤ τ_7.2.1 94 j ∧ τ_7.2.1 94 j ≤ 2 := fun j => hT.2 94 j
      have A95 : ∀ j, (-9) ≤ τ_7.2.1 95 j ∧ τ_7.2.1 95 j ≤ 1499 := fun j => hT.2 95 j
      have A96 : ∀ j, 0 ≤ τ_7.2.1 96 j ∧ τ_7.2.1 96 j ≤ 1 := fun j => hT.2 96 j
      have v38 : 0 ≤ τ_7.1 38 ∧ τ_7.1 38 ≤ 1500 := hT.1 38
      have v49 : 0 ≤ τ_7.1 49 ∧ τ_7.1 49 ≤ 1 := hT.1 49
      refine h7 u2_7 τ_7 ?_
      refine ⟨fun c1 => ?_, fun c1 => ?_⟩
      ·
        exact l_36 ((1501 - 0 : Int).toNat + 1) _ _ (show (1501 - 0 : Int) < (((1501 - 0 : Int).toNat + 1 : Nat) : Int) from by ((first | omega | (simp only [st_s] <;> omega) | assumption | omega | fail))) hT (show 0 ≤ 0 from by (first | omega | (simp only [st_s] <;> omega) | assumption | omega | fail)) (show 0 ≤ 1500 from by (first | omega | (simp only [st_s] <;> omega) | assumption | omega | fail)) (show (τ_7.1 49) = 0 from by (first | omega | (simp only [st_s] <;> omega) | assumption | omega | fail)) (show ∀ i : Int, i < n1 → τ_7.2.1 94 i = σ.2.1 94 i ∧ τ_7.2.1 96 i = σ.2.1 96 i from by (first | exact i36_4 | exact i7_5 | fail)) (show ∀ i : Int, n1 ≤ i → i < 1500 → τ_7.2.1 94 i = -1 ∧ τ_7.2.1 96 i = 0 from by (first | exact i36_5 | (intro i a b; exact i7_6 i a (by omega)) | fail)) (show ∀ i : Int, 0 ≤ i → i < 0 → τ_7.2.1 95 i = -9 from by (first | (intro i a b; exfalso; omega) | (intro i a b; rcases (by omega : i < u2_36 ∨ i = u2_36) with y | y; (rw [st_n _ _ (by omega)]; exact i36_6 i a y); (rw [y, st_s])) | fail))
      ·
        refine ⟨(show 0 ≤ u2_7 ∧ u2_7 < 1501 from by (first | omega | (simp only [st_s] <;> omega) | assumption | omega | fail)), ?_⟩
        replace hT := mT_a (k := 94) (j := u2_7) hT (show (-1 : Int) ≤ (-1) ∧ (-1) ≤ 2 from by (first | omega | (simp only [st_s] <;> omega) | assumption | omega | fail))
        replace hT := mT_a (k := 96) (j := u2_7) hT (show (0 : Int) ≤ 0 ∧ 0 ≤ 1 from by (first | omega | (simp only [st_s] <;> omega) | assumption | omega | fail))
        refine ⟨(⟨by (first | omega | (simp only [st_s] <;> omega) | assumption | omega | fail), by (first | omega | (simp only [st_s] <;> omega) | assumption | omega | fail)⟩ : rg (u2_7 + 1)), ?_⟩
        exact ih_7 _ _ (show (1501 - (u2_7 + 1) : Int) < ((m_7 : Nat) : Int) from by ((first | omega | (simp only [st_s] <;> omega) | assumption | omega | fail))) hT (show 0 ≤ (u2_7 + 1) from by (first | omega | (simp only [st_s] <;> omega) | assumption | omega | fail)) (show (u2_7 + 1) ≤ 1500 from by (first | omega | (simp only [st_s] <;> omega) | assumption | omega | fail)) (show (τ_7.1 49) = 0 from by (first | omega | (simp only [st_s] <;> omega) | assumption | omega | fail)) (show n1 ≤ (u2_7 + 1) from by (first | omega | (simp only [st_s] <;> omega) | assumption | omega | fail)) (show ∀ i : Int, i < n1 → (st (τ_7.2.1 94) u2_7 (-1)) i = σ.2.1 94 i ∧ (st (τ_7.2.1 96) u2_7 0) i = σ.2.1 96 i from by (first | (intro i a; rw [st_n _ _ (by omega), st_n _ _ (by omega)]; exact i7_5 i a) | (intro i a; exact ⟨rfl, rfl⟩) | fail)) (show ∀ i : Int, n1 ≤ i → i < (u2_7 + 1) → (st (τ_7.2.1 94) u2_7 (-1)) i = -1 ∧ (st (τ_7.2.1 96) u2_7 0) i = 0 from by (first | (intro i a b; exfalso; omega) | (intro i a b; rcases (by omega : i < u2_7 ∨ i = u2_7) with y | y; (rw [st_n _ _ (by omega), st_n _ _ (by omega)]; exact i7_6 i a y); (rw [y, st_s, st_s]; exact ⟨rfl, rfl⟩)) | fail))
  replace hT := mT_v (i := 49) hT (show (0 : Int) ≤ 0 ∧ 0 ≤ 1 from by (first | omega | (simp only [st_s] <;> omega) | assumption | omega | fail))
  exact l_7 ((1501 - n1 : Int).toNat + 1) _ _ (show (1501 - n1 : Int) < (((1501 - n1 : Int).toNat + 1 : Nat) : Int) from by ((first | omega | (simp only [st_s] <;> omega) | assumption | omega | fail))) hT (show 0 ≤ n1 from by (first | omega | (simp only [st_s] <;> omega) | assumption | omega | fail)) (show n1 ≤ 1500 from by (first | omega | (simp only [st_s] <;> omega) | assumption | omega | fail)) (show ((0 : Int)) = 0 from by (first | omega | (simp only [st_s] <;> omega) | assumption | omega | fail)) (show n1 ≤ n1 from by (first | omega | (simp only [st_s] <;> omega) | assumption | omega | fail)) (show ∀ i : Int, i < n1 → σ.2.1 94 i = σ.2.1 94 i ∧ σ.2.1 96 i = σ.2.1 96 i from by (first | (intro i a; rw [st_n _ _ (by omega), st_n _ _ (by omega)]; exact i7_5 i a) | (intro i a; exact ⟨rfl, rfl⟩) | fail)) (show ∀ i : Int, n1 ≤ i → i < n1 → σ.2.1 94 i = -1 ∧ σ.2.1 96 i = 0 from by (first | (intro i a b; exfalso; omega) | (intro i a b; rcases (by omega : i < u2_7 ∨ i = u2_7) with y | y; (rw [st_n _ _ (by omega), st_n _ _ (by omega)]; exact i7_6 i a y); (rw [y, st_s, st_s]; exact ⟨rfl, rfl⟩)) | fail))
