-- pure: the reader, proofs
set_option maxHeartbeats 4000000 in
theorem K_X7_proof {σ : S0} (hT : c_T σ) (p1 : J_ht (σ.1 3) (σ.2.1 2) (σ.2.1 3) (σ.2.1 5) (σ.2.1 6)) (p2 : J_mn (σ.1 3) (σ.1 5) ((σ.1 7) + 1) (σ.2.1 4)) (p3 : J_rks (σ.1 5) (σ.1 4) (σ.2.1 10) (σ.2.1 11)) (p4 : J_vs (σ.1 8) (σ.1 5) (σ.2.1 20)) (p5 : J_vs (σ.1 6) (σ.1 5) (σ.2.1 15)) (p6 : J_va (σ.1 8) 1000 (σ.2.1 18) (σ.2.1 20)) (p7 : J_mk (σ.1 11) (σ.1 8) (σ.1 9) (σ.1 10) (σ.2.1 25)) (p8 : J_sc (σ.1 7) (σ.1 9) (σ.2.1 13) (σ.2.1 14) (σ.2.1 15) (σ.2.1 16) (σ.2.1 22) (σ.2.1 19)) (p9 : J_ff (σ.1 5) (σ.1 7) (σ.2.1 9) (σ.2.1 13) (σ.2.1 14) (σ.2.1 15)) (p10 : ∀ s : Int, σ.2.1 26 s ≤ (σ.1 12)) (p11 : J_all (σ.1 7) (σ.1 6) (σ.1 13) (σ.1 14) (σ.1 15) (σ.2.1 13) (σ.2.1 14) (σ.2.1 15) (σ.2.1 16) (σ.2.1 10) (σ.2.1 27) (σ.2.1 28) (σ.2.1 29) (σ.2.1 30) (σ.2.1 31) (σ.2.1 32) (σ.2.1 33) (σ.2.1 34) (σ.2.1 35) (σ.2.1 36) (σ.2.1 37)) (p12 : J_bp (σ.2.1 44) (σ.2.1 45)) (p13 : J_nl (σ.1 3) (σ.2.1 2) (σ.2.1 3) (σ.2.1 4)) (p14 : J_rs (σ.1 35) (σ.1 7) (σ.1 6) (σ.1 36) (σ.1 37) (σ.1 5) (σ.1 8) (σ.2.1 14)) (p15 : J_uc (σ.1 35) (σ.1 36) (σ.2.1 10 (σ.2.1 15 (σ.2.1 14 (σ.1 7))))) (p16 : J_dj (σ.1 35) (σ.1 36) (σ.2.1 54)) (p17 : J_it (σ.1 35) (σ.1 7) (σ.1 6) (σ.1 37) (σ.2.1 14) (σ.2.1 15) (σ.2.1 16) (σ.2.1 19)) (p18 : J_hu (σ.1 35) (σ.1 13) (σ.1 7)) (p19 : J_ft (σ.1 35) (σ.1 24) (σ.1 7) (σ.1 13) (σ.1 14) (σ.2.1 13) (σ.2.1 14) (σ.2.1 15) (σ.2.1 16) (σ.2.1 27) (σ.2.1 28) (σ.2.1 29) (σ.2.1 30) (σ.2.1 31) (σ.2.1 32)) (p20 : J_ss (σ.1 35) (σ.1 24) (σ.1 21) (σ.1 23) (σ.1 22) (σ.1 27) (σ.1 26) (σ.1 25) (σ.1 16) (σ.2.1 49) (σ.2.1 51)) (p21 : (σ.1 15) ≤ (σ.1 16) ∧ σ.2.1 36 (σ.1 15) ≤ (σ.1 16)) (p22 : (σ.1 9) ≤ (σ.1 7)) (p23 : (σ.1 12) < 2147483647) : W_X7_proof σ (fun (x : Int) (τ : S0) => (c_T τ) ∧ (0 ≤ x ∧ x ≤ 19) ∧ (J_ht (τ.1 3) (τ.2.1 2) (τ.2.1 3) (τ.2.1 5) (τ.2.1 6)) ∧ (J_mn (τ.1 3) (τ.1 5) ((τ.1 7) + 1) (τ.2.1 4)) ∧ (J_rks (τ.1 5) (τ.1 4) (τ.2.1 10) (τ.2.1 11)) ∧ (J_vs (τ.1 8) (τ.1 5) (τ.2.1 20)) ∧ (J_vs (τ.1 6) (τ.1 5) (τ.2.1 15)) ∧ (J_va (τ.1 8) 1000 (τ.2.1 18) (τ.2.1 20)) ∧ (J_mk (τ.1 11) (τ.1 8) (τ.1 9) (τ.1 10) (τ.2.1 25)) ∧ (J_sc (τ.1 7) (τ.1 9) (τ.2.1 13) (τ.2.1 14) (τ.2.1 15) (τ.2.1 16) (τ.2.1 22) (τ.2.1 19)) ∧ (J_ff (τ.1 5) (τ.1 7) (τ.2.1 9) (τ.2.1 13) (τ.2.1 14) (τ.2.1 15)) ∧ (∀ s : Int, τ.2.1 26 s ≤ (τ.1 12)) ∧ (J_all (τ.1 7) (τ.1 6) (τ.1 13) (τ.1 14) (τ.1 15) (τ.2.1 13) (τ.2.1 14) (τ.2.1 15) (τ.2.1 16) (τ.2.1 10) (τ.2.1 27) (τ.2.1 28) (τ.2.1 29) (τ.2.1 30) (τ.2.1 31) (τ.2.1 32) (τ.2.1 33) (τ.2.1 34) (τ.2.1 35) (τ.2.1 36) (τ.2.1 37)) ∧ (J_bp (τ.2.1 44) (τ.2.1 45)) ∧ (J_nl (τ.1 3) (τ.2.1 2) (τ.2.1 3) (τ.2.1 4)) ∧ (x = 0 → J_rs (τ.1 35) (τ.1 7) (τ.1 6) (τ.1 36) (τ.1 37) (τ.1 5) (τ.1 8) (τ.2.1 14)) ∧ (x = 0 → J_uc (τ.1 35) (τ.1 36) (τ.2.1 10 (τ.2.1 15 (τ.2.1 14 (τ.1 7))))) ∧ (x = 0 → J_dj (τ.1 35) (τ.1 36) (τ.2.1 54)) ∧ (x = 0 → J_it (τ.1 35) (τ.1 7) (τ.1 6) (τ.1 37) (τ.2.1 14) (τ.2.1 15) (τ.2.1 16) (τ.2.1 19)) ∧ (x = 0 → J_hu (τ.1 35) (τ.1 13) (τ.1 7)) ∧ (x = 0 → J_ft (τ.1 35) (τ.1 24) (τ.1 7) (τ.1 13) (τ.1 14) (τ.2.1 13) (τ.2.1 14) (τ.2.1 15) (τ.2.1 16) (τ.2.1 27) (τ.2.1 28) (τ.2.1 29) (τ.2.1 30) (τ.2.1 31) (τ.2.1 32)) ∧ (x = 0 → J_ss (τ.1 35) (τ.1 24) (τ.1 21) (τ.1 23) (τ.1 22) (τ.1 27) (τ.1 26) (τ.1 25) (τ.1 16) (τ.2.1 49) (τ.2.1 51)) ∧ (x = 0 → (τ.1 15) ≤ (τ.1 16) ∧ τ.2.1 36 (τ.1 15) ≤ (τ.1 16)) ∧ (x = 0 → (τ.1 9) ≤ (τ.1 7)) ∧ (j_rr ((σ.1 5)) (σ.2.1 10) (τ.2.1 10)) ∧ (j_eq (σ.2.1 36 (σ.1 15)) (σ.2.1 37) (τ.2.1 37)) ∧ ((τ.1 12) ≤ (σ.1 12) + 1) ∧ (c_Y σ τ) ∧ (c_ag σ τ)) := by
  have A2 : ∀ j, 0 ≤ σ.2.1 2 j ∧ σ.2.1 2 j ≤ 65535 := fun j => hT.2 2 j
  have A3 : ∀ j, 0 ≤ σ.2.1 3 j ∧ σ.2.1 3 j ≤ 30000 := fun j => hT.2 3 j
  have A4 : ∀ j, (-1000) ≤ σ.2.1 4 j ∧ σ.2.1 4 j ≤ 1499 := fun j => hT.2 4 j
  have A5 : ∀ j, 0 ≤ σ.2.1 5 j ∧ σ.2.1 5 j ≤ 2500 := fun j => hT.2 5 j
  have A6 : ∀ j, 0 ≤ σ.2.1 6 j ∧ σ.2.1 6 j ≤ 2500 := fun j => hT.2 6 j
  have A8 : ∀ j, 0 ≤ σ.2.1 8 j ∧ σ.2.1 8 j ≤ 1 := fun j => hT.2 8 j
  have A9 : ∀ j, (-1) ≤ σ.2.1 9 j ∧ σ.2.1 9 j ≤ 1499 := fun j => hT.2 9 j
  have A10 : ∀ j, (-1) ≤ σ.2.1 10 j ∧ σ.2.1 10 j ≤ 99 := fun j => hT.2 10 j
  have A11 : ∀ j, 0 ≤ σ.2.1 11 j ∧ σ.2.1 11 j ≤ 999 := fun j => hT.2 11 j
  have A13 : ∀ j, 0 ≤ σ.2.1 13 j ∧ σ.2.1 13 j ≤ 4 := fun j => hT.2 13 j
  have A14 : ∀ j, 0 ≤ σ.2.1 14 j ∧ σ.2.1 14 j ≤ 30000 := fun j => hT.2 14 j
  have A15 : ∀ j, 0 ≤ σ.2.1 15 j ∧ σ.2.1 15 j ≤ 999 := fun j => hT.2 15 j
  have A16 : ∀ j, (-1) ≤ σ.2.1 16 j ∧ σ.2.1 16 j ≤ 1499 := fun j => hT.2 16 j
  have A18 : ∀ j, 0 ≤ σ.2.1 18 j ∧ σ.2.1 18 j ≤ 1 := fun j => hT.2 18 j
  have A19 : ∀ j, (-1) ≤ σ.2.1 19 j ∧ σ.2.1 19 j ≤ 1499 := fun j => hT.2 19 j
  have A20 : ∀ j, 0 ≤ σ.2.1 20 j ∧ σ.2.1 20 j ≤ 999 := fun j => hT.2 20 j
  have A22 : ∀ j, 0 ≤ σ.2.1 22 j ∧ σ.2.1 22 j ≤ 1499 := fun j => hT.2 22 j
  have A23 : ∀ j, 0 ≤ σ.2.1 23 j ∧ σ.2.1 23 j ≤ 999 := fun j => hT.2 23 j
  have A24 : ∀ j, 0 ≤ σ.2.1 24 j ∧ σ.2.1 24 j ≤ 999 := fun j => hT.2 24 j
  have A26 : ∀ j, (-2147483648) ≤ σ.2.1 26 j ∧ σ.2.1 26 j ≤ 2147483647 := fun j => hT.2 26 j
  have A27 : ∀ j, 0 ≤ σ.2.1 27 j ∧ σ.2.1 27 j ≤ 90000 := fun j => hT.2 27 j
  have A28 : ∀ j, 0 ≤ σ.2.1 28 j ∧ σ.2.1 28 j ≤ 60 := fun j => hT.2 28 j
  have A29 : ∀ j, 0 ≤ σ.2.1 29 j ∧ σ.2.1 29 j ≤ 1499 := fun j => hT.2 29 j
  have A30 : ∀ j, 0 ≤ σ.2.1 30 j ∧ σ.2.1 30 j ≤ 20000 := fun j => hT.2 30 j
  have A31 : ∀ j, 0 ≤ σ.2.1 31 j ∧ σ.2.1 31 j ≤ 20000 := fun j => hT.2 31 j
  have A32 : ∀ j, 0 ≤ σ.2.1 32 j ∧ σ.2.1 32 j ≤ 999999 := fun j => hT.2 32 j
  have A33 : ∀ j, 0 ≤ σ.2.1 33 j ∧ σ.2.1 33 j ≤ 20000 := fun j => hT.2 33 j
  have A34 : ∀ j, 0 ≤ σ.2.1 34 j ∧ σ.2.1 34 j ≤ 20000 := fun j => hT.2 34 j
  have A35 : ∀ j, 0 ≤ σ.2.1 35 j ∧ σ.2.1 35 j ≤ 1499 := fun j => hT.2 35 j
  have A36 : ∀ j, 0 ≤ σ.2.1 36 j ∧ σ.2.1 36 j ≤ 20000 := fun j => hT.2 36 j
  have A37 : ∀ j, 0 ≤ σ.2.1 37 j ∧ σ.2.1 37 j ≤ 19999 := fun j => hT.2 37 j
  have A44 : ∀ j, 0 ≤ σ.2.1 44 j ∧ σ.2.1 44 j ≤ 42000 := fun j => hT.2 44 j
  have A45 : ∀ j, 0 ≤ σ.2.1 45 j ∧ σ.2.1 45 j ≤ 1000 := fun j => hT.2 45 j
  have A49 : ∀ j, (-300) ≤ σ.2.1 49 j ∧ σ.2.1 49 j ≤ 67035 := fun j => hT.2 49 j
  have A51 : ∀ j, 0 ≤ σ.2.1 51 j ∧ σ.2.1 51 j ≤ 1499 := fun j => hT.2 51 j
  have A54 : ∀ j, 0 ≤ σ.2.1 54 j ∧ σ.2.1 54 j ≤ 999 := fun j => hT.2 54 j
  have v3 : 0 ≤ σ.1 3 ∧ σ.1 3 ≤ 2500 := hT.1 3
  have v4 : 0 ≤ σ.1 4 ∧ σ.1 4 ≤ 100 := hT.1 4
  have v5 : 0 ≤ σ.1 5 ∧ σ.1 5 ≤ 1000 := hT.1 5
  have v6 : 0 ≤ σ.1 6 ∧ σ.1 6 ≤ 30000 := hT.1 6
  have v7 : 0 ≤ σ.1 7 ∧ σ.1 7 ≤ 1500 := hT.1 7
  have v8 : 0 ≤ σ.1 8 ∧ σ.1 8 ≤ 1000 := hT.1 8
  have v9 : 0 ≤ σ.1 9 ∧ σ.1 9 ≤ 1500 := hT.1 9
  have v10 : 0 ≤ σ.1 10 ∧ σ.1 10 ≤ 1000 := hT.1 10
  have v11 : 0 ≤ σ.1 11 ∧ σ.1 11 ≤ 50 := hT.1 11
  have v12 : (-2147483648) ≤ σ.1 12 ∧ σ.1 12 ≤ 2147483647 := hT.1 12
  have v13 : 0 ≤ σ.1 13 ∧ σ.1 13 ≤ 90000 := hT.1 13
  have v14 : 0 ≤ σ.1 14 ∧ σ.1 14 ≤ 20000 := hT.1 14
  have v15 : 0 ≤ σ.1 15 ∧ σ.1 15 ≤ 20000 := hT.1 15
  have v16 : 0 ≤ σ.1 16 ∧ σ.1 16 ≤ 20000 := hT.1 16
  have v21 : 0 ≤ σ.1 21 ∧ σ.1 21 ≤ 20000 := hT.1 21
  have v22 : 0 ≤ σ.1 22 ∧ σ.1 22 ≤ 300 := hT.1 22
  have v23 : 0 ≤ σ.1 23 ∧ σ.1 23 ≤ 300 := hT.1 23
  have v24 : 0 ≤ σ.1 24 ∧ σ.1 24 ≤ 1499 := hT.1 24
  have v25 : 0 ≤ σ.1 25 ∧ σ.1 25 ≤ 3 := hT.1 25
  have v26 : 0 ≤ σ.1 26 ∧ σ.1 26 ≤ 5000010 := hT.1 26
  have v27 : 0 ≤ σ.1 27 ∧ σ.1 27 ≤ 1 := hT.1 27
  have v35 : 0 ≤ σ.1 35 ∧ σ.1 35 ≤ 7 := hT.1 35
  have v36 : 0 ≤ σ.1 36 ∧ σ.1 36 ≤ 1001 := hT.1 36
  have v37 : 0 ≤ σ.1 37 ∧ σ.1 37 ≤ 4 := hT.1 37
  have a14_7 : 0 ≤ σ.2.1 14 (σ.1 7) ∧ σ.2.1 14 (σ.1 7) ≤ 30000 := hT.2 14 _
  have a36_15 : 0 ≤ σ.2.1 36 (σ.1 15) ∧ σ.2.1 36 (σ.1 15) ≤ 20000 := hT.2 36 _
  have W3 : σ.1 3 = σ.1 3 := rfl
  have W4 : σ.1 4 = σ.1 4 := rfl
  have W5 : σ.1 5 = σ.1 5 := rfl
  have W6 : σ.1 6 = σ.1 6 := rfl
  have W7 : σ.1 7 = σ.1 7 := rfl
  have W8 : σ.1 8 = σ.1 8 := rfl
  have W9 : σ.1 9 = σ.1 9 := rfl
  have W10 : σ.1 10 = σ.1 10 := rfl
  have W11 : σ.1 11 = σ.1 11 := rfl
  have W15 : σ.1 15 = σ.1 15 := rfl
  have W16 : σ.1 16 = σ.1 16 := rfl
  have W36 : σ.1 36 = σ.1 36 := rfl
  have W37 : σ.1 37 = σ.1 37 := rfl
  have G2 : σ.2.1 2 = σ.2.1 2 := rfl
  have G3 : σ.2.1 3 = σ.2.1 3 := rfl
  have G4 : σ.2.1 4 = σ.2.1 4 := rfl
  have G5 : σ.2.1 5 = σ.2.1 5 := rfl
  have G6 : σ.2.1 6 = σ.2.1 6 := rfl
  have G8 : σ.2.1 8 = σ.2.1 8 := rfl
  have G9 : σ.2.1 9 = σ.2.1 9 := rfl
  have G10 : σ.2.1 10 = σ.2.1 10 := rfl
  have G11 : σ.2.1 11 = σ.2.1 11 := rfl
  have G13 : σ.2.1 13 = σ.2.1 13 := rfl
  have G14 : σ.2.1 14 = σ.2.1 14 := rfl
  have G15 : σ.2.1 15 = σ.2.1 15 := rfl
  have G16 : σ.2.1 16 = σ.2.1 16 := rfl
  have G18 : σ.2.1 18 = σ.2.1 18 := rfl
  have G19 : σ.2.1 19 = σ.2.1 19 := rfl
  have G20 : σ.2.1 20 = σ.2.1 20 := rfl
  have G22 : σ.2.1 22 = σ.2.1 22 := rfl
  have G23 : σ.2.1 23 = σ.2.1 23 := rfl
  have G24 : σ.2.1 24 = σ.2.1 24 := rfl
  have G25 : σ.2.1 25 = σ.2.1 25 := rfl
  have G33 : σ.2.1 33 = σ.2.1 33 := rfl
  have G34 : σ.2.1 34 = σ.2.1 34 := rfl
  have G35 : σ.2.1 35 = σ.2.1 35 := rfl
  have G36 : σ.2.1 36 = σ.2.1 36 := rfl
  have G37 : σ.2.1 37 = σ.2.1 37 := rfl
  have G44 : σ.2.1 44 = σ.2.1 44 := rfl
  have G45 : σ.2.1 45 = σ.2.1 45 := rfl
  have G49 : σ.2.1 49 = σ.2.1 49 := rfl
  have G51 : σ.2.1 51 = σ.2.1 51 := rfl
  have G54 : σ.2.1 54 = σ.2.1 54 := rfl
  have ag : c_ag σ σ := ag_0 σ
  have hT0 := hT
  have t015 : ∀ p : Int, 0 ≤ σ.2.1 15 p ∧ σ.2.1 15 p < 1000 := fun p => ⟨(A15 p).1, by have := (A15 p).2; omega⟩
  have CH := j_eq0 (σ.2.1 36 (σ.1 15)) (σ.2.1 37)
  have jt := c_Jt p11
  have JFx := c_JF jt p8 (fun m => (hT.2 22 m).1) (by omega)
  have FPx := c_FP jt p9 (by omega)
  have uc := p15
  have dj := p16
  have ipx := p17
  have hux := p18
  have frx := p19
  have spx := p20
  have sux := p21
  have hcx := p22
  have rsx := p14
  have HT : J_ht (σ.1 3) (σ.2.1 2) (σ.2.1 3) (σ.2.1 5) (σ.2.1 6) := p1
  have NL : J_nl (σ.1 3) (σ.2.1 2) (σ.2.1 3) (σ.2.1 4) := p13
  have MN : J_mn (σ.1 3) (σ.1 5) ((σ.1 7) + 1) (σ.2.1 4) := p2
  have VA : J_va (σ.1 8) 1000 (σ.2.1 18) (σ.2.1 20) := p6
  have SC : J_sc (σ.1 7) (σ.1 9) (σ.2.1 13) (σ.2.1 14) (σ.2.1 15) (σ.2.1 16) (σ.2.1 22) (σ.2.1 19) := p8
  have MK : J_mk (σ.1 11) (σ.1 8) (σ.1 9) (σ.1 10) (σ.2.1 25) := p7
  have FF : J_ff (σ.1 5) (σ.1 7) (σ.2.1 9) (σ.2.1 13) (σ.2.1 14) (σ.2.1 15) := p9
  have MT : ∀ s : Int, σ.2.1 26 s ≤ (σ.1 12) := p10
  have VS : J_vs (σ.1 8) (σ.1 5) (σ.2.1 20) := p4
  have TX : J_vs (σ.1 6) (σ.1 5) (σ.2.1 15) := p5
  have RKS : J_rks (σ.1 5) (σ.1 4) (σ.2.1 10) (σ.2.1 11) := p3
  have CJ : J_all (σ.1 7) (σ.1 6) (σ.1 13) (σ.1 14) (σ.1 15) (σ.2.1 13) (σ.2.1 14) (σ.2.1 15) (σ.2.1 16) (σ.2.1 10) (σ.2.1 27) (σ.2.1 28) (σ.2.1 29) (σ.2.1 30) (σ.2.1 31) (σ.2.1 32) (σ.2.1 33) (σ.2.1 34) (σ.2.1 35) (σ.2.1 36) (σ.2.1 37) := p11
  have BP : J_bp (σ.2.1 44) (σ.2.1 45) := p12
  have RS : J_rs (σ.1 35) (σ.1 7) (σ.1 6) (σ.1 36) (σ.1 37) (σ.1 5) (σ.1 8) (σ.2.1 14) := p14
  have UC : J_uc (σ.1 35) (σ.1 36) (σ.2.1 10 (σ.2.1 15 (σ.2.1 14 (σ.1 7)))) := p15
  have DJs : J_dj (σ.1 35) (σ.1 36) (σ.2.1 54) := p16
  have IPs : J_it (σ.1 35) (σ.1 7) (σ.1 6) (σ.1 37) (σ.2.1 14) (σ.2.1 15) (σ.2.1 16) (σ.2.1 19) := p17
  have HUs : J_hu (σ.1 35) (σ.1 13) (σ.1 7) := p18
  have FRs : J_ft (σ.1 35) (σ.1 24) (σ.1 7) (σ.1 13) (σ.1 14) (σ.2.1 13) (σ.2.1 14) (σ.2.1 15) (σ.2.1 16) (σ.2.1 27) (σ.2.1 28) (σ.2.1 29) (σ.2.1 30) (σ.2.1 31) (σ.2.1 32) := p19
  have SPs : J_ss (σ.1 35) (σ.1 24) (σ.1 21) (σ.1 23) (σ.1 22) (σ.1 27) (σ.1 26) (σ.1 25) (σ.1 16) (σ.2.1 49) (σ.2.1 51) := p20
  have BP_0 := BP
  have CH_0 := CH
  have CJ_0 := CJ
  have DJs_0 := DJs
  have FF_0 := FF
  have FRs_0 := FRs
  have HT_0 := HT
  have HUs_0 := HUs
  have IPs_0 := IPs
  have MK_0 := MK
  have MN_0 := MN
  have MT_0 := MT
  have NL_0 := NL
  have RKS_0 := RKS
  have RS_0 := RS
  have SC_0 := SC
  have SPs_0 := SPs
  have TX_0 := TX
  have UC_0 := UC
  have VA_0 := VA
  have VS_0 := VS
  unfold W_X7_proof
  refine ⟨fun c1 => ?_, fun c1 => ?_⟩
  ·
    exact ⟨hT, (show 0 ≤ 4 ∧ 4 ≤ 19 from by (first | assumption | omega | (simp only [st_s] <;> omega) | fail)), (show J_ht (σ.1 3) (σ.2.1 2) (σ.2.1 3) (σ.2.1 5) (σ.2.1 6) from HT), (show J_mn (σ.1 3) (σ.1 5) ((σ.1 7) + 1) (σ.2.1 4) from MN), (show J_rks (σ.1 5) (σ.1 4) (σ.2.1 10) (σ.2.1 11) from RKS), (show J_vs (σ.1 8) (σ.1 5) (σ.2.1 20) from VS), (show J_vs (σ.1 6) (σ.1 5) (σ.2.1 15) from TX), (show J_va (σ.1 8) 1000 (σ.2.1 18) (σ.2.1 20) from VA), (show J_mk (σ.1 11) (σ.1 8) (σ.1 9) (σ.1 10) (σ.2.1 25) from MK), (show J_sc (σ.1 7) (σ.1 9) (σ.2.1 13) (σ.2.1 14) (σ.2.1 15) (σ.2.1 16) (σ.2.1 22) (σ.2.1 19) from SC), (show J_ff (σ.1 5) (σ.1 7) (σ.2.1 9) (σ.2.1 13) (σ.2.1 14) (σ.2.1 15) from FF), (show ∀ s : Int, σ.2.1 26 s ≤ (σ.1 12) from MT), (show J_all (σ.1 7) (σ.1 6) (σ.1 13) (σ.1 14) (σ.1 15) (σ.2.1 13) (σ.2.1 14) (σ.2.1 15) (σ.2.1 16) (σ.2.1 10) (σ.2.1 27) (σ.2.1 28) (σ.2.1 29) (σ.2.1 30) (σ.2.1 31) (σ.2.1 32) (σ.2.1 33) (σ.2.1 34) (σ.2.1 35) (σ.2.1 36) (σ.2.1 37) from CJ), (show J_bp (σ.2.1 44) (σ.2.1 45) from BP), (show J_nl (σ.1 3) (σ.2.1 2) (σ.2.1 3) (σ.2.1 4) from NL), (show 4 = 0 → J_rs (σ.1 35) (σ.1 7) (σ.1 6) (σ.1 36) (σ.1 37) (σ.1 5) (σ.1 8) (σ.2.1 14) from by (first | exact fun z => absurd z (by decide) | exact fun _ => RS | (intro z; have rs := p14; unfold J_rs at rs ⊢; rw [G14, W7]; omega) | fail)), (show 4 = 0 → J_uc (σ.1 35) (σ.1 36) (σ.2.1 10 (σ.2.1 15 (σ.2.1 14 (σ.1 7)))) from by (first | exact fun z => absurd z (by decide) | (intro z y; exfalso; omega) | exact fun _ => UC | exact fun _ => uc | (intro z y y2; exact uc (by omega) (by omega)) | (intro z y y2; exfalso; omega) | (intro z y y2; rw [G10, G14, G15, W7]; exact uc (by omega) (by omega)) | fail)), (show 4 = 0 → J_dj (σ.1 35) (σ.1 36) (σ.2.1 54) from by (first | exact fun z => absurd z (by decide) | (intro z y; exfalso; omega) | exact fun _ => DJs | exact fun _ => dj | fail)), (show 4 = 0 → J_it (σ.1 35) (σ.1 7) (σ.1 6) (σ.1 37) (σ.2.1 14) (σ.2.1 15) (σ.2.1 16) (σ.2.1 19) from by (first | exact fun z => absurd z (by decide) | (intro z y; exfalso; omega) | exact fun _ => IPs | exact fun _ => ipx | (intro z y; exact ipx (by omega)) | (intro z y; rw [W7, W6, W37, G14, G15, G16, G19]; exact ipx (by omega)) | fail)), (show 4 = 0 → J_hu (σ.1 35) (σ.1 13) (σ.1 7) from by (first | exact fun z => absurd z (by decide) | (intro z; unfold J_hu; omega) | fail)), (show 4 = 0 → J_ft (σ.1 35) (σ.1 24) (σ.1 7) (σ.1 13) (σ.1 14) (σ.2.1 13) (σ.2.1 14) (σ.2.1 15) (σ.2.1 16) (σ.2.1 27) (σ.2.1 28) (σ.2.1 29) (σ.2.1 30) (σ.2.1 31) (σ.2.1 32) from by (first | exact fun z => absurd z (by decide) | (intro z y; refine ⟨by omega, ?_⟩; rw [w7_τ10, w13_τ10, w14_τ10, g13_τ10, g14_τ10, g15_τ10, g16_τ10, g27_τ10, g28_τ10, g29_τ10, g30_τ10, g31_τ10, g32_τ10, w7_τ6]; exact q4_7 c7) | fail)), (show 4 = 0 → J_ss (σ.1 35) (σ.1 24) (σ.1 21) (σ.1 23) (σ.1 22) (σ.1 27) (σ.1 26) (σ.1 25) (σ.1 16) (σ.2.1 49) (σ.2.1 51) from by (first | exact fun z => absurd z (by decide) | (intro z y; refine ⟨?_, by omega, by omega, by omega, by omega⟩; rw [q8_2, q8_1, q8_5, q8_4]; exact J_sp0 _ _ _) | fail)), (show 4 = 0 → (σ.1 15) ≤ (σ.1 16) ∧ σ.2.1 36 (σ.1 15) ≤ (σ.1 16) from by (intro z; first | exact sux | omega)), (show 4 = 0 → (σ.1 9) ≤ (σ.1 7) from by (intro z; omega)), (show j_rr ((σ.1 5)) (σ.2.1 10) (σ.2.1 10) from by (first | exact j_rr0 _ _ | (rw [G10]; exact j_rr0 _ _) | fail)), (show j_eq (σ.2.1 36 (σ.1 15)) (σ.2.1 37) (σ.2.1 37) from CH), (show (σ.1 12) ≤ (σ.1 12) + 1 from by (first | assumption | omega | (simp only [st_s] <;> omega) | fail)), (show c_Y σ σ from by (first | exact c_Y0 _ | exact c_Y_g W4 G11 G20 G22 G25 | fail)), ag⟩
  ·
    refine ⟨fun c2 => ?_, fun c2 => ?_⟩
    ·
      exact ⟨hT, (show 0 ≤ 4 ∧ 4 ≤ 19 from by (first | assumption | omega | (simp only [st_s] <;> omega) | fail)), (show J_ht (σ.1 3) (σ.2.1 2) (σ.2.1 3) (σ.2.1 5) (σ.2.1 6) from HT), (show J_mn (σ.1 3) (σ.1 5) ((σ.1 7) + 1) (σ.2.1 4) from MN), (show J_rks (σ.1 5) (σ.1 4) (σ.2.1 10) (σ.2.1 11) from RKS), (show J_vs (σ.1 8) (σ.1 5) (σ.2.1 20) from VS), (show J_vs (σ.1 6) (σ.1 5) (σ.2.1 15) from TX), (show J_va (σ.1 8) 1000 (σ.2.1 18) (σ.2.1 20) from VA), (show J_mk (σ.1 11) (σ.1 8) (σ.1 9) (σ.1 10) (σ.2.1 25) from MK), (show J_sc (σ.1 7) (σ.1 9) (σ.2.1 13) (σ.2.1 14) (σ.2.1 15) (σ.2.1 16) (σ.2.1 22) (σ.2.1 19) from SC), (show J_ff (σ.1 5) (σ.1 7) (σ.2.1 9) (σ.2.1 13) (σ.2.1 14) (σ.2.1 15) from FF), (show ∀ s : Int, σ.2.1 26 s ≤ (σ.1 12) from MT), (show J_all (σ.1 7) (σ.1 6) (σ.1 13) (σ.1 14) (σ.1 15) (σ.2.1 13) (σ.2.1 14) (σ.2.1 15) (σ.2.1 16) (σ.2.1 10) (σ.2.1 27) (σ.2.1 28) (σ.2.1 29) (σ.2.1 30) (σ.2.1 31) (σ.2.1 32) (σ.2.1 33) (σ.2.1 34) (σ.2.1 35) (σ.2.1 36) (σ.2.1 37) from CJ), (show J_bp (σ.2.1 44) (σ.2.1 45) from BP), (show J_nl (σ.1 3) (σ.2.1 2) (σ.2.1 3) (σ.2.1 4) from NL), (show 4 = 0 → J_rs (σ.1 35) (σ.1 7) (σ.1 6) (σ.1 36) (σ.1 37) (σ.1 5) (σ.1 8) (σ.2.1 14) from by (first | exact fun z => absurd z (by decide) | exact fun _ => RS | (intro z; have rs := p14; unfold J_rs at rs ⊢; rw [G14, W7]; omega) | fail)), (show 4 = 0 → J_uc (σ.1 35) (σ.1 36) (σ.2.1 10 (σ.2.1 15 (σ.2.1 14 (σ.1 7)))) from by (first | exact fun z => absurd z (by decide) | (intro z y; exfalso; omega) | exact fun _ => UC | exact fun _ => uc | (intro z y y2; exact uc (by omega) (by omega)) | (intro z y y2; exfalso; omega) | (intro z y y2; rw [G10, G14, G15, W7]; exact uc (by omega) (by omega)) | fail)), (show 4 = 0 → J_dj (σ.1 35) (σ.1 36) (σ.2.1 54) from by (first | exact fun z => absurd z (by decide) | (intro z y; exfalso; omega) | exact fun _ => DJs | exact fun _ => dj | fail)), (show 4 = 0 → J_it (σ.1 35) (σ.1 7) (σ.1 6) (σ.1 37) (σ.2.1 14) (σ.2.1 15) (σ.2.1 16) (σ.2.1 19) from by (first | exact fun z => absurd z (by decide) | (intro z y; exfalso; omega) | exact fun _ => IPs | exact fun _ => ipx | (intro z y; exact ipx (by omega)) | (intro z y; rw [W7, W6, W37, G14, G15, G16, G19]; exact ipx (by omega)) | fail)), (show 4 = 0 → J_hu (σ.1 35) (σ.1 13) (σ.1 7) from by (first | exact fun z => absurd z (by decide) | (intro z; unfold J_hu; omega) | fail)), (show 4 = 0 → J_ft (σ.1 35) (σ.1 24) (σ.1 7) (σ.1 13) (σ.1 14) (σ.2.1 13) (σ.2.1 14) (σ.2.1 15) (σ.2.1 16) (σ.2.1 27) (σ.2.1 28) (σ.2.1 29) (σ.2.1 30) (σ.2.1 31) (σ.2.1 32) from by (first | exact fun z => absurd z (by decide) | (intro z y; refine ⟨by omega, ?_⟩; rw [w7_τ10, w13_τ10, w14_τ10, g13_τ10, g14_τ10, g15_τ10, g16_τ10, g27_τ10, g28_τ10, g29_τ10, g30_τ10, g31_τ10, g32_τ10, w7_τ6]; exact q4_7 c7) | fail)), (show 4 = 0 → J_ss (σ.1 35) (σ.1 24) (σ.1 21) (σ.1 23) (σ.1 22) (σ.1 27) (σ.1 26) (σ.1 25) (σ.1 16) (σ.2.1 49) (σ.2.1 51) from by (first | exact fun z => absurd z (by decide) | (intro z y; refine ⟨?_, by omega, by omega, by omega, by omega⟩; rw [q8_2, q8_1, q8_5, q8_4]; exact J_sp0 _ _ _) | fail)), (show 4 = 0 → (σ.1 15) ≤ (σ.1 16) ∧ σ.2.1 36 (σ.1 15) ≤ (σ.1 16) from by (intro z; first | exact sux | omega)), (show 4 = 0 → (σ.1 9) ≤ (σ.1 7) from by (intro z; omega)), (show j_rr ((σ.1 5)) (σ.2.1 10) (σ.2.1 10) from by (first | exact j_rr0 _ _ | (rw [G10]; exact j_rr0 _ _) | fail)), (show j_eq (σ.2.1 36 (σ.1 15)) (σ.2.1 37) (σ.2.1 37) from CH), (show (σ.1 12) ≤ (σ.1 12) + 1 from by (first | assumption | omega | (simp only [st_s] <;> omega) | fail)), (show c_Y σ σ from by (first | exact c_Y0 _ | exact c_Y_g W4 G11 G20 G22 G25 | fail)), ag⟩
    ·
      refine ⟨fun c3 => ?_, fun c3 => ?_⟩
      ·
        have rs5 := J_rs_5 rsx (by omega)
        have rsa := J_rs_a rsx (by omega) (by omega)
        have huk := hux.1 (by omega)
        refine ⟨_, K_X0_makeFrame hT (show 0 ≤ (σ.1 7) from by (first | assumption | omega | (simp only [st_s] <;> omega) | fail)) (show (σ.1 7) < 1500 from by (first | assumption | omega | (simp only [st_s] <;> omega) | fail)) (show (σ.1 7) = (σ.1 7) from by (first | assumption | omega | (simp only [st_s] <;> omega) | fail)) (show (σ.1 13) ≤ 60 * (σ.1 7) from by (first | assumption | omega | (simp only [st_s] <;> omega) | fail)) (show J_hfa (σ.1 9) (σ.2.1 13) (σ.2.1 14) (σ.2.1 22) from by exact JFx) (show (σ.1 12) < 2147483647 from by (first | assumption | omega | (simp only [st_s] <;> omega) | fail)) (show J_sc (σ.1 7) (σ.1 9) (σ.2.1 13) (σ.2.1 14) (σ.2.1 15) (σ.2.1 16) (σ.2.1 22) (σ.2.1 19) from SC) (show J_ip (σ.1 7) (σ.1 6) (σ.1 37) (σ.2.1 14) (σ.2.1 15) (σ.2.1 16) (σ.2.1 19) from by exact ipx (by omega)) (show ¬ (σ.1 37) = 0 from by (first | assumption | omega | (simp only [st_s] <;> omega) | fail)) (show σ.2.1 14 ((σ.1 7) + 1) = (σ.1 6) from by (first | assumption | omega | (simp only [st_s] <;> omega) | fail)) (show σ.2.1 14 (σ.1 7) ≤ (σ.1 6) from by (first | assumption | omega | (simp only [st_s] <;> omega) | fail)) (show ∀ i : Int, 0 ≤ i → i < (σ.1 7) → J_t i (σ.1 6) (σ.2.1 13) (σ.2.1 14) (σ.2.1 15) (σ.2.1 16) (σ.2.1 10) from by exact jt) (show ∀ s : Int, σ.2.1 26 s ≤ (σ.1 12) from MT), ?_⟩
        intro x5 τ6 r_x5 hn_τ6 hf_τ6 hq
        obtain ⟨hT, q4_1, q4_2, q4_3, q4_4, q4_5, q4_6, q4_7, q4_8⟩ := hq
        replace q4_1 : 0 ≤ x5 ∧ x5 ≤ 1 := q4_1
        replace q4_2 : τ6.2.1 27 (σ.1 7) + τ6.2.1 28 (σ.1 7) = (τ6.1 13) := q4_2
        replace q4_3 : (τ6.1 13) ≤ 60 * (σ.1 7) + 60 := q4_3
        replace q4_4 : ¬ x5 = 0 → τ6.2.1 30 (σ.1 7) + τ6.2.1 31 (σ.1 7) = (τ6.1 14) := q4_4
        replace q4_5 : (τ6.1 12) = (σ.1 12) + 1 := q4_5
        replace q4_6 : ∀ s : Int, τ6.2.1 26 s ≤ (τ6.1 12) := q4_6
        replace q4_7 : ¬ x5 = 0 → J_f (σ.1 7) (τ6.1 13) (τ6.1 14) (τ6.2.1 13) (τ6.2.1 14) (τ6.2.1 15) (τ6.2.1 16) (τ6.2.1 27) (τ6.2.1 28) (τ6.2.1 29) (τ6.2.1 30) (τ6.2.1 31) (τ6.2.1 32) := q4_7
        replace q4_8 : c_ag σ τ6 := q4_8
        replace ag : c_ag σ τ6 := ag_t ag q4_8 rfl
        have w3_τ6 : τ6.1 3 = σ.1 3 := hf_τ6.1 3 (by decide)
        have w4_τ6 : τ6.1 4 = σ.1 4 := hf_τ6.1 4 (by decide)
        have w5_τ6 : τ6.1 5 = σ.1 5 := hf_τ6.1 5 (by decide)
        have w6_τ6 : τ6.1 6 = σ.1 6 := hf_τ6.1 6 (by decide)
        have w7_τ6 : τ6.1 7 = σ.1 7 := hf_τ6.1 7 (by decide)
        have w8_τ6 : τ6.1 8 = σ.1 8 := hf_τ6.1 8 (by decide)
        have w9_τ6 : τ6.1 9 = σ.1 9 := hf_τ6.1 9 (by decide)
        have w10_τ6 : τ6.1 10 = σ.1 10 := hf_τ6.1 10 (by decide)
        have w11_τ6 : τ6.1 11 = σ.1 11 := hf_τ6.1 11 (by decide)
        have w15_τ6 : τ6.1 15 = σ.1 15 := hf_τ6.1 15 (by decide)
        have w16_τ6 : τ6.1 16 = σ.1 16 := hf_τ6.1 16 (by decide)
        have w21_τ6 : τ6.1 21 = σ.1 21 := hf_τ6.1 21 (by decide)
        have w22_τ6 : τ6.1 22 = σ.1 22 := hf_τ6.1 22 (by decide)
        have w23_τ6 : τ6.1 23 = σ.1 23 := hf_τ6.1 23 (by decide)
        have w24_τ6 : τ6.1 24 = σ.1 24 := hf_τ6.1 24 (by decide)
        have w25_τ6 : τ6.1 25 = σ.1 25 := hf_τ6.1 25 (by decide)
        have w26_τ6 : τ6.1 26 = σ.1 26 := hf_τ6.1 26 (by decide)
        have w27_τ6 : τ6.1 27 = σ.1 27 := hf_τ6.1 27 (by decide)
        have w35_τ6 : τ6.1 35 = σ.1 35 := hf_τ6.1 35 (by decide)
        have w36_τ6 : τ6.1 36 = σ.1 36 := hf_τ6.1 36 (by decide)
        have w37_τ6 : τ6.1 37 = σ.1 37 := hf_τ6.1 37 (by decide)
        have g2_τ6 : τ6.2.1 2 = σ.2.1 2 := hf_τ6.2.1 2 (by decide)
        have g3_τ6 : τ6.2.1 3 = σ.2.1 3 := hf_τ6.2.1 3 (by decide)
        have g4_τ6 : τ6.2.1 4 = σ.2.1 4 := hf_τ6.2.1 4 (by decide)
        have g5_τ6 : τ6.2.1 5 = σ.2.1 5 := hf_τ6.2.1 5 (by decide)
        have g6_τ6 : τ6.2.1 6 = σ.2.1 6 := hf_τ6.2.1 6 (by decide)
        have g8_τ6 : τ6.2.1 8 = σ.2.1 8 := hf_τ6.2.1 8 (by decide)
        have g9_τ6 : τ6.2.1 9 = σ.2.1 9 := hf_τ6.2.1 9 (by decide)
        have g10_τ6 : τ6.2.1 10 = σ.2.1 10 := hf_τ6.2.1 10 (by decide)
        have g11_τ6 : τ6.2.1 11 = σ.2.1 11 := hf_τ6.2.1 11 (by decide)
        have g13_τ6 : τ6.2.1 13 = σ.2.1 13 := hf_τ6.2.1 13 (by decide)
        have g14_τ6 : τ6.2.1 14 = σ.2.1 14 := hf_τ6.2.1 14 (by decide)
        have g15_τ6 : τ6.2.1 15 = σ.2.1 15 := hf_τ6.2.1 15 (by decide)
        have g16_τ6 : τ6.2.1 16 = σ.2.1 16 := hf_τ6.2.1 16 (by decide)
        have g18_τ6 : τ6.2.1 18 = σ.2.1 18 := hf_τ6.2.1 18 (by decide)
        have g19_τ6 : τ6.2.1 19 = σ.2.1 19 := hf_τ6.2.1 19 (by decide)
        have g20_τ6 : τ6.2.1 20 = σ.2.1 20 := hf_τ6.2.1 20 (by decide)
        have g22_τ6 : τ6.2.1 22 = σ.2.1 22 := hf_τ6.2.1 22 (by decide)
        have g23_τ6 : τ6.2.1 23 = σ.2.1 23 := hf_τ6.2.1 23 (by decide)
        have g24_τ6 : τ6.2.1 24 = σ.2.1 24 := hf_τ6.2.1 24 (by decide)
        have g25_τ6 : τ6.2.1 25 = σ.2.1 25 := hf_τ6.2.1 25 (by decide)
        have g33_τ6 : τ6.2.1 33 = σ.2.1 33 := hf_τ6.2.1 33 (by decide)
        have g34_τ6 : τ6.2.1 34 = σ.2.1 34 := hf_τ6.2.1 34 (by decide)
        have g35_τ6 : τ6.2.1 35 = σ.2.1 35 := hf_τ6.2.1 35 (by decide)
        have g36_τ6 : τ6.2.1 36 = σ.2.1 36 := hf_τ6.2.1 36 (by decide)
        have g37_τ6 : τ6.2.1 37 = σ.2.1 37 := hf_τ6.2.1 37 (by decide)
        have g44_τ6 : τ6.2.1 44 = σ.2.1 44 := hf_τ6.2.1 44 (by decide)
        have g45_τ6 : τ6.2.1 45 = σ.2.1 45 := hf_τ6.2.1 45 (by decide)
        have g49_τ6 : τ6.2.1 49 = σ.2.1 49 := hf_τ6.2.1 49 (by decide)
        have g51_τ6 : τ6.2.1 51 = σ.2.1 51 := hf_τ6.2.1 51 (by decide)
        have g54_τ6 : τ6.2.1 54 = σ.2.1 54 := hf_τ6.2.1 54 (by decide)
        have W3 : τ6.1 3 = σ.1 3 := by first | exact w3_τ6.trans W3 | omega
        have W4 : τ6.1 4 = σ.1 4 := by first | exact w4_τ6.trans W4 | omega
        have W5 : τ6.1 5 = σ.1 5 := by first | exact w5_τ6.trans W5 | omega
        have W6 : τ6.1 6 = σ.1 6 := by first | exact w6_τ6.trans W6 | omega
        have W7 : τ6.1 7 = σ.1 7 := by first | exact w7_τ6.trans W7 | omega
        have W8 : τ6.1 8 = σ.1 8 := by first | exact w8_τ6.trans W8 | omega
        have W9 : τ6.1 9 = σ.1 9 := by first | exact w9_τ6.trans W9 | omega
        have W10 : τ6.1 10 = σ.1 10 := by first | exact w10_τ6.trans W10 | omega
        have W11 : τ6.1 11 = σ.1 11 := by first | exact w11_τ6.trans W11 | omega
        have W15 : τ6.1 15 = σ.1 15 := by first | exact w15_τ6.trans W15 | omega
        have W16 : τ6.1 16 = σ.1 16 := by first | exact w16_τ6.trans W16 | omega
        have W36 : τ6.1 36 = σ.1 36 := by first | exact w36_τ6.trans W36 | omega
        have W37 : τ6.1 37 = σ.1 37 := by first | exact w37_τ6.trans W37 | omega
        have G2 : τ6.2.1 2 = σ.2.1 2 := (g2_τ6).trans G2
        have G3 : τ6.2.1 3 = σ.2.1 3 := (g3_τ6).trans G3
        have G4 : τ6.2.1 4 = σ.2.1 4 := (g4_τ6).trans G4
        have G5 : τ6.2.1 5 = σ.2.1 5 := (g5_τ6).trans G5
        have G6 : τ6.2.1 6 = σ.2.1 6 := (g6_τ6).trans G6
        have G8 : τ6.2.1 8 = σ.2.1 8 := (g8_τ6).trans G8
        have G9 : τ6.2.1 9 = σ.2.1 9 := (g9_τ6).trans G9
        have G10 : τ6.2.1 10 = σ.2.1 10 := (g10_τ6).trans G10
        have G11 : τ6.2.1 11 = σ.2.1 11 := (g11_τ6).trans G11
        have G13 : τ6.2.1 13 = σ.2.1 13 := (g13_τ6).trans G13
        have G14 : τ6.2.1 14 = σ.2.1 14 := (g14_τ6).trans G14
        have G15 : τ6.2.1 15 = σ.2.1 15 := (g15_τ6).trans G15
        have G16 : τ6.2.1 16 = σ.2.1 16 := (g16_τ6).trans G16
        have G18 : τ6.2.1 18 = σ.2.1 18 := (g18_τ6).trans G18
        have G19 : τ6.2.1 19 = σ.2.1 19 := (g19_τ6).trans G19
        have G20 : τ6.2.1 20 = σ.2.1 20 := (g20_τ6).trans G20
        have G22 : τ6.2.1 22 = σ.2.1 22 := (g22_τ6).trans G22
        have G23 : τ6.2.1 23 = σ.2.1 23 := (g23_τ6).trans G23
        have G24 : τ6.2.1 24 = σ.2.1 24 := (g24_τ6).trans G24
        have G25 : τ6.2.1 25 = σ.2.1 25 := (g25_τ6).trans G25
        have G33 : τ6.2.1 33 = σ.2.1 33 := (g33_τ6).trans G33
        have G34 : τ6.2.1 34 = σ.2.1 34 := (g34_τ6).trans G34
        have G35 : τ6.2.1 35 = σ.2.1 35 := (g35_τ6).trans G35
        have G36 : τ6.2.1 36 = σ.2.1 36 := (g36_τ6).trans G36
        have G37 : τ6.2.1 37 = σ.2.1 37 := (g37_τ6).trans G37
        have G44 : τ6.2.1 44 = σ.2.1 44 := (g44_τ6).trans G44
        have G45 : τ6.2.1 45 = σ.2.1 45 := (g45_τ6).trans G45
        have G49 : τ6.2.1 49 = σ.2.1 49 := (g49_τ6).trans G49
        have G51 : τ6.2.1 51 = σ.2.1 51 := (g51_τ6).trans G51
        have G54 : τ6.2.1 54 = σ.2.1 54 := (g54_τ6).trans G54
        have y14_7_τ6 : τ6.2.1 14 (τ6.1 7) = (σ.2.1 14) (σ.1 7) := by rw [g14_τ6, w7_τ6]
        have y36_15_τ6 : τ6.2.1 36 (τ6.1 15) = (σ.2.1 36) (σ.1 15) := by rw [g36_τ6, w15_τ6]
        have HT : J_ht (τ6.1 3) (τ6.2.1 2) (τ6.2.1 3) (τ6.2.1 5) (τ6.2.1 6) := by rw [show (J_ht (τ6.1 3) (τ6.2.1 2) (τ6.2.1 3) (τ6.2.1 5) (τ6.2.1 6)) = (J_ht (σ.1 3) (σ.2.1 2) (σ.2.1 3) (σ.2.1 5) (σ.2.1 6)) from by rw [w3_τ6, g2_τ6, g3_τ6, g5_τ6, g6_τ6]]; exact HT
        have NL : J_nl (τ6.1 3) (τ6.2.1 2) (τ6.2.1 3) (τ6.2.1 4) := by rw [show (J_nl (τ6.1 3) (τ6.2.1 2) (τ6.2.1 3) (τ6.2.1 4)) = (J_nl (σ.1 3) (σ.2.1 2) (σ.2.1 3) (σ.2.1 4)) from by rw [w3_τ6, g2_τ6, g3_τ6, g4_τ6]]; exact NL
        have MN : J_mn (τ6.1 3) (τ6.1 5) ((τ6.1 7) + 1) (τ6.2.1 4) := by rw [show (J_mn (τ6.1 3) (τ6.1 5) ((τ6.1 7) + 1) (τ6.2.1 4)) = (J_mn (σ.1 3) (σ.1 5) ((σ.1 7) + 1) (σ.2.1 4)) from by rw [w3_τ6, w5_τ6, w7_τ6, g4_τ6]]; exact MN
        have VA : J_va (τ6.1 8) 1000 (τ6.2.1 18) (τ6.2.1 20) := by rw [show (J_va (τ6.1 8) 1000 (τ6.2.1 18) (τ6.2.1 20)) = (J_va (σ.1 8) 1000 (σ.2.1 18) (σ.2.1 20)) from by rw [w8_τ6, g18_τ6, g20_τ6]]; exact VA
        have SC : J_sc (τ6.1 7) (τ6.1 9) (τ6.2.1 13) (τ6.2.1 14) (τ6.2.1 15) (τ6.2.1 16) (τ6.2.1 22) (τ6.2.1 19) := by rw [show (J_sc (τ6.1 7) (τ6.1 9) (τ6.2.1 13) (τ6.2.1 14) (τ6.2.1 15) (τ6.2.1 16) (τ6.2.1 22) (τ6.2.1 19)) = (J_sc (σ.1 7) (σ.1 9) (σ.2.1 13) (σ.2.1 14) (σ.2.1 15) (σ.2.1 16) (σ.2.1 22) (σ.2.1 19)) from by rw [w7_τ6, w9_τ6, g13_τ6, g14_τ6, g15_τ6, g16_τ6, g19_τ6, g22_τ6]]; exact SC
        have MK : J_mk (τ6.1 11) (τ6.1 8) (τ6.1 9) (τ6.1 10) (τ6.2.1 25) := by rw [show (J_mk (τ6.1 11) (τ6.1 8) (τ6.1 9) (τ6.1 10) (τ6.2.1 25)) = (J_mk (σ.1 11) (σ.1 8) (σ.1 9) (σ.1 10) (σ.2.1 25)) from by rw [w8_τ6, w9_τ6, w10_τ6, w11_τ6, g25_τ6]]; exact MK
        have FF : J_ff (τ6.1 5) (τ6.1 7) (τ6.2.1 9) (τ6.2.1 13) (τ6.2.1 14) (τ6.2.1 15) := by rw [show (J_ff (τ6.1 5) (τ6.1 7) (τ6.2.1 9) (τ6.2.1 13) (τ6.2.1 14) (τ6.2.1 15)) = (J_ff (σ.1 5) (σ.1 7) (σ.2.1 9) (σ.2.1 13) (σ.2.1 14) (σ.2.1 15)) from by rw [w5_τ6, w7_τ6, g9_τ6, g13_τ6, g14_τ6, g15_τ6]]; exact FF
        have MT : ∀ s : Int, τ6.2.1 26 s ≤ (τ6.1 12) := q4_6
        have VS : J_vs (τ6.1 8) (τ6.1 5) (τ6.2.1 20) := by rw [show (J_vs (τ6.1 8) (τ6.1 5) (τ6.2.1 20)) = (J_vs (σ.1 8) (σ.1 5) (σ.2.1 20)) from by rw [w5_τ6, w8_τ6, g20_τ6]]; exact VS
        have TX : J_vs (τ6.1 6) (τ6.1 5) (τ6.2.1 15) := by rw [show (J_vs (τ6.1 6) (τ6.1 5) (τ6.2.1 15)) = (J_vs (σ.1 6) (σ.1 5) (σ.2.1 15)) from by rw [w5_τ6, w6_τ6, g15_τ6]]; exact TX
        have RKS : J_rks (τ6.1 5) (τ6.1 4) (τ6.2.1 10) (τ6.2.1 11) := by rw [show (J_rks (τ6.1 5) (τ6.1 4) (τ6.2.1 10) (τ6.2.1 11)) = (J_rks (σ.1 5) (σ.1 4) (σ.2.1 10) (σ.2.1 11)) from by rw [w4_τ6, w5_τ6, g10_τ6, g11_τ6]]; exact RKS
        have BP : J_bp (τ6.2.1 44) (τ6.2.1 45) := by rw [show (J_bp (τ6.2.1 44) (τ6.2.1 45)) = (J_bp (σ.2.1 44) (σ.2.1 45)) from by rw [g44_τ6, g45_τ6]]; exact BP
        have CH : j_eq (σ.2.1 36 (σ.1 15)) (σ.2.1 37) (τ6.2.1 37) := by rw [show (j_eq (σ.2.1 36 (σ.1 15)) (σ.2.1 37) (τ6.2.1 37)) = (j_eq (σ.2.1 36 (σ.1 15)) (σ.2.1 37) (σ.2.1 37)) from by rw [g37_τ6]]; exact CH
        have RS : J_rs (τ6.1 35) (τ6.1 7) (τ6.1 6) (τ6.1 36) (τ6.1 37) (τ6.1 5) (τ6.1 8) (τ6.2.1 14) := by rw [show (J_rs (τ6.1 35) (τ6.1 7) (τ6.1 6) (τ6.1 36) (τ6.1 37) (τ6.1 5) (τ6.1 8) (τ6.2.1 14)) = (J_rs (σ.1 35) (σ.1 7) (σ.1 6) (σ.1 36) (σ.1 37) (σ.1 5) (σ.1 8) (σ.2.1 14)) from by rw [w5_τ6, w6_τ6, w7_τ6, w8_τ6, w35_τ6, w36_τ6, w37_τ6, g14_τ6]]; exact RS
        have UC : J_uc (τ6.1 35) (τ6.1 36) (τ6.2.1 10 (τ6.2.1 15 (τ6.2.1 14 (τ6.1 7)))) := by rw [show (J_uc (τ6.1 35) (τ6.1 36) (τ6.2.1 10 (τ6.2.1 15 (τ6.2.1 14 (τ6.1 7))))) = (J_uc (σ.1 35) (σ.1 36) (σ.2.1 10 (σ.2.1 15 (σ.2.1 14 (σ.1 7))))) from by rw [w7_τ6, w35_τ6, w36_τ6, g10_τ6, g14_τ6, g15_τ6]]; exact UC
        have DJs : J_dj (τ6.1 35) (τ6.1 36) (τ6.2.1 54) := by rw [show (J_dj (τ6.1 35) (τ6.1 36) (τ6.2.1 54)) = (J_dj (σ.1 35) (σ.1 36) (σ.2.1 54)) from by rw [w35_τ6, w36_τ6, g54_τ6]]; exact DJs
        have IPs : J_it (τ6.1 35) (τ6.1 7) (τ6.1 6) (τ6.1 37) (τ6.2.1 14) (τ6.2.1 15) (τ6.2.1 16) (τ6.2.1 19) := by rw [show (J_it (τ6.1 35) (τ6.1 7) (τ6.1 6) (τ6.1 37) (τ6.2.1 14) (τ6.2.1 15) (τ6.2.1 16) (τ6.2.1 19)) = (J_it (σ.1 35) (σ.1 7) (σ.1 6) (σ.1 37) (σ.2.1 14) (σ.2.1 15) (σ.2.1 16) (σ.2.1 19)) from by rw [w6_τ6, w7_τ6, w35_τ6, w37_τ6, g14_τ6, g15_τ6, g16_τ6, g19_τ6]]; exact IPs
        have SPs : J_ss (τ6.1 35) (τ6.1 24) (τ6.1 21) (τ6.1 23) (τ6.1 22) (τ6.1 27) (τ6.1 26) (τ6.1 25) (τ6.1 16) (τ6.2.1 49) (τ6.2.1 51) := by rw [show (J_ss (τ6.1 35) (τ6.1 24) (τ6.1 21) (τ6.1 23) (τ6.1 22) (τ6.1 27) (τ6.1 26) (τ6.1 25) (τ6.1 16) (τ6.2.1 49) (τ6.2.1 51)) = (J_ss (σ.1 35) (σ.1 24) (σ.1 21) (σ.1 23) (σ.1 22) (σ.1 27) (σ.1 26) (σ.1 25) (σ.1 16) (σ.2.1 49) (σ.2.1 51)) from by rw [w16_τ6, w21_τ6, w22_τ6, w23_τ6, w24_τ6, w25_τ6, w26_τ6, w27_τ6, w35_τ6, g49_τ6, g51_τ6]]; exact SPs
        have A2 : ∀ j, 0 ≤ τ6.2.1 2 j ∧ τ6.2.1 2 j ≤ 65535 := fun j => hT.2 2 j
        have A3 : ∀ j, 0 ≤ τ6.2.1 3 j ∧ τ6.2.1 3 j ≤ 30000 := fun j => hT.2 3 j
        have A4 : ∀ j, (-1000) ≤ τ6.2.1 4 j ∧ τ6.2.1 4 j ≤ 1499 := fun j => hT.2 4 j
        have A5 : ∀ j, 0 ≤ τ6.2.1 5 j ∧ τ6.2.1 5 j ≤ 2500 := fun j => hT.2 5 j
        have A6 : ∀ j, 0 ≤ τ6.2.1 6 j ∧ τ6.2.1 6 j ≤ 2500 := fun j => hT.2 6 j
        have A8 : ∀ j, 0 ≤ τ6.2.1 8 j ∧ τ6.2.1 8 j ≤ 1 := fun j => hT.2 8 j
        have A9 : ∀ j, (-1) ≤ τ6.2.1 9 j ∧ τ6.2.1 9 j ≤ 1499 := fun j => hT.2 9 j
        have A10 : ∀ j, (-1) ≤ τ6.2.1 10 j ∧ τ6.2.1 10 j ≤ 99 := fun j => hT.2 10 j
        have A11 : ∀ j, 0 ≤ τ6.2.1 11 j ∧ τ6.2.1 11 j ≤ 999 := fun j => hT.2 11 j
        have A13 : ∀ j, 0 ≤ τ6.2.1 13 j ∧ τ6.2.1 13 j ≤ 4 := fun j => hT.2 13 j
        have A14 : ∀ j, 0 ≤ τ6.2.1 14 j ∧ τ6.2.1 14 j ≤ 30000 := fun j => hT.2 14 j
        have A15 : ∀ j, 0 ≤ τ6.2.1 15 j ∧ τ6.2.1 15 j ≤ 999 := fun j => hT.2 15 j
        have A16 : ∀ j, (-1) ≤ τ6.2.1 16 j ∧ τ6.2.1 16 j ≤ 1499 := fun j => hT.2 16 j
        have A18 : ∀ j, 0 ≤ τ6.2.1 18 j ∧ τ6.2.1 18 j ≤ 1 := fun j => hT.2 18 j
        have A19 : ∀ j, (-1) ≤ τ6.2.1 19 j ∧ τ6.2.1 19 j ≤ 1499 := fun j => hT.2 19 j
        have A20 : ∀ j, 0 ≤ τ6.2.1 20 j ∧ τ6.2.1 20 j ≤ 999 := fun j => hT.2 20 j
        have A22 : ∀ j, 0 ≤ τ6.2.1 22 j ∧ τ6.2.1 22 j ≤ 1499 := fun j => hT.2 22 j
        have A23 : ∀ j, 0 ≤ τ6.2.1 23 j ∧ τ6.2.1 23 j ≤ 999 := fun j => hT.2 23 j
        have A24 : ∀ j, 0 ≤ τ6.2.1 24 j ∧ τ6.2.1 24 j ≤ 999 := fun j => hT.2 24 j
        have A26 : ∀ j, (-2147483648) ≤ τ6.2.1 26 j ∧ τ6.2.1 26 j ≤ 2147483647 := fun j => hT.2 26 j
        have A27 : ∀ j, 0 ≤ τ6.2.1 27 j ∧ τ6.2.1 27 j ≤ 90000 := fun j => hT.2 27 j
        have A28 : ∀ j, 0 ≤ τ6.2.1 28 j ∧ τ6.2.1 28 j ≤ 60 := fun j => hT.2 28 j
        have A29 : ∀ j, 0 ≤ τ6.2.1 29 j ∧ τ6.2.1 29 j ≤ 1499 := fun j => hT.2 29 j
        have A30 : ∀ j, 0 ≤ τ6.2.1 30 j ∧ τ6.2.1 30 j ≤ 20000 := fun j => hT.2 30 j
        have A31 : ∀ j, 0 ≤ τ6.2.1 31 j ∧ τ6.2.1 31 j ≤ 20000 := fun j => hT.2 31 j
        have A32 : ∀ j, 0 ≤ τ6.2.1 32 j ∧ τ6.2.1 32 j ≤ 999999 := fun j => hT.2 32 j
        have A33 : ∀ j, 0 ≤ τ6.2.1 33 j ∧ τ6.2.1 33 j ≤ 20000 := fun j => hT.2 33 j
        have A34 : ∀ j, 0 ≤ τ6.2.1 34 j ∧ τ6.2.1 34 j ≤ 20000 := fun j => hT.2 34 j
        have A35 : ∀ j, 0 ≤ τ6.2.1 35 j ∧ τ6.2.1 35 j ≤ 1499 := fun j => hT.2 35 j
        have A36 : ∀ j, 0 ≤ τ6.2.1 36 j ∧ τ6.2.1 36 j ≤ 20000 := fun j => hT.2 36 j
        have A37 : ∀ j, 0 ≤ τ6.2.1 37 j ∧ τ6.2.1 37 j ≤ 19999 := fun j => hT.2 37 j
        have A44 : ∀ j, 0 ≤ τ6.2.1 44 j ∧ τ6.2.1 44 j ≤ 42000 := fun j => hT.2 44 j
        have A45 : ∀ j, 0 ≤ τ6.2.1 45 j ∧ τ6.2.1 45 j ≤ 1000 := fun j => hT.2 45 j
        have A49 : ∀ j, (-300) ≤ τ6.2.1 49 j ∧ τ6.2.1 49 j ≤ 67035 := fun j => hT.2 49 j
        have A51 : ∀ j, 0 ≤ τ6.2.1 51 j ∧ τ6.2.1 51 j ≤ 1499 := fun j => hT.2 51 j
        have A54 : ∀ j, 0 ≤ τ6.2.1 54 j ∧ τ6.2.1 54 j ≤ 999 := fun j => hT.2 54 j
        have v3 : 0 ≤ τ6.1 3 ∧ τ6.1 3 ≤ 2500 := hT.1 3
        have v4 : 0 ≤ τ6.1 4 ∧ τ6.1 4 ≤ 100 := hT.1 4
        have v5 : 0 ≤ τ6.1 5 ∧ τ6.1 5 ≤ 1000 := hT.1 5
        have v6 : 0 ≤ τ6.1 6 ∧ τ6.1 6 ≤ 30000 := hT.1 6
        have v7 : 0 ≤ τ6.1 7 ∧ τ6.1 7 ≤ 1500 := hT.1 7
        have v8 : 0 ≤ τ6.1 8 ∧ τ6.1 8 ≤ 1000 := hT.1 8
        have v9 : 0 ≤ τ6.1 9 ∧ τ6.1 9 ≤ 1500 := hT.1 9
        have v10 : 0 ≤ τ6.1 10 ∧ τ6.1 10 ≤ 1000 := hT.1 10
        have v11 : 0 ≤ τ6.1 11 ∧ τ6.1 11 ≤ 50 := hT.1 11
        have v12 : (-2147483648) ≤ τ6.1 12 ∧ τ6.1 12 ≤ 2147483647 := hT.1 12
        have v13 : 0 ≤ τ6.1 13 ∧ τ6.1 13 ≤ 90000 := hT.1 13
        have v14 : 0 ≤ τ6.1 14 ∧ τ6.1 14 ≤ 20000 := hT.1 14
        have v15 : 0 ≤ τ6.1 15 ∧ τ6.1 15 ≤ 20000 := hT.1 15
        have v16 : 0 ≤ τ6.1 16 ∧ τ6.1 16 ≤ 20000 := hT.1 16
        have v21 : 0 ≤ τ6.1 21 ∧ τ6.1 21 ≤ 20000 := hT.1 21
        have v22 : 0 ≤ τ6.1 22 ∧ τ6.1 22 ≤ 300 := hT.1 22
        have v23 : 0 ≤ τ6.1 23 ∧ τ6.1 23 ≤ 300 := hT.1 23
        have v24 : 0 ≤ τ6.1 24 ∧ τ6.1 24 ≤ 1499 := hT.1 24
        have v25 : 0 ≤ τ6.1 25 ∧ τ6.1 25 ≤ 3 := hT.1 25
        have v26 : 0 ≤ τ6.1 26 ∧ τ6.1 26 ≤ 5000010 := hT.1 26
        have v27 : 0 ≤ τ6.1 27 ∧ τ6.1 27 ≤ 1 := hT.1 27
        have v35 : 0 ≤ τ6.1 35 ∧ τ6.1 35 ≤ 7 := hT.1 35
        have v36 : 0 ≤ τ6.1 36 ∧ τ6.1 36 ≤ 1001 := hT.1 36
        have v37 : 0 ≤ τ6.1 37 ∧ τ6.1 37 ≤ 4 := hT.1 37
        have a14_7 : 0 ≤ τ6.2.1 14 (τ6.1 7) ∧ τ6.2.1 14 (τ6.1 7) ≤ 30000 := hT.2 14 _
        have a36_15 : 0 ≤ τ6.2.1 36 (τ6.1 15) ∧ τ6.2.1 36 (τ6.1 15) ≤ 20000 := hT.2 36 _
        have av13 : σ.1 13 ≤ τ6.1 13 := ag.1 13 (by decide)
        have av14 : σ.1 14 ≤ τ6.1 14 := ag.1 14 (by decide)
        have a14 := ag_k ag 14 7 1 (by decide)
        refine ⟨fun c7 => ?_, fun c7 => ?_⟩
        ·
          replace ag := ag_v (i := 35) (x := 6) ag (Or.inl rfl)
          replace hT := cT_v (i := 35) hT (show (0 : Int) ≤ 6 ∧ 6 ≤ 7 from by (first | assumption | omega | (simp only [st_s] <;> omega) | fail))
          refine ⟨_, K2_X10_begin hT (show 0 ≤ (τ6.1 7) from by (first | assumption | omega | (simp only [st_s] <;> omega) | fail)) (show (τ6.1 7) < 1500 from by (first | assumption | omega | (simp only [st_s] <;> omega) | fail)), ?_⟩
          intro τ10 hn_τ10 hf_τ10 hq
          obtain ⟨hT, q8_1, q8_2, q8_3, q8_4, q8_5, q8_6, q8_7⟩ := hq
          replace q8_1 : (τ10.1 21) = 0 := q8_1
          replace q8_2 : (τ10.1 24) = (τ6.1 7) := q8_2
          replace q8_3 : (τ10.1 25) = 0 := q8_3
          replace q8_4 : (τ10.1 22) = 0 := q8_4
          replace q8_5 : (τ10.1 23) = 0 := q8_5
          replace q8_6 : (τ10.1 26) = 0 := q8_6
          replace q8_7 : (τ10.1 27) = 0 := q8_7
          replace ag : c_ag σ τ10 := ag_r ag hf_τ10 rfl rfl
          have w3_τ10 : τ10.1 3 = τ6.1 3 := hf_τ10.1 3 (by decide)
          have w4_τ10 : τ10.1 4 = τ6.1 4 := hf_τ10.1 4 (by decide)
          have w5_τ10 : τ10.1 5 = τ6.1 5 := hf_τ10.1 5 (by decide)
          have w6_τ10 : τ10.1 6 = τ6.1 6 := hf_τ10.1 6 (by decide)
          have w7_τ10 : τ10.1 7 = τ6.1 7 := hf_τ10.1 7 (by decide)
          have w8_τ10 : τ10.1 8 = τ6.1 8 := hf_τ10.1 8 (by decide)
          have w9_τ10 : τ10.1 9 = τ6.1 9 := hf_τ10.1 9 (by decide)
          have w10_τ10 : τ10.1 10 = τ6.1 10 := hf_τ10.1 10 (by decide)
          have w11_τ10 : τ10.1 11 = τ6.1 11 := hf_τ10.1 11 (by decide)
          have w12_τ10 : τ10.1 12 = τ6.1 12 := hf_τ10.1 12 (by decide)
          have w13_τ10 : τ10.1 13 = τ6.1 13 := hf_τ10.1 13 (by decide)
          have w14_τ10 : τ10.1 14 = τ6.1 14 := hf_τ10.1 14 (by decide)
          have w15_τ10 : τ10.1 15 = τ6.1 15 := hf_τ10.1 15 (by decide)
          have w16_τ10 : τ10.1 16 = τ6.1 16 := hf_τ10.1 16 (by decide)
          have w35_τ10 : τ10.1 35 = 6 := hf_τ10.1 35 (by decide)
          have w36_τ10 : τ10.1 36 = τ6.1 36 := hf_τ10.1 36 (by decide)
          have w37_τ10 : τ10.1 37 = τ6.1 37 := hf_τ10.1 37 (by decide)
          have g2_τ10 : τ10.2.1 2 = τ6.2.1 2 := hf_τ10.2.1 2 (by decide)
          have g3_τ10 : τ10.2.1 3 = τ6.2.1 3 := hf_τ10.2.1 3 (by decide)
          have g4_τ10 : τ10.2.1 4 = τ6.2.1 4 := hf_τ10.2.1 4 (by decide)
          have g5_τ10 : τ10.2.1 5 = τ6.2.1 5 := hf_τ10.2.1 5 (by decide)
          have g6_τ10 : τ10.2.1 6 = τ6.2.1 6 := hf_τ10.2.1 6 (by decide)
          have g8_τ10 : τ10.2.1 8 = τ6.2.1 8 := hf_τ10.2.1 8 (by decide)
          have g9_τ10 : τ10.2.1 9 = τ6.2.1 9 := hf_τ10.2.1 9 (by decide)
          have g10_τ10 : τ10.2.1 10 = τ6.2.1 10 := hf_τ10.2.1 10 (by decide)
          have g11_τ10 : τ10.2.1 11 = τ6.2.1 11 := hf_τ10.2.1 11 (by decide)
          have g13_τ10 : τ10.2.1 13 = τ6.2.1 13 := hf_τ10.2.1 13 (by decide)
          have g14_τ10 : τ10.2.1 14 = τ6.2.1 14 := hf_τ10.2.1 14 (by decide)
          have g15_τ10 : τ10.2.1 15 = τ6.2.1 15 := hf_τ10.2.1 15 (by decide)
          have g16_τ10 : τ10.2.1 16 = τ6.2.1 16 := hf_τ10.2.1 16 (by decide)
          have g18_τ10 : τ10.2.1 18 = τ6.2.1 18 := hf_τ10.2.1 18 (by decide)
          have g19_τ10 : τ10.2.1 19 = τ6.2.1 19 := hf_τ10.2.1 19 (by decide)
          have g20_τ10 : τ10.2.1 20 = τ6.2.1 20 := hf_τ10.2.1 20 (by decide)
          have g22_τ10 : τ10.2.1 22 = τ6.2.1 22 := hf_τ10.2.1 22 (by decide)
          have g23_τ10 : τ10.2.1 23 = τ6.2.1 23 := hf_τ10.2.1 23 (by decide)
          have g24_τ10 : τ10.2.1 24 = τ6.2.1 24 := hf_τ10.2.1 24 (by decide)
          have g25_τ10 : τ10.2.1 25 = τ6.2.1 25 := hf_τ10.2.1 25 (by decide)
          have g26_τ10 : τ10.2.1 26 = τ6.2.1 26 := hf_τ10.2.1 26 (by decide)
          have g27_τ10 : τ10.2.1 27 = τ6.2.1 27 := hf_τ10.2.1 27 (by decide)
          have g28_τ10 : τ10.2.1 28 = τ6.2.1 28 := hf_τ10.2.1 28 (by decide)
          have g29_τ10 : τ10.2.1 29 = τ6.2.1 29 := hf_τ10.2.1 29 (by decide)
          have g30_τ10 : τ10.2.1 30 = τ6.2.1 30 := hf_τ10.2.1 30 (by decide)
          have g31_τ10 : τ10.2.1 31 = τ6.2.1 31 := hf_τ10.2.1 31 (by decide)
          have g32_τ10 : τ10.2.1 32 = τ6.2.1 32 := hf_τ10.2.1 32 (by decide)
          have g33_τ10 : τ10.2.1 33 = τ6.2.1 33 := hf_τ10.2.1 33 (by decide)
          have g34_τ10 : τ10.2.1 34 = τ6.2.1 34 := hf_τ10.2.1 34 (by decide)
          have g35_τ10 : τ10.2.1 35 = τ6.2.1 35 := hf_τ10.2.1 35 (by decide)
          have g36_τ10 : τ10.2.1 36 = τ6.2.1 36 := hf_τ10.2.1 36 (by decide)
          have g37_τ10 : τ10.2.1 37 = τ6.2.1 37 := hf_τ10.2.1 37 (by decide)
          have g44_τ10 : τ10.2.1 44 = τ6.2.1 44 := hf_τ10.2.1 44 (by decide)
          have g45_τ10 : τ10.2.1 45 = τ6.2.1 45 := hf_τ10.2.1 45 (by decide)
          have g49_τ10 : τ10.2.1 49 = τ6.2.1 49 := hf_τ10.2.1 49 (by decide)
          have g51_τ10 : τ10.2.1 51 = τ6.2.1 51 := hf_τ10.2.1 51 (by decide)
          have g54_τ10 : τ10.2.1 54 = τ6.2.1 54 := hf_τ10.2.1 54 (by decide)
          have W3 : τ10.1 3 = σ.1 3 := by first | exact w3_τ10.trans W3 | omega
          have W4 : τ10.1 4 = σ.1 4 := by first | exact w4_τ10.trans W4 | omega
          have W5 : τ10.1 5 = σ.1 5 := by first | exact w5_τ10.trans W5 | omega
          have W6 : τ10.1 6 = σ.1 6 := by first | exact w6_τ10.trans W6 | omega
          have W7 : τ10.1 7 = σ.1 7 := by first | exact w7_τ10.trans W7 | omega
          have W8 : τ10.1 8 = σ.1 8 := by first | exact w8_τ10.trans W8 | omega
          have W9 : τ10.1 9 = σ.1 9 := by first | exact w9_τ10.trans W9 | omega
          have W10 : τ10.1 10 = σ.1 10 := by first | exact w10_τ10.trans W10 | omega
          have W11 : τ10.1 11 = σ.1 11 := by first | exact w11_τ10.trans W11 | omega
          have W15 : τ10.1 15 = σ.1 15 := by first | exact w15_τ10.trans W15 | omega
          have W16 : τ10.1 16 = σ.1 16 := by first | exact w16_τ10.trans W16 | omega
          have W36 : τ10.1 36 = σ.1 36 := by first | exact w36_τ10.trans W36 | omega
          have W37 : τ10.1 37 = σ.1 37 := by first | exact w37_τ10.trans W37 | omega
          have G2 : τ10.2.1 2 = σ.2.1 2 := (g2_τ10).trans G2
          have G3 : τ10.2.1 3 = σ.2.1 3 := (g3_τ10).trans G3
          have G4 : τ10.2.1 4 = σ.2.1 4 := (g4_τ10).trans G4
          have G5 : τ10.2.1 5 = σ.2.1 5 := (g5_τ10).trans G5
          have G6 : τ10.2.1 6 = σ.2.1 6 := (g6_τ10).trans G6
          have G8 : τ10.2.1 8 = σ.2.1 8 := (g8_τ10).trans G8
          have G9 : τ10.2.1 9 = σ.2.1 9 := (g9_τ10).trans G9
          have G10 : τ10.2.1 10 = σ.2.1 10 := (g10_τ10).trans G10
          have G11 : τ10.2.1 11 = σ.2.1 11 := (g11_τ10).trans G11
          have G13 : τ10.2.1 13 = σ.2.1 13 := (g13_τ10).trans G13
          have G14 : τ10.2.1 14 = σ.2.1 14 := (g14_τ10).trans G14
          have G15 : τ10.2.1 15 = σ.2.1 15 := (g15_τ10).trans G15
          have G16 : τ10.2.1 16 = σ.2.1 16 := (g16_τ10).trans G16
          have G18 : τ10.2.1 18 = σ.2.1 18 := (g18_τ10).trans G18
          have G19 : τ10.2.1 19 = σ.2.1 19 := (g19_τ10).trans G19
          have G20 : τ10.2.1 20 = σ.2.1 20 := (g20_τ10).trans G20
          have G22 : τ10.2.1 22 = σ.2.1 22 := (g22_τ10).trans G22
          have G23 : τ10.2.1 23 = σ.2.1 23 := (g23_τ10).trans G23
          have G24 : τ10.2.1 24 = σ.2.1 24 := (g24_τ10).trans G24
          have G25 : τ10.2.1 25 = σ.2.1 25 := (g25_τ10).trans G25
          have G33 : τ10.2.1 33 = σ.2.1 33 := (g33_τ10).trans G33
          have G34 : τ10.2.1 34 = σ.2.1 34 := (g34_τ10).trans G34
          have G35 : τ10.2.1 35 = σ.2.1 35 := (g35_τ10).trans G35
          have G36 : τ10.2.1 36 = σ.2.1 36 := (g36_τ10).trans G36
          have G37 : τ10.2.1 37 = σ.2.1 37 := (g37_τ10).trans G37
          have G44 : τ10.2.1 44 = σ.2.1 44 := (g44_τ10).trans G44
          have G45 : τ10.2.1 45 = σ.2.1 45 := (g45_τ10).trans G45
          have G49 : τ10.2.1 49 = σ.2.1 49 := (g49_τ10).trans G49
          have G51 : τ10.2.1 51 = σ.2.1 51 := (g51_τ10).trans G51
          have G54 : τ10.2.1 54 = σ.2.1 54 := (g54_τ10).trans G54
          have y14_7_τ10 : τ10.2.1 14 (τ10.1 7) = (τ6.2.1 14) (τ6.1 7) := by rw [g14_τ10, w7_τ10]
          have y36_15_τ10 : τ10.2.1 36 (τ10.1 15) = (τ6.2.1 36) (τ6.1 15) := by rw [g36_τ10, w15_τ10]
          have HT : J_ht (τ10.1 3) (τ10.2.1 2) (τ10.2.1 3) (τ10.2.1 5) (τ10.2.1 6) := by rw [show (J_ht (τ10.1 3) (τ10.2.1 2) (τ10.2.1 3) (τ10.2.1 5) (τ10.2.1 6)) = (J_ht (τ6.1 3) (τ6.2.1 2) (τ6.2.1 3) (τ6.2.1 5) (τ6.2.1 6)) from by rw [w3_τ10, g2_τ10, g3_τ10, g5_τ10, g6_τ10]]; exact HT
          have NL : J_nl (τ10.1 3) (τ10.2.1 2) (τ10.2.1 3) (τ10.2.1 4) := by rw [show (J_nl (τ10.1 3) (τ10.2.1 2) (τ10.2.1 3) (τ10.2.1 4)) = (J_nl (τ6.1 3) (τ6.2.1 2) (τ6.2.1 3) (τ6.2.1 4)) from by rw [w3_τ10, g2_τ10, g3_τ10, g4_τ10]]; exact NL
          have MN : J_mn (τ10.1 3) (τ10.1 5) ((τ10.1 7) + 1) (τ10.2.1 4) := by rw [show (J_mn (τ10.1 3) (τ10.1 5) ((τ10.1 7) + 1) (τ10.2.1 4)) = (J_mn (τ6.1 3) (τ6.1 5) ((τ6.1 7) + 1) (τ6.2.1 4)) from by rw [w3_τ10, w5_τ10, w7_τ10, g4_τ10]]; exact MN
          have VA : J_va (τ10.1 8) 1000 (τ10.2.1 18) (τ10.2.1 20) := by rw [show (J_va (τ10.1 8) 1000 (τ10.2.1 18) (τ10.2.1 20)) = (J_va (τ6.1 8) 1000 (τ6.2.1 18) (τ6.2.1 20)) from by rw [w8_τ10, g18_τ10, g20_τ10]]; exact VA
          have SC : J_sc (τ10.1 7) (τ10.1 9) (τ10.2.1 13) (τ10.2.1 14) (τ10.2.1 15) (τ10.2.1 16) (τ10.2.1 22) (τ10.2.1 19) := by rw [show (J_sc (τ10.1 7) (τ10.1 9) (τ10.2.1 13) (τ10.2.1 14) (τ10.2.1 15) (τ10.2.1 16) (τ10.2.1 22) (τ10.2.1 19)) = (J_sc (τ6.1 7) (τ6.1 9) (τ6.2.1 13) (τ6.2.1 14) (τ6.2.1 15) (τ6.2.1 16) (τ6.2.1 22) (τ6.2.1 19)) from by rw [w7_τ10, w9_τ10, g13_τ10, g14_τ10, g15_τ10, g16_τ10, g19_τ10, g22_τ10]]; exact SC
          have MK : J_mk (τ10.1 11) (τ10.1 8) (τ10.1 9) (τ10.1 10) (τ10.2.1 25) := by rw [show (J_mk (τ10.1 11) (τ10.1 8) (τ10.1 9) (τ10.1 10) (τ10.2.1 25)) = (J_mk (τ6.1 11) (τ6.1 8) (τ6.1 9) (τ6.1 10) (τ6.2.1 25)) from by rw [w8_τ10, w9_τ10, w10_τ10, w11_τ10, g25_τ10]]; exact MK
          have FF : J_ff (τ10.1 5) (τ10.1 7) (τ10.2.1 9) (τ10.2.1 13) (τ10.2.1 14) (τ10.2.1 15) := by rw [show (J_ff (τ10.1 5) (τ10.1 7) (τ10.2.1 9) (τ10.2.1 13) (τ10.2.1 14) (τ10.2.1 15)) = (J_ff (τ6.1 5) (τ6.1 7) (τ6.2.1 9) (τ6.2.1 13) (τ6.2.1 14) (τ6.2.1 15)) from by rw [w5_τ10, w7_τ10, g9_τ10, g13_τ10, g14_τ10, g15_τ10]]; exact FF
          have MT : ∀ s : Int, τ10.2.1 26 s ≤ (τ10.1 12) := by rw [show (∀ s : Int, τ10.2.1 26 s ≤ (τ10.1 12)) = (∀ s : Int, τ6.2.1 26 s ≤ (τ6.1 12)) from by rw [w12_τ10, g26_τ10]]; exact MT
          have VS : J_vs (τ10.1 8) (τ10.1 5) (τ10.2.1 20) := by rw [show (J_vs (τ10.1 8) (τ10.1 5) (τ10.2.1 20)) = (J_vs (τ6.1 8) (τ6.1 5) (τ6.2.1 20)) from by rw [w5_τ10, w8_τ10, g20_τ10]]; exact VS
          have TX : J_vs (τ10.1 6) (τ10.1 5) (τ10.2.1 15) := by rw [show (J_vs (τ10.1 6) (τ10.1 5) (τ10.2.1 15)) = (J_vs (τ6.1 6) (τ6.1 5) (τ6.2.1 15)) from by rw [w5_τ10, w6_τ10, g15_τ10]]; exact TX
          have RKS : J_rks (τ10.1 5) (τ10.1 4) (τ10.2.1 10) (τ10.2.1 11) := by rw [show (J_rks (τ10.1 5) (τ10.1 4) (τ10.2.1 10) (τ10.2.1 11)) = (J_rks (τ6.1 5) (τ6.1 4) (τ6.2.1 10) (τ6.2.1 11)) from by rw [w4_τ10, w5_τ10, g10_τ10, g11_τ10]]; exact RKS
          have BP : J_bp (τ10.2.1 44) (τ10.2.1 45) := by rw [show (J_bp (τ10.2.1 44) (τ10.2.1 45)) = (J_bp (τ6.2.1 44) (τ6.2.1 45)) from by rw [g44_τ10, g45_τ10]]; exact BP
          have CH : j_eq (σ.2.1 36 (σ.1 15)) (σ.2.1 37) (τ10.2.1 37) := by rw [show (j_eq (σ.2.1 36 (σ.1 15)) (σ.2.1 37) (τ10.2.1 37)) = (j_eq (σ.2.1 36 (σ.1 15)) (σ.2.1 37) (τ6.2.1 37)) from by rw [g37_τ10]]; exact CH
          have A2 : ∀ j, 0 ≤ τ10.2.1 2 j ∧ τ10.2.1 2 j ≤ 65535 := fun j => hT.2 2 j
          have A3 : ∀ j, 0 ≤ τ10.2.1 3 j ∧ τ10.2.1 3 j ≤ 30000 := fun j => hT.2 3 j
          have A4 : ∀ j, (-1000) ≤ τ10.2.1 4 j ∧ τ10.2.1 4 j ≤ 1499 := fun j => hT.2 4 j
          have A5 : ∀ j, 0 ≤ τ10.2.1 5 j ∧ τ10.2.1 5 j ≤ 2500 := fun j => hT.2 5 j
          have A6 : ∀ j, 0 ≤ τ10.2.1 6 j ∧ τ10.2.1 6 j ≤ 2500 := fun j => hT.2 6 j
          have A8 : ∀ j, 0 ≤ τ10.2.1 8 j ∧ τ10.2.1 8 j ≤ 1 := fun j => hT.2 8 j
          have A9 : ∀ j, (-1) ≤ τ10.2.1 9 j ∧ τ10.2.1 9 j ≤ 1499 := fun j => hT.2 9 j
          have A10 : ∀ j, (-1) ≤ τ10.2.1 10 j ∧ τ10.2.1 10 j ≤ 99 := fun j => hT.2 10 j
          have A11 : ∀ j, 0 ≤ τ10.2.1 11 j ∧ τ10.2.1 11 j ≤ 999 := fun j => hT.2 11 j
          have A13 : ∀ j, 0 ≤ τ10.2.1 13 j ∧ τ10.2.1 13 j ≤ 4 := fun j => hT.2 13 j
          have A14 : ∀ j, 0 ≤ τ10.2.1 14 j ∧ τ10.2.1 14 j ≤ 30000 := fun j => hT.2 14 j
          have A15 : ∀ j, 0 ≤ τ10.2.1 15 j ∧ τ10.2.1 15 j ≤ 999 := fun j => hT.2 15 j
          have A16 : ∀ j, (-1) ≤ τ10.2.1 16 j ∧ τ10.2.1 16 j ≤ 1499 := fun j => hT.2 16 j
          have A18 : ∀ j, 0 ≤ τ10.2.1 18 j ∧ τ10.2.1 18 j ≤ 1 := fun j => hT.2 18 j
          have A19 : ∀ j, (-1) ≤ τ10.2.1 19 j ∧ τ10.2.1 19 j ≤ 1499 := fun j => hT.2 19 j
          have A20 : ∀ j, 0 ≤ τ10.2.1 20 j ∧ τ10.2.1 20 j ≤ 999 := fun j => hT.2 20 j
          have A22 : ∀ j, 0 ≤ τ10.2.1 22 j ∧ τ10.2.1 22 j ≤ 1499 := fun j => hT.2 22 j
          have A23 : ∀ j, 0 ≤ τ10.2.1 23 j ∧ τ10.2.1 23 j ≤ 999 := fun j => hT.2 23 j
          have A24 : ∀ j, 0 ≤ τ10.2.1 24 j ∧ τ10.2.1 24 j ≤ 999 := fun j => hT.2 24 j
          have A26 : ∀ j, (-2147483648) ≤ τ10.2.1 26 j ∧ τ10.2.1 26 j ≤ 2147483647 := fun j => hT.2 26 j
          have A27 : ∀ j, 0 ≤ τ10.2.1 27 j ∧ τ10.2.1 27 j ≤ 90000 := fun j => hT.2 27 j
          have A28 : ∀ j, 0 ≤ τ10.2.1 28 j ∧ τ10.2.1 28 j ≤ 60 := fun j => hT.2 28 j
          have A29 : ∀ j, 0 ≤ τ10.2.1 29 j ∧ τ10.2.1 29 j ≤ 1499 := fun j => hT.2 29 j
          have A30 : ∀ j, 0 ≤ τ10.2.1 30 j ∧ τ10.2.1 30 j ≤ 20000 := fun j => hT.2 30 j
          have A31 : ∀ j, 0 ≤ τ10.2.1 31 j ∧ τ10.2.1 31 j ≤ 20000 := fun j => hT.2 31 j
          have A32 : ∀ j, 0 ≤ τ10.2.1 32 j ∧ τ10.2.1 32 j ≤ 999999 := fun j => hT.2 32 j
          have A33 : ∀ j, 0 ≤ τ10.2.1 33 j ∧ τ10.2.1 33 j ≤ 20000 := fun j => hT.2 33 j
          have A34 : ∀ j, 0 ≤ τ10.2.1 34 j ∧ τ10.2.1 34 j ≤ 20000 := fun j => hT.2 34 j
          have A35 : ∀ j, 0 ≤ τ10.2.1 35 j ∧ τ10.2.1 35 j ≤ 1499 := fun j => hT.2 35 j
          have A36 : ∀ j, 0 ≤ τ10.2.1 36 j ∧ τ10.2.1 36 j ≤ 20000 := fun j => hT.2 36 j
          have A37 : ∀ j, 0 ≤ τ10.2.1 37 j ∧ τ10.2.1 37 j ≤ 19999 := fun j => hT.2 37 j
          have A44 : ∀ j, 0 ≤ τ10.2.1 44 j ∧ τ10.2.1 44 j ≤ 42000 := fun j => hT.2 44 j
          have A45 : ∀ j, 0 ≤ τ10.2.1 45 j ∧ τ10.2.1 45 j ≤ 1000 := fun j => hT.2 45 j
          have A49 : ∀ j, (-300) ≤ τ10.2.1 49 j ∧ τ10.2.1 49 j ≤ 67035 := fun j => hT.2 49 j
          have A51 : ∀ j, 0 ≤ τ10.2.1 51 j ∧ τ10.2.1 51 j ≤ 1499 := fun j => hT.2 51 j
          have A54 : ∀ j, 0 ≤ τ10.2.1 54 j ∧ τ10.2.1 54 j ≤ 999 := fun j => hT.2 54 j
          have v3 : 0 ≤ τ10.1 3 ∧ τ10.1 3 ≤ 2500 := hT.1 3
          have v4 : 0 ≤ τ10.1 4 ∧ τ10.1 4 ≤ 100 := hT.1 4
          have v5 : 0 ≤ τ10.1 5 ∧ τ10.1 5 ≤ 1000 := hT.1 5
          have v6 : 0 ≤ τ10.1 6 ∧ τ10.1 6 ≤ 30000 := hT.1 6
          have v7 : 0 ≤ τ10.1 7 ∧ τ10.1 7 ≤ 1500 := hT.1 7
          have v8 : 0 ≤ τ10.1 8 ∧ τ10.1 8 ≤ 1000 := hT.1 8
          have v9 : 0 ≤ τ10.1 9 ∧ τ10.1 9 ≤ 1500 := hT.1 9
          have v10 : 0 ≤ τ10.1 10 ∧ τ10.1 10 ≤ 1000 := hT.1 10
          have v11 : 0 ≤ τ10.1 11 ∧ τ10.1 11 ≤ 50 := hT.1 11
          have v12 : (-2147483648) ≤ τ10.1 12 ∧ τ10.1 12 ≤ 2147483647 := hT.1 12
          have v13 : 0 ≤ τ10.1 13 ∧ τ10.1 13 ≤ 90000 := hT.1 13
          have v14 : 0 ≤ τ10.1 14 ∧ τ10.1 14 ≤ 20000 := hT.1 14
          have v15 : 0 ≤ τ10.1 15 ∧ τ10.1 15 ≤ 20000 := hT.1 15
          have v16 : 0 ≤ τ10.1 16 ∧ τ10.1 16 ≤ 20000 := hT.1 16
          have v21 : 0 ≤ τ10.1 21 ∧ τ10.1 21 ≤ 20000 := hT.1 21
          have v22 : 0 ≤ τ10.1 22 ∧ τ10.1 22 ≤ 300 := hT.1 22
          have v23 : 0 ≤ τ10.1 23 ∧ τ10.1 23 ≤ 300 := hT.1 23
          have v24 : 0 ≤ τ10.1 24 ∧ τ10.1 24 ≤ 1499 := hT.1 24
          have v25 : 0 ≤ τ10.1 25 ∧ τ10.1 25 ≤ 3 := hT.1 25
          have v26 : 0 ≤ τ10.1 26 ∧ τ10.1 26 ≤ 5000010 := hT.1 26
          have v27 : 0 ≤ τ10.1 27 ∧ τ10.1 27 ≤ 1 := hT.1 27
          have v35 : 0 ≤ τ10.1 35 ∧ τ10.1 35 ≤ 7 := hT.1 35
          have v36 : 0 ≤ τ10.1 36 ∧ τ10.1 36 ≤ 1001 := hT.1 36
          have v37 : 0 ≤ τ10.1 37 ∧ τ10.1 37 ≤ 4 := hT.1 37
          have a14_7 : 0 ≤ τ10.2.1 14 (τ10.1 7) ∧ τ10.2.1 14 (τ10.1 7) ≤ 30000 := hT.2 14 _
          have a36_15 : 0 ≤ τ10.2.1 36 (τ10.1 15) ∧ τ10.2.1 36 (τ10.1 15) ≤ 20000 := hT.2 36 _
          have av13 : σ.1 13 ≤ τ10.1 13 := ag.1 13 (by decide)
          have av14 : σ.1 14 ≤ τ10.1 14 := ag.1 14 (by decide)
          exact ⟨hT, (show 0 ≤ 0 ∧ 0 ≤ 19 from by (first | assumption | omega | (simp only [st_s] <;> omega) | fail)), (show J_ht (τ10.1 3) (τ10.2.1 2) (τ10.2.1 3) (τ10.2.1 5) (τ10.2.1 6) from HT), (show J_mn (τ10.1 3) (τ10.1 5) ((τ10.1 7) + 1) (τ10.2.1 4) from MN), (show J_rks (τ10.1 5) (τ10.1 4) (τ10.2.1 10) (τ10.2.1 11) from RKS), (show J_vs (τ10.1 8) (τ10.1 5) (τ10.2.1 20) from VS), (show J_vs (τ10.1 6) (τ10.1 5) (τ10.2.1 15) from TX), (show J_va (τ10.1 8) 1000 (τ10.2.1 18) (τ10.2.1 20) from VA), (show J_mk (τ10.1 11) (τ10.1 8) (τ10.1 9) (τ10.1 10) (τ10.2.1 25) from MK), (show J_sc (τ10.1 7) (τ10.1 9) (τ10.2.1 13) (τ10.2.1 14) (τ10.2.1 15) (τ10.2.1 16) (τ10.2.1 22) (τ10.2.1 19) from SC), (show J_ff (τ10.1 5) (τ10.1 7) (τ10.2.1 9) (τ10.2.1 13) (τ10.2.1 14) (τ10.2.1 15) from FF), (show ∀ s : Int, τ10.2.1 26 s ≤ (τ10.1 12) from MT), (show J_all (τ10.1 7) (τ10.1 6) (τ10.1 13) (τ10.1 14) (τ10.1 15) (τ10.2.1 13) (τ10.2.1 14) (τ10.2.1 15) (τ10.2.1 16) (τ10.2.1 10) (τ10.2.1 27) (τ10.2.1 28) (τ10.2.1 29) (τ10.2.1 30) (τ10.2.1 31) (τ10.2.1 32) (τ10.2.1 33) (τ10.2.1 34) (τ10.2.1 35) (τ10.2.1 36) (τ10.2.1 37) from by (first | exact CJ | exact c_J_ag CJ_0 hT0 ag (by omega) (by first | exact j_rr0 _ _ | (rw [G10]; exact j_rr0 _ _)) TX_0 CH (by omega) | fail)), (show J_bp (τ10.2.1 44) (τ10.2.1 45) from BP), (show J_nl (τ10.1 3) (τ10.2.1 2) (τ10.2.1 3) (τ10.2.1 4) from NL), (show 0 = 0 → J_rs (τ10.1 35) (τ10.1 7) (τ10.1 6) (τ10.1 36) (τ10.1 37) (τ10.1 5) (τ10.1 8) (τ10.2.1 14) from by (first | exact fun z => absurd z (by decide) | exact fun _ => RS | (intro z; have rs := p14; unfold J_rs at rs ⊢; rw [G14, W7]; omega) | fail)), (show 0 = 0 → J_uc (τ10.1 35) (τ10.1 36) (τ10.2.1 10 (τ10.2.1 15 (τ10.2.1 14 (τ10.1 7)))) from by (first | exact fun z => absurd z (by decide) | (intro z y; exfalso; omega) | exact fun _ => UC | exact fun _ => uc | (intro z y y2; exact uc (by omega) (by omega)) | (intro z y y2; exfalso; omega) | (intro z y y2; rw [G10, G14, G15, W7]; exact uc (by omega) (by omega)) | fail)), (show 0 = 0 → J_dj (τ10.1 35) (τ10.1 36) (τ10.2.1 54) from by (first | exact fun z => absurd z (by decide) | (intro z y; exfalso; omega) | exact fun _ => DJs | exact fun _ => dj | fail)), (show 0 = 0 → J_it (τ10.1 35) (τ10.1 7) (τ10.1 6) (τ10.1 37) (τ10.2.1 14) (τ10.2.1 15) (τ10.2.1 16) (τ10.2.1 19) from by (first | exact fun z => absurd z (by decide) | (intro z y; exfalso; omega) | exact fun _ => IPs | exact fun _ => ipx | (intro z y; exact ipx (by omega)) | (intro z y; rw [W7, W6, W37, G14, G15, G16, G19]; exact ipx (by omega)) | fail)), (show 0 = 0 → J_hu (τ10.1 35) (τ10.1 13) (τ10.1 7) from by (first | exact fun z => absurd z (by decide) | (intro z; unfold J_hu; omega) | fail)), (show 0 = 0 → J_ft (τ10.1 35) (τ10.1 24) (τ10.1 7) (τ10.1 13) (τ10.1 14) (τ10.2.1 13) (τ10.2.1 14) (τ10.2.1 15) (τ10.2.1 16) (τ10.2.1 27) (τ10.2.1 28) (τ10.2.1 29) (τ10.2.1 30) (τ10.2.1 31) (τ10.2.1 32) from by (first | exact fun z => absurd z (by decide) | (intro z y; refine ⟨by omega, ?_⟩; rw [w7_τ10, w13_τ10, w14_τ10, g13_τ10, g14_τ10, g15_τ10, g16_τ10, g27_τ10, g28_τ10, g29_τ10, g30_τ10, g31_τ10, g32_τ10, w7_τ6]; exact q4_7 c7) | fail)), (show 0 = 0 → J_ss (τ10.1 35) (τ10.1 24) (τ10.1 21) (τ10.1 23) (τ10.1 22) (τ10.1 27) (τ10.1 26) (τ10.1 25) (τ10.1 16) (τ10.2.1 49) (τ10.2.1 51) from by (first | exact fun z => absurd z (by decide) | (intro z y; refine ⟨?_, by omega, by omega, by omega, by omega⟩; rw [q8_2, q8_1, q8_5, q8_4]; exact J_sp0 _ _ _) | fail)), (show 0 = 0 → (τ10.1 15) ≤ (τ10.1 16) ∧ τ10.2.1 36 (τ10.1 15) ≤ (τ10.1 16) from by (intro z; first | exact sux | omega)), (show 0 = 0 → (τ10.1 9) ≤ (τ10.1 7) from by (intro z; omega)), (show j_rr ((σ.1 5)) (σ.2.1 10) (τ10.2.1 10) from by (first | exact j_rr0 _ _ | (rw [G10]; exact j_rr0 _ _) | fail)), (show j_eq (σ.2.1 36 (σ.1 15)) (σ.2.1 37) (τ10.2.1 37) from CH), (show (τ10.1 12) ≤ (σ.1 12) + 1 from by (first | assumption | omega | (simp only [st_s] <;> omega) | fail)), (show c_Y σ τ10 from by (first | exact c_Y0 _ | exact c_Y_g W4 G11 G20 G22 G25 | fail)), ag⟩
        ·
          exact ⟨hT, (show 0 ≤ 5 ∧ 5 ≤ 19 from by (first | assumption | omega | (simp only [st_s] <;> omega) | fail)), (show J_ht (τ6.1 3) (τ6.2.1 2) (τ6.2.1 3) (τ6.2.1 5) (τ6.2.1 6) from HT), (show J_mn (τ6.1 3) (τ6.1 5) ((τ6.1 7) + 1) (τ6.2.1 4) from MN), (show J_rks (τ6.1 5) (τ6.1 4) (τ6.2.1 10) (τ6.2.1 11) from RKS), (show J_vs (τ6.1 8) (τ6.1 5) (τ6.2.1 20) from VS), (show J_vs (τ6.1 6) (τ6.1 5) (τ6.2.1 15) from TX), (show J_va (τ6.1 8) 1000 (τ6.2.1 18) (τ6.2.1 20) from VA), (show J_mk (τ6.1 11) (τ6.1 8) (τ6.1 9) (τ6.1 10) (τ6.2.1 25) from MK), (show J_sc (τ6.1 7) (τ6.1 9) (τ6.2.1 13) (τ6.2.1 14) (τ6.2.1 15) (τ6.2.1 16) (τ6.2.1 22) (τ6.2.1 19) from SC), (show J_ff (τ6.1 5) (τ6.1 7) (τ6.2.1 9) (τ6.2.1 13) (τ6.2.1 14) (τ6.2.1 15) from FF), (show ∀ s : Int, τ6.2.1 26 s ≤ (τ6.1 12) from MT), (show J_all (τ6.1 7) (τ6.1 6) (τ6.1 13) (τ6.1 14) (τ6.1 15) (τ6.2.1 13) (τ6.2.1 14) (τ6.2.1 15) (τ6.2.1 16) (τ6.2.1 10) (τ6.2.1 27) (τ6.2.1 28) (τ6.2.1 29) (τ6.2.1 30) (τ6.2.1 31) (τ6.2.1 32) (τ6.2.1 33) (τ6.2.1 34) (τ6.2.1 35) (τ6.2.1 36) (τ6.2.1 37) from by (first | exact CJ | exact c_J_ag CJ_0 hT0 ag (by omega) (by first | exact j_rr0 _ _ | (rw [G10]; exact j_rr0 _ _)) TX_0 CH (by omega) | fail)), (show J_bp (τ6.2.1 44) (τ6.2.1 45) from BP), (show J_nl (τ6.1 3) (τ6.2.1 2) (τ6.2.1 3) (τ6.2.1 4) from NL), (show 5 = 0 → J_rs (τ6.1 35) (τ6.1 7) (τ6.1 6) (τ6.1 36) (τ6.1 37) (τ6.1 5) (τ6.1 8) (τ6.2.1 14) from by (first | exact fun z => absurd z (by decide) | exact fun _ => RS | (intro z; have rs := p14; unfold J_rs at rs ⊢; rw [G14, W7]; omega) | fail)), (show 5 = 0 → J_uc (τ6.1 35) (τ6.1 36) (τ6.2.1 10 (τ6.2.1 15 (τ6.2.1 14 (τ6.1 7)))) from by (first | exact fun z => absurd z (by decide) | (intro z y; exfalso; omega) | exact fun _ => UC | exact fun _ => uc | (intro z y y2; exact uc (by omega) (by omega)) | (intro z y y2; exfalso; omega) | (intro z y y2; rw [G10, G14, G15, W7]; exact uc (by omega) (by omega)) | fail)), (show 5 = 0 → J_dj (τ6.1 35) (τ6.1 36) (τ6.2.1 54) from by (first | exact fun z => absurd z (by decide) | (intro z y; exfalso; omega) | exact fun _ => DJs | exact fun _ => dj | fail)), (show 5 = 0 → J_it (τ6.1 35) (τ6.1 7) (τ6.1 6) (τ6.1 37) (τ6.2.1 14) (τ6.2.1 15) (τ6.2.1 16) (τ6.2.1 19) from by (first | exact fun z => absurd z (by decide) | (intro z y; exfalso; omega) | exact fun _ => IPs | exact fun _ => ipx | (intro z y; exact ipx (by omega)) | (intro z y; rw [W7, W6, W37, G14, G15, G16, G19]; exact ipx (by omega)) | fail)), (show 5 = 0 → J_hu (τ6.1 35) (τ6.1 13) (τ6.1 7) from by (first | exact fun z => absurd z (by decide) | (intro z; unfold J_hu; omega) | fail)), (show 5 = 0 → J_ft (τ6.1 35) (τ6.1 24) (τ6.1 7) (τ6.1 13) (τ6.1 14) (τ6.2.1 13) (τ6.2.1 14) (τ6.2.1 15) (τ6.2.1 16) (τ6.2.1 27) (τ6.2.1 28) (τ6.2.1 29) (τ6.2.1 30) (τ6.2.1 31) (τ6.2.1 32) from by (first | exact fun z => absurd z (by decide) | (intro z y; refine ⟨by omega, ?_⟩; rw [w7_τ10, w13_τ10, w14_τ10, g13_τ10, g14_τ10, g15_τ10, g16_τ10, g27_τ10, g28_τ10, g29_τ10, g30_τ10, g31_τ10, g32_τ10, w7_τ6]; exact q4_7 c7) | fail)), (show 5 = 0 → J_ss (τ6.1 35) (τ6.1 24) (τ6.1 21) (τ6.1 23) (τ6.1 22) (τ6.1 27) (τ6.1 26) (τ6.1 25) (τ6.1 16) (τ6.2.1 49) (τ6.2.1 51) from by (first | exact fun z => absurd z (by decide) | (intro z y; refine ⟨?_, by omega, by omega, by omega, by omega⟩; rw [q8_2, q8_1, q8_5, q8_4]; exact J_sp0 _ _ _) | fail)), (show 5 = 0 → (τ6.1 15) ≤ (τ6.1 16) ∧ τ6.2.1 36 (τ6.1 15) ≤ (τ6.1 16) from by (intro z; first | exact sux | omega)), (show 5 = 0 → (τ6.1 9) ≤ (τ6.1 7) from by (intro z; omega)), (show j_rr ((σ.1 5)) (σ.2.1 10) (τ6.2.1 10) from by (first | exact j_rr0 _ _ | (rw [G10]; exact j_rr0 _ _) | fail)), (show j_eq (σ.2.1 36 (σ.1 15)) (σ.2.1 37) (τ6.2.1 37) from CH), (show (τ6.1 12) ≤ (σ.1 12) + 1 from by (first | assumption | omega | (simp only [st_s] <;> omega) | fail)), (show c_Y σ τ6 from by (first | exact c_Y0 _ | exact c_Y_g W4 G11 G20 G22 G25 | fail)), ag⟩
      ·
        exact ⟨hT, (show 0 ≤ 4 ∧ 4 ≤ 19 from by (first | assumption | omega | (simp only [st_s] <;> omega) | fail)), (show J_ht (σ.1 3) (σ.2.1 2) (σ.2.1 3) (σ.2.1 5) (σ.2.1 6) from HT), (show J_mn (σ.1 3) (σ.1 5) ((σ.1 7) + 1) (σ.2.1 4) from MN), (show J_rks (σ.1 5) (σ.1 4) (σ.2.1 10) (σ.2.1 11) from RKS), (show J_vs (σ.1 8) (σ.1 5) (σ.2.1 20) from VS), (show J_vs (σ.1 6) (σ.1 5) (σ.2.1 15) from TX), (show J_va (σ.1 8) 1000 (σ.2.1 18) (σ.2.1 20) from VA), (show J_mk (σ.1 11) (σ.1 8) (σ.1 9) (σ.1 10) (σ.2.1 25) from MK), (show J_sc (σ.1 7) (σ.1 9) (σ.2.1 13) (σ.2.1 14) (σ.2.1 15) (σ.2.1 16) (σ.2.1 22) (σ.2.1 19) from SC), (show J_ff (σ.1 5) (σ.1 7) (σ.2.1 9) (σ.2.1 13) (σ.2.1 14) (σ.2.1 15) from FF), (show ∀ s : Int, σ.2.1 26 s ≤ (σ.1 12) from MT), (show J_all (σ.1 7) (σ.1 6) (σ.1 13) (σ.1 14) (σ.1 15) (σ.2.1 13) (σ.2.1 14) (σ.2.1 15) (σ.2.1 16) (σ.2.1 10) (σ.2.1 27) (σ.2.1 28) (σ.2.1 29) (σ.2.1 30) (σ.2.1 31) (σ.2.1 32) (σ.2.1 33) (σ.2.1 34) (σ.2.1 35) (σ.2.1 36) (σ.2.1 37) from CJ), (show J_bp (σ.2.1 44) (σ.2.1 45) from BP), (show J_nl (σ.1 3) (σ.2.1 2) (σ.2.1 3) (σ.2.1 4) from NL), (show 4 = 0 → J_rs (σ.1 35) (σ.1 7) (σ.1 6) (σ.1 36) (σ.1 37) (σ.1 5) (σ.1 8) (σ.2.1 14) from by (first | exact fun z => absurd z (by decide) | exact fun _ => RS | (intro z; have rs := p14; unfold J_rs at rs ⊢; rw [G14, W7]; omega) | fail)), (show 4 = 0 → J_uc (σ.1 35) (σ.1 36) (σ.2.1 10 (σ.2.1 15 (σ.2.1 14 (σ.1 7)))) from by (first | exact fun z => absurd z (by decide) | (intro z y; exfalso; omega) | exact fun _ => UC | exact fun _ => uc | (intro z y y2; exact uc (by omega) (by omega)) | (intro z y y2; exfalso; omega) | (intro z y y2; rw [G10, G14, G15, W7]; exact uc (by omega) (by omega)) | fail)), (show 4 = 0 → J_dj (σ.1 35) (σ.1 36) (σ.2.1 54) from by (first | exact fun z => absurd z (by decide) | (intro z y; exfalso; omega) | exact fun _ => DJs | exact fun _ => dj | fail)), (show 4 = 0 → J_it (σ.1 35) (σ.1 7) (σ.1 6) (σ.1 37) (σ.2.1 14) (σ.2.1 15) (σ.2.1 16) (σ.2.1 19) from by (first | exact fun z => absurd z (by decide) | (intro z y; exfalso; omega) | exact fun _ => IPs | exact fun _ => ipx | (intro z y; exact ipx (by omega)) | (intro z y; rw [W7, W6, W37, G14, G15, G16, G19]; exact ipx (by omega)) | fail)), (show 4 = 0 → J_hu (σ.1 35) (σ.1 13) (σ.1 7) from by (first | exact fun z => absurd z (by decide) | (intro z; unfold J_hu; omega) | fail)), (show 4 = 0 → J_ft (σ.1 35) (σ.1 24) (σ.1 7) (σ.1 13) (σ.1 14) (σ.2.1 13) (σ.2.1 14) (σ.2.1 15) (σ.2.1 16) (σ.2.1 27) (σ.2.1 28) (σ.2.1 29) (σ.2.1 30) (σ.2.1 31) (σ.2.1 32) from by (first | exact fun z => absurd z (by decide) | (intro z y; refine ⟨by omega, ?_⟩; rw [w7_τ10, w13_τ10, w14_τ10, g13_τ10, g14_τ10, g15_τ10, g16_τ10, g27_τ10, g28_τ10, g29_τ10, g30_τ10, g31_τ10, g32_τ10, w7_τ6]; exact q4_7 c7) | fail)), (show 4 = 0 → J_ss (σ.1 35) (σ.1 24) (σ.1 21) (σ.1 23) (σ.1 22) (σ.1 27) (σ.1 26) (σ.1 25) (σ.1 16) (σ.2.1 49) (σ.2.1 51) from by (first | exact fun z => absurd z (by decide) | (intro z y; refine ⟨?_, by omega, by omega, by omega, by omega⟩; rw [q8_2, q8_1, q8_5, q8_4]; exact J_sp0 _ _ _) | fail)), (show 4 = 0 → (σ.1 15) ≤ (σ.1 16) ∧ σ.2.1 36 (σ.1 15) ≤ (σ.1 16) from by (intro z; first | exact sux | omega)), (show 4 = 0 → (σ.1 9) ≤ (σ.1 7) from by (intro z; omega)), (show j_rr ((σ.1 5)) (σ.2.1 10) (σ.2.1 10) from by (first | exact j_rr0 _ _ | (rw [G10]; exact j_rr0 _ _) | fail)), (show j_eq (σ.2.1 36 (σ.1 15)) (σ.2.1 37) (σ.2.1 37) from CH), (show (σ.1 12) ≤ (σ.1 12) + 1 from by (first | assumption | omega | (simp only [st_s] <;> omega) | fail)), (show c_Y σ σ from by (first | exact c_Y0 _ | exact c_Y_g W4 G11 G20 G22 G25 | fail)), ag⟩
