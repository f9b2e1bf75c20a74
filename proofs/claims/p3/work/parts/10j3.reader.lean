-- pure: the reader, keywords
set_option maxHeartbeats 4000000 in
theorem K_X7_keyword {n1 : Int} {σ : S0} (hT : c_T σ) (p1 : J_ht (σ.1 3) (σ.2.1 2) (σ.2.1 3) (σ.2.1 5) (σ.2.1 6)) (p2 : J_mn (σ.1 3) (σ.1 5) ((σ.1 7) + 1) (σ.2.1 4)) (p3 : J_rks (σ.1 5) (σ.1 4) (σ.2.1 10) (σ.2.1 11)) (p4 : J_vs (σ.1 8) (σ.1 5) (σ.2.1 20)) (p5 : J_vs (σ.1 6) (σ.1 5) (σ.2.1 15)) (p6 : J_va (σ.1 8) 1000 (σ.2.1 18) (σ.2.1 20)) (p7 : J_mk (σ.1 11) (σ.1 8) (σ.1 9) (σ.1 10) (σ.2.1 25)) (p8 : J_sc (σ.1 7) (σ.1 9) (σ.2.1 13) (σ.2.1 14) (σ.2.1 15) (σ.2.1 16) (σ.2.1 22) (σ.2.1 19)) (p9 : J_ff (σ.1 5) (σ.1 7) (σ.2.1 9) (σ.2.1 13) (σ.2.1 14) (σ.2.1 15)) (p10 : ∀ s : Int, σ.2.1 26 s ≤ (σ.1 12)) (p11 : J_all (σ.1 7) (σ.1 6) (σ.1 13) (σ.1 14) (σ.1 15) (σ.2.1 13) (σ.2.1 14) (σ.2.1 15) (σ.2.1 16) (σ.2.1 10) (σ.2.1 27) (σ.2.1 28) (σ.2.1 29) (σ.2.1 30) (σ.2.1 31) (σ.2.1 32) (σ.2.1 33) (σ.2.1 34) (σ.2.1 35) (σ.2.1 36) (σ.2.1 37)) (p12 : J_bp (σ.2.1 44) (σ.2.1 45)) (p13 : J_nl (σ.1 3) (σ.2.1 2) (σ.2.1 3) (σ.2.1 4)) (p14 : J_rs (σ.1 35) (σ.1 7) (σ.1 6) (σ.1 36) (σ.1 37) (σ.1 5) (σ.1 8) (σ.2.1 14)) (p15 : J_uc (σ.1 35) (σ.1 36) (σ.2.1 10 (σ.2.1 15 (σ.2.1 14 (σ.1 7))))) (p16 : J_dj (σ.1 35) (σ.1 36) (σ.2.1 54)) (p17 : J_it (σ.1 35) (σ.1 7) (σ.1 6) (σ.1 37) (σ.2.1 14) (σ.2.1 15) (σ.2.1 16) (σ.2.1 19)) (p18 : J_hu (σ.1 35) (σ.1 13) (σ.1 7)) (p19 : J_ft (σ.1 35) (σ.1 24) (σ.1 7) (σ.1 13) (σ.1 14) (σ.2.1 13) (σ.2.1 14) (σ.2.1 15) (σ.2.1 16) (σ.2.1 27) (σ.2.1 28) (σ.2.1 29) (σ.2.1 30) (σ.2.1 31) (σ.2.1 32)) (p20 : J_ss (σ.1 35) (σ.1 24) (σ.1 21) (σ.1 23) (σ.1 22) (σ.1 27) (σ.1 26) (σ.1 25) (σ.1 16) (σ.2.1 49) (σ.2.1 51)) (p21 : (σ.1 15) ≤ (σ.1 16) ∧ σ.2.1 36 (σ.1 15) ≤ (σ.1 16)) (p22 : (σ.1 9) ≤ (σ.1 7)) (p23 : (σ.1 12) < 2147483647) : W_X7_keyword n1 σ (fun (x : Int) (τ : S0) => (c_T τ) ∧ (0 ≤ x ∧ x ≤ 19) ∧ (J_ht (τ.1 3) (τ.2.1 2) (τ.2.1 3) (τ.2.1 5) (τ.2.1 6)) ∧ (J_mn (τ.1 3) (τ.1 5) ((τ.1 7) + 1) (τ.2.1 4)) ∧ (J_rks (τ.1 5) (τ.1 4) (τ.2.1 10) (τ.2.1 11)) ∧ (J_vs (τ.1 8) (τ.1 5) (τ.2.1 20)) ∧ (J_vs (τ.1 6) (τ.1 5) (τ.2.1 15)) ∧ (J_va (τ.1 8) 1000 (τ.2.1 18) (τ.2.1 20)) ∧ (J_mk (τ.1 11) (τ.1 8) (τ.1 9) (τ.1 10) (τ.2.1 25)) ∧ (J_sc (τ.1 7) (τ.1 9) (τ.2.1 13) (τ.2.1 14) (τ.2.1 15) (τ.2.1 16) (τ.2.1 22) (τ.2.1 19)) ∧ (J_ff (τ.1 5) (τ.1 7) (τ.2.1 9) (τ.2.1 13) (τ.2.1 14) (τ.2.1 15)) ∧ (∀ s : Int, τ.2.1 26 s ≤ (τ.1 12)) ∧ (J_all (τ.1 7) (τ.1 6) (τ.1 13) (τ.1 14) (τ.1 15) (τ.2.1 13) (τ.2.1 14) (τ.2.1 15) (τ.2.1 16) (τ.2.1 10) (τ.2.1 27) (τ.2.1 28) (τ.2.1 29) (τ.2.1 30) (τ.2.1 31) (τ.2.1 32) (τ.2.1 33) (τ.2.1 34) (τ.2.1 35) (τ.2.1 36) (τ.2.1 37)) ∧ (J_bp (τ.2.1 44) (τ.2.1 45)) ∧ (J_nl (τ.1 3) (τ.2.1 2) (τ.2.1 3) (τ.2.1 4)) ∧ (x = 0 → J_rs (τ.1 35) (τ.1 7) (τ.1 6) (τ.1 36) (τ.1 37) (τ.1 5) (τ.1 8) (τ.2.1 14)) ∧ (x = 0 → J_uc (τ.1 35) (τ.1 36) (τ.2.1 10 (τ.2.1 15 (τ.2.1 14 (τ.1 7))))) ∧ (x = 0 → J_dj (τ.1 35) (τ.1 36) (τ.2.1 54)) ∧ (x = 0 → J_it (τ.1 35) (τ.1 7) (τ.1 6) (τ.1 37) (τ.2.1 14) (τ.2.1 15) (τ.2.1 16) (τ.2.1 19)) ∧ (x = 0 → J_hu (τ.1 35) (τ.1 13) (τ.1 7)) ∧ (x = 0 → J_ft (τ.1 35) (τ.1 24) (τ.1 7) (τ.1 13) (τ.1 14) (τ.2.1 13) (τ.2.1 14) (τ.2.1 15) (τ.2.1 16) (τ.2.1 27) (τ.2.1 28) (τ.2.1 29) (τ.2.1 30) (τ.2.1 31) (τ.2.1 32)) ∧ (x = 0 → J_ss (τ.1 35) (τ.1 24) (τ.1 21) (τ.1 23) (τ.1 22) (τ.1 27) (τ.1 26) (τ.1 25) (τ.1 16) (τ.2.1 49) (τ.2.1 51)) ∧ (x = 0 → (τ.1 15) ≤ (τ.1 16) ∧ τ.2.1 36 (τ.1 15) ≤ (τ.1 16)) ∧ (x = 0 → (τ.1 9) ≤ (τ.1 7)) ∧ (j_rr ((σ.1 5)) (σ.2.1 10) (τ.2.1 10)) ∧ (j_eq (σ.2.1 36 (σ.1 15)) (σ.2.1 37) (τ.2.1 37)) ∧ ((τ.1 12) ≤ (σ.1 12) + 1) ∧ (c_Y σ τ) ∧ (c_ag σ τ)) := by
  have A2 : ∀ j, 0 ≤ σ.2.1 2 j ∧ σ.2.1 2 j ≤ 65535 := fun j => hT.2 2 j
  have A3 : ∀ j, 0 ≤ σ.2.1 3 j ∧ σ.2.1 3 j ≤ 30000 := fun j => hT.2 3 j
  have A4 : ∀ j, (-1000) ≤ σ.2.1 4 j ∧ σ.2.1 4 j ≤ 1499 := fun j => hT.2 4 j
  have A5 : ∀ j, 0 ≤ σ.2.1 5 j ∧ σ.2.1 5 j ≤ 2500 := fun j => hT.2 5 j
  have A6 : ∀ j, 0 ≤ σ.2.1 6 j ∧ σ.2.1 6 j ≤ 2500 := fun j => hT.2 6 j
  have A9 : ∀ j, (-1) ≤ σ.2.1 9 j ∧ σ.2.1 9 j ≤ 1499 := fun j => hT.2 9 j
  have A10 : ∀ j, (-1) ≤ σ.2.1 10 j ∧ σ.2.1 10 j ≤ 99 := fun j => hT.2 10 j
  have A11 : ∀ j, 0 ≤ σ.2.1 11 j ∧ σ.2.1 11 j ≤ 999 := fun j => hT.2 11 j
  have A13 : ∀ j, 0 ≤ σ.2.1 13 j ∧ σ.2.1 13 j ≤ 4 := fun j => hT.2 13 j
  have A14 : ∀ j, 0 ≤ σ.2.1 14 j ∧ σ.2.1 14 j ≤ 30000 := fun j => hT.2 14 j
  have A15 : ∀ j, 0 ≤ σ.2.1 15 j ∧ σ.2.1 15 j ≤ 999 := fun j => hT.2 15 j
  have A16 : ∀ j, (-1) ≤ σ.2.1 16 j ∧ σ.2.1 16 j ≤ 1499 := fun j => hT.2 16 j
  have A18 : ∀ j, 0 ≤ σ.2.1 18 j ∧ σ.2.1 18 j ≤ 1 := fun j => hT.2 18 j
  have A19 : ∀ j, (-1) ≤ σ.2.1 19 j ∧ σ.2.1 19 j ≤ 1499 := fun j => hT.2 19 j
  have A20 : ∀ j, 0 ≤ σ.2.1 20 j ∧ σ.2.1 20 j ≤ 999 := fun j => hT.2 20 j
  have A22 : ∀ j, 0 ≤ σ.2.1 22 j ∧ σ.2.1 22 j ≤ 1499 := fun j => hT.2 22 j
  have A26 : ∀ j, (-2147483648) ≤ σ.2.1 26 j ∧ σ.2.1 26 j ≤ 2147483647 := fun j => hT.2 26 j
  have A27 : ∀ j, 0 ≤ σ.2.1 27 j ∧ σ.2.1 27 j ≤ 90000 := fun j => hT.2 27 j
  have A28 : ∀ j, 0 ≤ σ.2.1 28 j ∧ σ.2.1 28 j ≤ 60 := fun j => hT.2 28 j
  have A29 : ∀ j, 0 ≤ σ.2.1 29 j ∧ σ.2.1 29 j ≤ 1499 := fun j => hT.2 29 j
  have A30 : ∀ j, 0 ≤ σ.2.1 30 j ∧ σ.2.1 30 j ≤ 20000 := fun j => hT.2 30 j
  have A31 : ∀ j, 0 ≤ σ.2.1 31 j ∧ σ.2.1 31 j ≤ 20000 := fun j => hT.2 31 j
  have A32 : ∀ j, 0 ≤ σ.2.1 32 j ∧ σ.2.1 32 j ≤ 999999 := fun j => hT.2 32 j
  have A33 : ∀ j, 0 ≤ σ.2.1 33 j ∧ σ.2.1 33 j ≤ 20000 := fun j => hT.2 33 j
  have A34 : ∀ j, 0 ≤ σ.2.1 34 j ∧ σ.2.1 34 j ≤ 20000 := fun j => hT.2 34 j
  have A35 : ∀ j, 0 ≤ σ.2.1 35 j ∧ σ.2.1 35 j ≤ 1499 := fun j => hT.2 35 j
  have A36 : ∀ j, 0 ≤ σ.2.1 36 j ∧ σ.2.1 36 j ≤ 20000 := fun j => hT.2 36 j
  have A37 : ∀ j, 0 ≤ σ.2.1 37 j ∧ σ.2.1 37 j ≤ 19999 := fun j => hT.2 37 j
  have A44 : ∀ j, 0 ≤ σ.2.1 44 j ∧ σ.2.1 44 j ≤ 42000 := fun j => hT.2 44 j
  have A45 : ∀ j, 0 ≤ σ.2.1 45 j ∧ σ.2.1 45 j ≤ 1000 := fun j => hT.2 45 j
  have A49 : ∀ j, (-300) ≤ σ.2.1 49 j ∧ σ.2.1 49 j ≤ 67035 := fun j => hT.2 49 j
  have A51 : ∀ j, 0 ≤ σ.2.1 51 j ∧ σ.2.1 51 j ≤ 1499 := fun j => hT.2 51 j
  have A54 : ∀ j, 0 ≤ σ.2.1 54 j ∧ σ.2.1 54 j ≤ 999 := fun j => hT.2 54 j
  have v3 : 0 ≤ σ.1 3 ∧ σ.1 3 ≤ 2500 := hT.1 3
  have v4 : 0 ≤ σ.1 4 ∧ σ.1 4 ≤ 100 := hT.1 4
  have v5 : 0 ≤ σ.1 5 ∧ σ.1 5 ≤ 1000 := hT.1 5
  have v6 : 0 ≤ σ.1 6 ∧ σ.1 6 ≤ 30000 := hT.1 6
  have v7 : 0 ≤ σ.1 7 ∧ σ.1 7 ≤ 1500 := hT.1 7
  have v8 : 0 ≤ σ.1 8 ∧ σ.1 8 ≤ 1000 := hT.1 8
  have v9 : 0 ≤ σ.1 9 ∧ σ.1 9 ≤ 1500 := hT.1 9
  have v10 : 0 ≤ σ.1 10 ∧ σ.1 10 ≤ 1000 := hT.1 10
  have v11 : 0 ≤ σ.1 11 ∧ σ.1 11 ≤ 50 := hT.1 11
  have v12 : (-2147483648) ≤ σ.1 12 ∧ σ.1 12 ≤ 2147483647 := hT.1 12
  have v13 : 0 ≤ σ.1 13 ∧ σ.1 13 ≤ 90000 := hT.1 13
  have v14 : 0 ≤ σ.1 14 ∧ σ.1 14 ≤ 20000 := hT.1 14
  have v15 : 0 ≤ σ.1 15 ∧ σ.1 15 ≤ 20000 := hT.1 15
  have v16 : 0 ≤ σ.1 16 ∧ σ.1 16 ≤ 20000 := hT.1 16
  have v21 : 0 ≤ σ.1 21 ∧ σ.1 21 ≤ 20000 := hT.1 21
  have v22 : 0 ≤ σ.1 22 ∧ σ.1 22 ≤ 300 := hT.1 22
  have v23 : 0 ≤ σ.1 23 ∧ σ.1 23 ≤ 300 := hT.1 23
  have v24 : 0 ≤ σ.1 24 ∧ σ.1 24 ≤ 1499 := hT.1 24
  have v25 : 0 ≤ σ.1 25 ∧ σ.1 25 ≤ 3 := hT.1 25
  have v26 : 0 ≤ σ.1 26 ∧ σ.1 26 ≤ 5000010 := hT.1 26
  have v27 : 0 ≤ σ.1 27 ∧ σ.1 27 ≤ 1 := hT.1 27
  have v35 : 0 ≤ σ.1 35 ∧ σ.1 35 ≤ 7 := hT.1 35
  have v36 : 0 ≤ σ.1 36 ∧ σ.1 36 ≤ 1001 := hT.1 36
  have v37 : 0 ≤ σ.1 37 ∧ σ.1 37 ≤ 4 := hT.1 37
  have a14_7 : 0 ≤ σ.2.1 14 (σ.1 7) ∧ σ.2.1 14 (σ.1 7) ≤ 30000 := hT.2 14 _
  have a36_15 : 0 ≤ σ.2.1 36 (σ.1 15) ∧ σ.2.1 36 (σ.1 15) ≤ 20000 := hT.2 36 _
  have W3 : σ.1 3 = σ.1 3 := rfl
  have W4 : σ.1 4 = σ.1 4 := rfl
  have W5 : σ.1 5 = σ.1 5 := rfl
  have W6 : σ.1 6 = σ.1 6 := rfl
  have W7 : σ.1 7 = σ.1 7 := rfl
  have W15 : σ.1 15 = σ.1 15 := rfl
  have W16 : σ.1 16 = σ.1 16 := rfl
  have G2 : σ.2.1 2 = σ.2.1 2 := rfl
  have G3 : σ.2.1 3 = σ.2.1 3 := rfl
  have G4 : σ.2.1 4 = σ.2.1 4 := rfl
  have G5 : σ.2.1 5 = σ.2.1 5 := rfl
  have G6 : σ.2.1 6 = σ.2.1 6 := rfl
  have G9 : σ.2.1 9 = σ.2.1 9 := rfl
  have G10 : σ.2.1 10 = σ.2.1 10 := rfl
  have G11 : σ.2.1 11 = σ.2.1 11 := rfl
  have G13 : σ.2.1 13 = σ.2.1 13 := rfl
  have G14 : σ.2.1 14 = σ.2.1 14 := rfl
  have G15 : σ.2.1 15 = σ.2.1 15 := rfl
  have G16 : σ.2.1 16 = σ.2.1 16 := rfl
  have G20 : σ.2.1 20 = σ.2.1 20 := rfl
  have G22 : σ.2.1 22 = σ.2.1 22 := rfl
  have G33 : σ.2.1 33 = σ.2.1 33 := rfl
  have G34 : σ.2.1 34 = σ.2.1 34 := rfl
  have G35 : σ.2.1 35 = σ.2.1 35 := rfl
  have G36 : σ.2.1 36 = σ.2.1 36 := rfl
  have G37 : σ.2.1 37 = σ.2.1 37 := rfl
  have G44 : σ.2.1 44 = σ.2.1 44 := rfl
  have G45 : σ.2.1 45 = σ.2.1 45 := rfl
  have G49 : σ.2.1 49 = σ.2.1 49 := rfl
  have G51 : σ.2.1 51 = σ.2.1 51 := rfl
  have G54 : σ.2.1 54 = σ.2.1 54 := rfl
  have ag : c_ag σ σ := ag_0 σ
  intro P92 P109 h92 h109
  have hT0 := hT
  have t015 : ∀ p : Int, 0 ≤ σ.2.1 15 p ∧ σ.2.1 15 p < 1000 := fun p => ⟨(A15 p).1, by have := (A15 p).2; omega⟩
  have CH := j_eq0 (σ.2.1 36 (σ.1 15)) (σ.2.1 37)
  have jt := c_Jt p11
  have JFx := c_JF jt p8 (fun m => (hT.2 22 m).1) (by omega)
  have FPx := c_FP jt p9 (by omega)
  have uc := p15
  have dj := p16
  have ipx := p17
  have hux := p18
  have frx := p19
  have spx := p20
  have sux := p21
  have hcx := p22
  have rsx := p14
  have HT : J_ht (σ.1 3) (σ.2.1 2) (σ.2.1 3) (σ.2.1 5) (σ.2.1 6) := p1
  have NL : J_nl (σ.1 3) (σ.2.1 2) (σ.2.1 3) (σ.2.1 4) := p13
  have MN : J_mn (σ.1 3) (σ.1 5) ((σ.1 7) + 1) (σ.2.1 4) := p2
  have VA : J_va (σ.1 8) 1000 (σ.2.1 18) (σ.2.1 20) := p6
  have SC : J_sc (σ.1 7) (σ.1 9) (σ.2.1 13) (σ.2.1 14) (σ.2.1 15) (σ.2.1 16) (σ.2.1 22) (σ.2.1 19) := p8
  have MK : J_mk (σ.1 11) (σ.1 8) (σ.1 9) (σ.1 10) (σ.2.1 25) := p7
  have FF : J_ff (σ.1 5) (σ.1 7) (σ.2.1 9) (σ.2.1 13) (σ.2.1 14) (σ.2.1 15) := p9
  have MT : ∀ s : Int, σ.2.1 26 s ≤ (σ.1 12) := p10
  have VS : J_vs (σ.1 8) (σ.1 5) (σ.2.1 20) := p4
  have TX : J_vs (σ.1 6) (σ.1 5) (σ.2.1 15) := p5
  have RKS : J_rks (σ.1 5) (σ.1 4) (σ.2.1 10) (σ.2.1 11) := p3
  have CJ : J_all (σ.1 7) (σ.1 6) (σ.1 13) (σ.1 14) (σ.1 15) (σ.2.1 13) (σ.2.1 14) (σ.2.1 15) (σ.2.1 16) (σ.2.1 10) (σ.2.1 27) (σ.2.1 28) (σ.2.1 29) (σ.2.1 30) (σ.2.1 31) (σ.2.1 32) (σ.2.1 33) (σ.2.1 34) (σ.2.1 35) (σ.2.1 36) (σ.2.1 37) := p11
  have BP : J_bp (σ.2.1 44) (σ.2.1 45) := p12
  have RS : J_rs (σ.1 35) (σ.1 7) (σ.1 6) (σ.1 36) (σ.1 37) (σ.1 5) (σ.1 8) (σ.2.1 14) := p14
  have UC : J_uc (σ.1 35) (σ.1 36) (σ.2.1 10 (σ.2.1 15 (σ.2.1 14 (σ.1 7)))) := p15
  have DJs : J_dj (σ.1 35) (σ.1 36) (σ.2.1 54) := p16
  have IPs : J_it (σ.1 35) (σ.1 7) (σ.1 6) (σ.1 37) (σ.2.1 14) (σ.2.1 15) (σ.2.1 16) (σ.2.1 19) := p17
  have HUs : J_hu (σ.1 35) (σ.1 13) (σ.1 7) := p18
  have FRs : J_ft (σ.1 35) (σ.1 24) (σ.1 7) (σ.1 13) (σ.1 14) (σ.2.1 13) (σ.2.1 14) (σ.2.1 15) (σ.2.1 16) (σ.2.1 27) (σ.2.1 28) (σ.2.1 29) (σ.2.1 30) (σ.2.1 31) (σ.2.1 32) := p19
  have SPs : J_ss (σ.1 35) (σ.1 24) (σ.1 21) (σ.1 23) (σ.1 22) (σ.1 27) (σ.1 26) (σ.1 25) (σ.1 16) (σ.2.1 49) (σ.2.1 51) := p20
  have BP_0 := BP
  have CH_0 := CH
  have CJ_0 := CJ
  have DJs_0 := DJs
  have FF_0 := FF
  have FRs_0 := FRs
  have HT_0 := HT
  have HUs_0 := HUs
  have IPs_0 := IPs
  have MK_0 := MK
  have MN_0 := MN
  have MT_0 := MT
  have NL_0 := NL
  have RKS_0 := RKS
  have RS_0 := RS
  have SC_0 := SC
  have SPs_0 := SPs
  have TX_0 := TX
  have UC_0 := UC
  have VA_0 := VA
  have VS_0 := VS
  refine ⟨fun e0 => ?_, fun e1 => ?_, fun e2 => ?_, fun e3 => ?_, fun e4 => ?_, fun e5 => ?_, fun e6 => ?_, fun e7 => ?_, fun e8 => ?_, fun e9 => ?_, fun en => ?_⟩
  ·
    refine ⟨_, K_X7_proof hT (show J_ht (σ.1 3) (σ.2.1 2) (σ.2.1 3) (σ.2.1 5) (σ.2.1 6) from HT) (show J_mn (σ.1 3) (σ.1 5) ((σ.1 7) + 1) (σ.2.1 4) from MN) (show J_rks (σ.1 5) (σ.1 4) (σ.2.1 10) (σ.2.1 11) from RKS) (show J_vs (σ.1 8) (σ.1 5) (σ.2.1 20) from VS) (show J_vs (σ.1 6) (σ.1 5) (σ.2.1 15) from TX) (show J_va (σ.1 8) 1000 (σ.2.1 18) (σ.2.1 20) from VA) (show J_mk (σ.1 11) (σ.1 8) (σ.1 9) (σ.1 10) (σ.2.1 25) from MK) (show J_sc (σ.1 7) (σ.1 9) (σ.2.1 13) (σ.2.1 14) (σ.2.1 15) (σ.2.1 16) (σ.2.1 22) (σ.2.1 19) from SC) (show J_ff (σ.1 5) (σ.1 7) (σ.2.1 9) (σ.2.1 13) (σ.2.1 14) (σ.2.1 15) from FF) (show ∀ s : Int, σ.2.1 26 s ≤ (σ.1 12) from MT) (show J_all (σ.1 7) (σ.1 6) (σ.1 13) (σ.1 14) (σ.1 15) (σ.2.1 13) (σ.2.1 14) (σ.2.1 15) (σ.2.1 16) (σ.2.1 10) (σ.2.1 27) (σ.2.1 28) (σ.2.1 29) (σ.2.1 30) (σ.2.1 31) (σ.2.1 32) (σ.2.1 33) (σ.2.1 34) (σ.2.1 35) (σ.2.1 36) (σ.2.1 37) from CJ) (show J_bp (σ.2.1 44) (σ.2.1 45) from BP) (show J_nl (σ.1 3) (σ.2.1 2) (σ.2.1 3) (σ.2.1 4) from NL) (show J_rs (σ.1 35) (σ.1 7) (σ.1 6) (σ.1 36) (σ.1 37) (σ.1 5) (σ.1 8) (σ.2.1 14) from RS) (show J_uc (σ.1 35) (σ.1 36) (σ.2.1 10 (σ.2.1 15 (σ.2.1 14 (σ.1 7)))) from UC) (show J_dj (σ.1 35) (σ.1 36) (σ.2.1 54) from DJs) (show J_it (σ.1 35) (σ.1 7) (σ.1 6) (σ.1 37) (σ.2.1 14) (σ.2.1 15) (σ.2.1 16) (σ.2.1 19) from IPs) (show J_hu (σ.1 35) (σ.1 13) (σ.1 7) from HUs) (show J_ft (σ.1 35) (σ.1 24) (σ.1 7) (σ.1 13) (σ.1 14) (σ.2.1 13) (σ.2.1 14) (σ.2.1 15) (σ.2.1 16) (σ.2.1 27) (σ.2.1 28) (σ.2.1 29) (σ.2.1 30) (σ.2.1 31) (σ.2.1 32) from FRs) (show J_ss (σ.1 35) (σ.1 24) (σ.1 21) (σ.1 23) (σ.1 22) (σ.1 27) (σ.1 26) (σ.1 25) (σ.1 16) (σ.2.1 49) (σ.2.1 51) from SPs) (show (σ.1 15) ≤ (σ.1 16) ∧ σ.2.1 36 (σ.1 15) ≤ (σ.1 16) from by (first | assumption | omega | (simp only [st_s] <;> omega) | fail)) (show (σ.1 9) ≤ (σ.1 7) from by (first | assumption | omega | (simp only [st_s] <;> omega) | fail)) (show (σ.1 12) < 2147483647 from by (first | assumption | omega | (simp only [st_s] <;> omega) | fail)), ?_⟩
    intro x2 τ3 r_x2 hn_τ3 hf_τ3 hq
    obtain ⟨hT, q1_1, q1_2, q1_3, q1_4, q1_5, q1_6, q1_7, q1_8, q1_9, q1_10, q1_11, q1_12, q1_13, q1_14, q1_15, q1_16, q1_17, q1_18, q1_19, q1_20, q1_21, q1_22, q1_23, q1_24, q1_25, q1_26, q1_27, q1_28⟩ := hq
    replace q1_1 : 0 ≤ x2 ∧ x2 ≤ 19 := q1_1
    replace q1_2 : J_ht (τ3.1 3) (τ3.2.1 2) (τ3.2.1 3) (τ3.2.1 5) (τ3.2.1 6) := q1_2
    replace q1_3 : J_mn (τ3.1 3) (τ3.1 5) ((τ3.1 7) + 1) (τ3.2.1 4) := q1_3
    replace q1_4 : J_rks (τ3.1 5) (τ3.1 4) (τ3.2.1 10) (τ3.2.1 11) := q1_4
    replace q1_5 : J_vs (τ3.1 8) (τ3.1 5) (τ3.2.1 20) := q1_5
    replace q1_6 : J_vs (τ3.1 6) (τ3.1 5) (τ3.2.1 15) := q1_6
    replace q1_7 : J_va (τ3.1 8) 1000 (τ3.2.1 18) (τ3.2.1 20) := q1_7
    replace q1_8 : J_mk (τ3.1 11) (τ3.1 8) (τ3.1 9) (τ3.1 10) (τ3.2.1 25) := q1_8
    replace q1_9 : J_sc (τ3.1 7) (τ3.1 9) (τ3.2.1 13) (τ3.2.1 14) (τ3.2.1 15) (τ3.2.1 16) (τ3.2.1 22) (τ3.2.1 19) := q1_9
    replace q1_10 : J_ff (τ3.1 5) (τ3.1 7) (τ3.2.1 9) (τ3.2.1 13) (τ3.2.1 14) (τ3.2.1 15) := q1_10
    replace q1_11 : ∀ s : Int, τ3.2.1 26 s ≤ (τ3.1 12) := q1_11
    replace q1_12 : J_all (τ3.1 7) (τ3.1 6) (τ3.1 13) (τ3.1 14) (τ3.1 15) (τ3.2.1 13) (τ3.2.1 14) (τ3.2.1 15) (τ3.2.1 16) (τ3.2.1 10) (τ3.2.1 27) (τ3.2.1 28) (τ3.2.1 29) (τ3.2.1 30) (τ3.2.1 31) (τ3.2.1 32) (τ3.2.1 33) (τ3.2.1 34) (τ3.2.1 35) (τ3.2.1 36) (τ3.2.1 37) := q1_12
    replace q1_13 : J_bp (τ3.2.1 44) (τ3.2.1 45) := q1_13
    replace q1_14 : J_nl (τ3.1 3) (τ3.2.1 2) (τ3.2.1 3) (τ3.2.1 4) := q1_14
    replace q1_15 : x2 = 0 → J_rs (τ3.1 35) (τ3.1 7) (τ3.1 6) (τ3.1 36) (τ3.1 37) (τ3.1 5) (τ3.1 8) (τ3.2.1 14) := q1_15
    replace q1_16 : x2 = 0 → J_uc (τ3.1 35) (τ3.1 36) (τ3.2.1 10 (τ3.2.1 15 (τ3.2.1 14 (τ3.1 7)))) := q1_16
    replace q1_17 : x2 = 0 → J_dj (τ3.1 35) (τ3.1 36) (τ3.2.1 54) := q1_17
    replace q1_18 : x2 = 0 → J_it (τ3.1 35) (τ3.1 7) (τ3.1 6) (τ3.1 37) (τ3.2.1 14) (τ3.2.1 15) (τ3.2.1 16) (τ3.2.1 19) := q1_18
    replace q1_19 : x2 = 0 → J_hu (τ3.1 35) (τ3.1 13) (τ3.1 7) := q1_19
    replace q1_20 : x2 = 0 → J_ft (τ3.1 35) (τ3.1 24) (τ3.1 7) (τ3.1 13) (τ3.1 14) (τ3.2.1 13) (τ3.2.1 14) (τ3.2.1 15) (τ3.2.1 16) (τ3.2.1 27) (τ3.2.1 28) (τ3.2.1 29) (τ3.2.1 30) (τ3.2.1 31) (τ3.2.1 32) := q1_20
    replace q1_21 : x2 = 0 → J_ss (τ3.1 35) (τ3.1 24) (τ3.1 21) (τ3.1 23) (τ3.1 22) (τ3.1 27) (τ3.1 26) (τ3.1 25) (τ3.1 16) (τ3.2.1 49) (τ3.2.1 51) := q1_21
    replace q1_22 : x2 = 0 → (τ3.1 15) ≤ (τ3.1 16) ∧ τ3.2.1 36 (τ3.1 15) ≤ (τ3.1 16) := q1_22
    replace q1_23 : x2 = 0 → (τ3.1 9) ≤ (τ3.1 7) := q1_23
    replace q1_24 : j_rr ((σ.1 5)) (σ.2.1 10) (τ3.2.1 10) := q1_24
    replace q1_25 : j_eq (σ.2.1 36 (σ.1 15)) (σ.2.1 37) (τ3.2.1 37) := q1_25
    replace q1_26 : (τ3.1 12) ≤ (σ.1 12) + 1 := q1_26
    replace q1_27 : c_Y σ τ3 := q1_27
    replace q1_28 : c_ag σ τ3 := q1_28
    replace ag : c_ag σ τ3 := ag_t ag q1_28 rfl
    have w3_τ3 : τ3.1 3 = σ.1 3 := hf_τ3.1 3 (by decide)
    have w4_τ3 : τ3.1 4 = σ.1 4 := hf_τ3.1 4 (by decide)
    have w5_τ3 : τ3.1 5 = σ.1 5 := hf_τ3.1 5 (by decide)
    have w6_τ3 : τ3.1 6 = σ.1 6 := hf_τ3.1 6 (by decide)
    have w7_τ3 : τ3.1 7 = σ.1 7 := hf_τ3.1 7 (by decide)
    have w8_τ3 : τ3.1 8 = σ.1 8 := hf_τ3.1 8 (by decide)
    have w9_τ3 : τ3.1 9 = σ.1 9 := hf_τ3.1 9 (by decide)
    have w10_τ3 : τ3.1 10 = σ.1 10 := hf_τ3.1 10 (by decide)
    have w11_τ3 : τ3.1 11 = σ.1 11 := hf_τ3.1 11 (by decide)
    have w15_τ3 : τ3.1 15 = σ.1 15 := hf_τ3.1 15 (by decide)
    have w16_τ3 : τ3.1 16 = σ.1 16 := hf_τ3.1 16 (by decide)
    have w36_τ3 : τ3.1 36 = σ.1 36 := hf_τ3.1 36 (by decide)
    have w37_τ3 : τ3.1 37 = σ.1 37 := hf_τ3.1 37 (by decide)
    have g2_τ3 : τ3.2.1 2 = σ.2.1 2 := hf_τ3.2.1 2 (by decide)
    have g3_τ3 : τ3.2.1 3 = σ.2.1 3 := hf_τ3.2.1 3 (by decide)
    have g4_τ3 : τ3.2.1 4 = σ.2.1 4 := hf_τ3.2.1 4 (by decide)
    have g5_τ3 : τ3.2.1 5 = σ.2.1 5 := hf_τ3.2.1 5 (by decide)
    have g6_τ3 : τ3.2.1 6 = σ.2.1 6 := hf_τ3.2.1 6 (by decide)
    have g9_τ3 : τ3.2.1 9 = σ.2.1 9 := hf_τ3.2.1 9 (by decide)
    have g10_τ3 : τ3.2.1 10 = σ.2.1 10 := hf_τ3.2.1 10 (by decide)
    have g11_τ3 : τ3.2.1 11 = σ.2.1 11 := hf_τ3.2.1 11 (by decide)
    have g13_τ3 : τ3.2.1 13 = σ.2.1 13 := hf_τ3.2.1 13 (by decide)
    have g14_τ3 : τ3.2.1 14 = σ.2.1 14 := hf_τ3.2.1 14 (by decide)
    have g15_τ3 : τ3.2.1 15 = σ.2.1 15 := hf_τ3.2.1 15 (by decide)
    have g16_τ3 : τ3.2.1 16 = σ.2.1 16 := hf_τ3.2.1 16 (by decide)
    have g18_τ3 : τ3.2.1 18 = σ.2.1 18 := hf_τ3.2.1 18 (by decide)
    have g19_τ3 : τ3.2.1 19 = σ.2.1 19 := hf_τ3.2.1 19 (by decide)
    have g20_τ3 : τ3.2.1 20 = σ.2.1 20 := hf_τ3.2.1 20 (by decide)
    have g22_τ3 : τ3.2.1 22 = σ.2.1 22 := hf_τ3.2.1 22 (by decide)
    have g25_τ3 : τ3.2.1 25 = σ.2.1 25 := hf_τ3.2.1 25 (by decide)
    have g33_τ3 : τ3.2.1 33 = σ.2.1 33 := hf_τ3.2.1 33 (by decide)
    have g34_τ3 : τ3.2.1 34 = σ.2.1 34 := hf_τ3.2.1 34 (by decide)
    have g35_τ3 : τ3.2.1 35 = σ.2.1 35 := hf_τ3.2.1 35 (by decide)
    have g36_τ3 : τ3.2.1 36 = σ.2.1 36 := hf_τ3.2.1 36 (by decide)
    have g37_τ3 : τ3.2.1 37 = σ.2.1 37 := hf_τ3.2.1 37 (by decide)
    have g44_τ3 : τ3.2.1 44 = σ.2.1 44 := hf_τ3.2.1 44 (by decide)
    have g45_τ3 : τ3.2.1 45 = σ.2.1 45 := hf_τ3.2.1 45 (by decide)
    have g49_τ3 : τ3.2.1 49 = σ.2.1 49 := hf_τ3.2.1 49 (by decide)
    have g51_τ3 : τ3.2.1 51 = σ.2.1 51 := hf_τ3.2.1 51 (by decide)
    have g54_τ3 : τ3.2.1 54 = σ.2.1 54 := hf_τ3.2.1 54 (by decide)
    have W3 : τ3.1 3 = σ.1 3 := by first | exact w3_τ3.trans W3 | omega
    have W4 : τ3.1 4 = σ.1 4 := by first | exact w4_τ3.trans W4 | omega
    have W5 : τ3.1 5 = σ.1 5 := by first | exact w5_τ3.trans W5 | omega
    have W6 : τ3.1 6 = σ.1 6 := by first | exact w6_τ3.trans W6 | omega
    have W7 : τ3.1 7 = σ.1 7 := by first | exact w7_τ3.trans W7 | omega
    have W15 : τ3.1 15 = σ.1 15 := by first | exact w15_τ3.trans W15 | omega
    have W16 : τ3.1 16 = σ.1 16 := by first | exact w16_τ3.trans W16 | omega
    have G2 : τ3.2.1 2 = σ.2.1 2 := (g2_τ3).trans G2
    have G3 : τ3.2.1 3 = σ.2.1 3 := (g3_τ3).trans G3
    have G4 : τ3.2.1 4 = σ.2.1 4 := (g4_τ3).trans G4
    have G5 : τ3.2.1 5 = σ.2.1 5 := (g5_τ3).trans G5
    have G6 : τ3.2.1 6 = σ.2.1 6 := (g6_τ3).trans G6
    have G9 : τ3.2.1 9 = σ.2.1 9 := (g9_τ3).trans G9
    have G10 : τ3.2.1 10 = σ.2.1 10 := (g10_τ3).trans G10
    have G11 : τ3.2.1 11 = σ.2.1 11 := (g11_τ3).trans G11
    have G13 : τ3.2.1 13 = σ.2.1 13 := (g13_τ3).trans G13
    have G14 : τ3.2.1 14 = σ.2.1 14 := (g14_τ3).trans G14
    have G15 : τ3.2.1 15 = σ.2.1 15 := (g15_τ3).trans G15
    have G16 : τ3.2.1 16 = σ.2.1 16 := (g16_τ3).trans G16
    have G20 : τ3.2.1 20 = σ.2.1 20 := (g20_τ3).trans G20
    have G22 : τ3.2.1 22 = σ.2.1 22 := (g22_τ3).trans G22
    have G33 : τ3.2.1 33 = σ.2.1 33 := (g33_τ3).trans G33
    have G34 : τ3.2.1 34 = σ.2.1 34 := (g34_τ3).trans G34
    have G35 : τ3.2.1 35 = σ.2.1 35 := (g35_τ3).trans G35
    have G36 : τ3.2.1 36 = σ.2.1 36 := (g36_τ3).trans G36
    have G37 : τ3.2.1 37 = σ.2.1 37 := (g37_τ3).trans G37
    have G44 : τ3.2.1 44 = σ.2.1 44 := (g44_τ3).trans G44
    have G45 : τ3.2.1 45 = σ.2.1 45 := (g45_τ3).trans G45
    have G49 : τ3.2.1 49 = σ.2.1 49 := (g49_τ3).trans G49
    have G51 : τ3.2.1 51 = σ.2.1 51 := (g51_τ3).trans G51
    have G54 : τ3.2.1 54 = σ.2.1 54 := (g54_τ3).trans G54
    have y14_7_τ3 : τ3.2.1 14 (τ3.1 7) = (σ.2.1 14) (σ.1 7) := by rw [g14_τ3, w7_τ3]
    have y36_15_τ3 : τ3.2.1 36 (τ3.1 15) = (σ.2.1 36) (σ.1 15) := by rw [g36_τ3, w15_τ3]
    have HT : J_ht (τ3.1 3) (τ3.2.1 2) (τ3.2.1 3) (τ3.2.1 5) (τ3.2.1 6) := q1_2
    have NL : J_nl (τ3.1 3) (τ3.2.1 2) (τ3.2.1 3) (τ3.2.1 4) := q1_14
    have MN : J_mn (τ3.1 3) (τ3.1 5) ((τ3.1 7) + 1) (τ3.2.1 4) := q1_3
    have VA : J_va (τ3.1 8) 1000 (τ3.2.1 18) (τ3.2.1 20) := q1_7
    have SC : J_sc (τ3.1 7) (τ3.1 9) (τ3.2.1 13) (τ3.2.1 14) (τ3.2.1 15) (τ3.2.1 16) (τ3.2.1 22) (τ3.2.1 19) := q1_9
    have MK : J_mk (τ3.1 11) (τ3.1 8) (τ3.1 9) (τ3.1 10) (τ3.2.1 25) := q1_8
    have FF : J_ff (τ3.1 5) (τ3.1 7) (τ3.2.1 9) (τ3.2.1 13) (τ3.2.1 14) (τ3.2.1 15) := q1_10
    have MT : ∀ s : Int, τ3.2.1 26 s ≤ (τ3.1 12) := q1_11
    have VS : J_vs (τ3.1 8) (τ3.1 5) (τ3.2.1 20) := q1_5
    have TX : J_vs (τ3.1 6) (τ3.1 5) (τ3.2.1 15) := q1_6
    have RKS : J_rks (τ3.1 5) (τ3.1 4) (τ3.2.1 10) (τ3.2.1 11) := q1_4
    have CJ : J_all (τ3.1 7) (τ3.1 6) (τ3.1 13) (τ3.1 14) (τ3.1 15) (τ3.2.1 13) (τ3.2.1 14) (τ3.2.1 15) (τ3.2.1 16) (τ3.2.1 10) (τ3.2.1 27) (τ3.2.1 28) (τ3.2.1 29) (τ3.2.1 30) (τ3.2.1 31) (τ3.2.1 32) (τ3.2.1 33) (τ3.2.1 34) (τ3.2.1 35) (τ3.2.1 36) (τ3.2.1 37) := q1_12
    have BP : J_bp (τ3.2.1 44) (τ3.2.1 45) := q1_13
    have CH : j_eq (σ.2.1 36 (σ.1 15)) (σ.2.1 37) (τ3.2.1 37) := by rw [show (j_eq (σ.2.1 36 (σ.1 15)) (σ.2.1 37) (τ3.2.1 37)) = (j_eq (σ.2.1 36 (σ.1 15)) (σ.2.1 37) (σ.2.1 37)) from by rw [g37_τ3]]; exact CH
    have A2 : ∀ j, 0 ≤ τ3.2.1 2 j ∧ τ3.2.1 2 j ≤ 65535 := fun j => hT.2 2 j
    have A3 : ∀ j, 0 ≤ τ3.2.1 3 j ∧ τ3.2.1 3 j ≤ 30000 := fun j => hT.2 3 j
    have A4 : ∀ j, (-1000) ≤ τ3.2.1 4 j ∧ τ3.2.1 4 j ≤ 1499 := fun j => hT.2 4 j
    have A5 : ∀ j, 0 ≤ τ3.2.1 5 j ∧ τ3.2.1 5 j ≤ 2500 := fun j => hT.2 5 j
    have A6 : ∀ j, 0 ≤ τ3.2.1 6 j ∧ τ3.2.1 6 j ≤ 2500 := fun j => hT.2 6 j
    have A9 : ∀ j, (-1) ≤ τ3.2.1 9 j ∧ τ3.2.1 9 j ≤ 1499 := fun j => hT.2 9 j
    have A10 : ∀ j, (-1) ≤ τ3.2.1 10 j ∧ τ3.2.1 10 j ≤ 99 := fun j => hT.2 10 j
    have A11 : ∀ j, 0 ≤ τ3.2.1 11 j ∧ τ3.2.1 11 j ≤ 999 := fun j => hT.2 11 j
    have A13 : ∀ j, 0 ≤ τ3.2.1 13 j ∧ τ3.2.1 13 j ≤ 4 := fun j => hT.2 13 j
    have A14 : ∀ j, 0 ≤ τ3.2.1 14 j ∧ τ3.2.1 14 j ≤ 30000 := fun j => hT.2 14 j
    have A15 : ∀ j, 0 ≤ τ3.2.1 15 j ∧ τ3.2.1 15 j ≤ 999 := fun j => hT.2 15 j
    have A16 : ∀ j, (-1) ≤ τ3.2.1 16 j ∧ τ3.2.1 16 j ≤ 1499 := fun j => hT.2 16 j
    have A18 : ∀ j, 0 ≤ τ3.2.1 18 j ∧ τ3.2.1 18 j ≤ 1 := fun j => hT.2 18 j
    have A19 : ∀ j, (-1) ≤ τ3.2.1 19 j ∧ τ3.2.1 19 j ≤ 1499 := fun j => hT.2 19 j
    have A20 : ∀ j, 0 ≤ τ3.2.1 20 j ∧ τ3.2.1 20 j ≤ 999 := fun j => hT.2 20 j
    have A22 : ∀ j, 0 ≤ τ3.2.1 22 j ∧ τ3.2.1 22 j ≤ 1499 := fun j => hT.2 22 j
    have A26 : ∀ j, (-2147483648) ≤ τ3.2.1 26 j ∧ τ3.2.1 26 j ≤ 2147483647 := fun j => hT.2 26 j
    have A27 : ∀ j, 0 ≤ τ3.2.1 27 j ∧ τ3.2.1 27 j ≤ 90000 := fun j => hT.2 27 j
    have A28 : ∀ j, 0 ≤ τ3.2.1 28 j ∧ τ3.2.1 28 j ≤ 60 := fun j => hT.2 28 j
    have A29 : ∀ j, 0 ≤ τ3.2.1 29 j ∧ τ3.2.1 29 j ≤ 1499 := fun j => hT.2 29 j
    have A30 : ∀ j, 0 ≤ τ3.2.1 30 j ∧ τ3.2.1 30 j ≤ 20000 := fun j => hT.2 30 j
    have A31 : ∀ j, 0 ≤ τ3.2.1 31 j ∧ τ3.2.1 31 j ≤ 20000 := fun j => hT.2 31 j
    have A32 : ∀ j, 0 ≤ τ3.2.1 32 j ∧ τ3.2.1 32 j ≤ 999999 := fun j => hT.2 32 j
    have A33 : ∀ j, 0 ≤ τ3.2.1 33 j ∧ τ3.2.1 33 j ≤ 20000 := fun j => hT.2 33 j
    have A34 : ∀ j, 0 ≤ τ3.2.1 34 j ∧ τ3.2.1 34 j ≤ 20000 := fun j => hT.2 34 j
    have A35 : ∀ j, 0 ≤ τ3.2.1 35 j ∧ τ3.2.1 35 j ≤ 1499 := fun j => hT.2 35 j
    have A36 : ∀ j, 0 ≤ τ3.2.1 36 j ∧ τ3.2.1 36 j ≤ 20000 := fun j => hT.2 36 j
    have A37 : ∀ j, 0 ≤ τ3.2.1 37 j ∧ τ3.2.1 37 j ≤ 19999 := fun j => hT.2 37 j
    have A44 : ∀ j, 0 ≤ τ3.2.1 44 j ∧ τ3.2.1 44 j ≤ 42000 := fun j => hT.2 44 j
    have A45 : ∀ j, 0 ≤ τ3.2.1 45 j ∧ τ3.2.1 45 j ≤ 1000 := fun j => hT.2 45 j
    have A49 : ∀ j, (-300) ≤ τ3.2.1 49 j ∧ τ3.2.1 49 j ≤ 67035 := fun j => hT.2 49 j
    have A51 : ∀ j, 0 ≤ τ3.2.1 51 j ∧ τ3.2.1 51 j ≤ 1499 := fun j => hT.2 51 j
    have A54 : ∀ j, 0 ≤ τ3.2.1 54 j ∧ τ3.2.1 54 j ≤ 999 := fun j => hT.2 54 j
    have v3 : 0 ≤ τ3.1 3 ∧ τ3.1 3 ≤ 2500 := hT.1 3
    have v4 : 0 ≤ τ3.1 4 ∧ τ3.1 4 ≤ 100 := hT.1 4
    have v5 : 0 ≤ τ3.1 5 ∧ τ3.1 5 ≤ 1000 := hT.1 5
    have v6 : 0 ≤ τ3.1 6 ∧ τ3.1 6 ≤ 30000 := hT.1 6
    have v7 : 0 ≤ τ3.1 7 ∧ τ3.1 7 ≤ 1500 := hT.1 7
    have v8 : 0 ≤ τ3.1 8 ∧ τ3.1 8 ≤ 1000 := hT.1 8
    have v9 : 0 ≤ τ3.1 9 ∧ τ3.1 9 ≤ 1500 := hT.1 9
    have v10 : 0 ≤ τ3.1 10 ∧ τ3.1 10 ≤ 1000 := hT.1 10
    have v11 : 0 ≤ τ3.1 11 ∧ τ3.1 11 ≤ 50 := hT.1 11
    have v12 : (-2147483648) ≤ τ3.1 12 ∧ τ3.1 12 ≤ 2147483647 := hT.1 12
    have v13 : 0 ≤ τ3.1 13 ∧ τ3.1 13 ≤ 90000 := hT.1 13
    have v14 : 0 ≤ τ3.1 14 ∧ τ3.1 14 ≤ 20000 := hT.1 14
    have v15 : 0 ≤ τ3.1 15 ∧ τ3.1 15 ≤ 20000 := hT.1 15
    have v16 : 0 ≤ τ3.1 16 ∧ τ3.1 16 ≤ 20000 := hT.1 16
    have v21 : 0 ≤ τ3.1 21 ∧ τ3.1 21 ≤ 20000 := hT.1 21
    have v22 : 0 ≤ τ3.1 22 ∧ τ3.1 22 ≤ 300 := hT.1 22
    have v23 : 0 ≤ τ3.1 23 ∧ τ3.1 23 ≤ 300 := hT.1 23
    have v24 : 0 ≤ τ3.1 24 ∧ τ3.1 24 ≤ 1499 := hT.1 24
    have v25 : 0 ≤ τ3.1 25 ∧ τ3.1 25 ≤ 3 := hT.1 25
    have v26 : 0 ≤ τ3.1 26 ∧ τ3.1 26 ≤ 5000010 := hT.1 26
    have v27 : 0 ≤ τ3.1 27 ∧ τ3.1 27 ≤ 1 := hT.1 27
    have v35 : 0 ≤ τ3.1 35 ∧ τ3.1 35 ≤ 7 := hT.1 35
    have v36 : 0 ≤ τ3.1 36 ∧ τ3.1 36 ≤ 1001 := hT.1 36
    have v37 : 0 ≤ τ3.1 37 ∧ τ3.1 37 ≤ 4 := hT.1 37
    have a14_7 : 0 ≤ τ3.2.1 14 (τ3.1 7) ∧ τ3.2.1 14 (τ3.1 7) ≤ 30000 := hT.2 14 _
    have a36_15 : 0 ≤ τ3.2.1 36 (τ3.1 15) ∧ τ3.2.1 36 (τ3.1 15) ≤ 20000 := hT.2 36 _
    have av13 : σ.1 13 ≤ τ3.1 13 := ag.1 13 (by decide)
    have av14 : σ.1 14 ≤ τ3.1 14 := ag.1 14 (by decide)
    exact ⟨hT, (show 0 ≤ x2 ∧ x2 ≤ 19 from by (first | assumption | omega | (simp only [st_s] <;> omega) | fail)), (show J_ht (τ3.1 3) (τ3.2.1 2) (τ3.2.1 3) (τ3.2.1 5) (τ3.2.1 6) from HT), (show J_mn (τ3.1 3) (τ3.1 5) ((τ3.1 7) + 1) (τ3.2.1 4) from MN), (show J_rks (τ3.1 5) (τ3.1 4) (τ3.2.1 10) (τ3.2.1 11) from RKS), (show J_vs (τ3.1 8) (τ3.1 5) (τ3.2.1 20) from VS), (show J_vs (τ3.1 6) (τ3.1 5) (τ3.2.1 15) from TX), (show J_va (τ3.1 8) 1000 (τ3.2.1 18) (τ3.2.1 20) from VA), (show J_mk (τ3.1 11) (τ3.1 8) (τ3.1 9) (τ3.1 10) (τ3.2.1 25) from MK), (show J_sc (τ3.1 7) (τ3.1 9) (τ3.2.1 13) (τ3.2.1 14) (τ3.2.1 15) (τ3.2.1 16) (τ3.2.1 22) (τ3.2.1 19) from SC), (show J_ff (τ3.1 5) (τ3.1 7) (τ3.2.1 9) (τ3.2.1 13) (τ3.2.1 14) (τ3.2.1 15) from FF), (show ∀ s : Int, τ3.2.1 26 s ≤ (τ3.1 12) from MT), (show J_all (τ3.1 7) (τ3.1 6) (τ3.1 13) (τ3.1 14) (τ3.1 15) (τ3.2.1 13) (τ3.2.1 14) (τ3.2.1 15) (τ3.2.1 16) (τ3.2.1 10) (τ3.2.1 27) (τ3.2.1 28) (τ3.2.1 29) (τ3.2.1 30) (τ3.2.1 31) (τ3.2.1 32) (τ3.2.1 33) (τ3.2.1 34) (τ3.2.1 35) (τ3.2.1 36) (τ3.2.1 37) from CJ), (show J_bp (τ3.2.1 44) (τ3.2.1 45) from BP), (show J_nl (τ3.1 3) (τ3.2.1 2) (τ3.2.1 3) (τ3.2.1 4) from NL), (show x2 = 0 → J_rs (τ3.1 35) (τ3.1 7) (τ3.1 6) (τ3.1 36) (τ3.1 37) (τ3.1 5) (τ3.1 8) (τ3.2.1 14) from by (first | exact fun z => absurd z (by decide) | exact q1_15 | exact q4_15 | exact q7_15 | (intro z; have w := q15_2 z; have rs := J_rs_0 p14 (by omega); unfold J_rs; rw [G14, W7]; omega) | (intro z; have rs := J_rs_0 p14 (by omega); have r1 := J_rs_1 p14 (by omega); unfold J_rs; rw [G14, W7]; omega) | (first | exact fun z => absurd z (by decide) | exact fun _ => RS | (intro z; have rs := p14; unfold J_rs at rs ⊢; omega) | (intro z; have rs := p14; unfold J_rs at rs ⊢; rw [G14, W7]; omega)) | fail)), (show x2 = 0 → J_uc (τ3.1 35) (τ3.1 36) (τ3.2.1 10 (τ3.2.1 15 (τ3.2.1 14 (τ3.1 7)))) from by (first | exact fun z => absurd z (by decide) | exact q1_16 | exact q4_16 | exact q7_16 | (intro z y y2; exfalso; omega) | (intro z y; have w := q15_2 z; exfalso; omega) | (first | exact fun z => absurd z (by decide) | (intro z y; exfalso; omega) | exact fun _ => UC | exact fun _ => uc | (intro z y y2; exact uc (by omega) (by omega)) | (intro z y y2; exfalso; omega) | (intro z y y2; rw [G10, G14, G15, W7]; exact uc (by omega) (by omega))) | fail)), (show x2 = 0 → J_dj (τ3.1 35) (τ3.1 36) (τ3.2.1 54) from by (first | exact fun z => absurd z (by decide) | exact q1_17 | exact q4_17 | exact q7_17 | (intro z y; rw [show τ17.1 36 = 0 from (q15_2 z).1]; exact j_in0 _ _) | (first | exact fun z => absurd z (by decide) | (intro z y; exfalso; omega) | exact fun _ => DJs | exact fun _ => dj) | fail)), (show x2 = 0 → J_it (τ3.1 35) (τ3.1 7) (τ3.1 6) (τ3.1 37) (τ3.2.1 14) (τ3.2.1 15) (τ3.2.1 16) (τ3.2.1 19) from by (first | exact fun z => absurd z (by decide) | exact q1_18 | exact q4_18 | exact q7_18 | (intro z y; have w := q15_2 z; exfalso; omega) | (intro z y; have rs := J_rs_0 p14 (by omega); exact J_ip0 (by rw [W6, G14, W7]; omega)) | (first | exact fun z => absurd z (by decide) | (intro z y; exfalso; omega) | exact fun _ => IPs | exact fun _ => ipx | (intro z y; exact ipx (by omega)) | (intro z y; rw [W7, W6, W37, G14, G15, G16, G19]; exact ipx (by omega))) | fail)), (show x2 = 0 → J_hu (τ3.1 35) (τ3.1 13) (τ3.1 7) from by (first | exact fun z => absurd z (by decide) | exact q1_19 | exact q4_19 | exact q7_19 | (intro z; have hu := hux; unfold J_hu at hu ⊢; omega) | (first | exact fun z => absurd z (by decide) | exact fun _ => HUs | (intro z; have hu := hux; unfold J_hu at hu ⊢; omega)) | fail)), (show x2 = 0 → J_ft (τ3.1 35) (τ3.1 24) (τ3.1 7) (τ3.1 13) (τ3.1 14) (τ3.2.1 13) (τ3.2.1 14) (τ3.2.1 15) (τ3.2.1 16) (τ3.2.1 27) (τ3.2.1 28) (τ3.2.1 29) (τ3.2.1 30) (τ3.2.1 31) (τ3.2.1 32) from by (first | exact fun z => absurd z (by decide) | exact q1_20 | exact q4_20 | exact q7_20 | (intro z y; have w := q15_2 z; exfalso; omega) | (intro z y; exfalso; omega) | (first | exact fun z => absurd z (by decide) | (intro z y; exfalso; omega) | exact fun _ => FRs | exact fun _ => frx | (intro z y; exact frx (by omega)) | (intro z y; have w := frx (by omega); rw [W7, W13, W14, W24, G13, G14, G15, G16, G27, G28, G29, G30, G31, G32]; exact w)) | fail)), (show x2 = 0 → J_ss (τ3.1 35) (τ3.1 24) (τ3.1 21) (τ3.1 23) (τ3.1 22) (τ3.1 27) (τ3.1 26) (τ3.1 25) (τ3.1 16) (τ3.2.1 49) (τ3.2.1 51) from by (first | exact fun z => absurd z (by decide) | exact q1_21 | exact q4_21 | exact q7_21 | (intro z y; have w := q15_2 z; exfalso; omega) | (intro z y; exfalso; omega) | (first | exact fun z => absurd z (by decide) | (intro z y; exfalso; omega) | exact fun _ => SPs | exact fun _ => spx | (intro z y; exact spx (by omega))) | fail)), (show x2 = 0 → (τ3.1 15) ≤ (τ3.1 16) ∧ τ3.2.1 36 (τ3.1 15) ≤ (τ3.1 16) from by (first | exact fun z => absurd z (by decide) | exact q1_22 | exact q4_22 | exact q7_22 | (intro z; first | exact sux | omega) | fail)), (show x2 = 0 → (τ3.1 9) ≤ (τ3.1 7) from by (first | exact fun z => absurd z (by decide) | exact q1_23 | exact q4_23 | exact q7_23 | (intro z; omega) | fail)), (show j_rr ((σ.1 5)) (σ.2.1 10) (τ3.2.1 10) from by (first | exact j_rr0 _ _ | exact q1_24 | exact q4_24 | exact q7_24 | (rw [G10]; exact j_rr0 _ _) | fail)), (show j_eq (σ.2.1 36 (σ.1 15)) (σ.2.1 37) (τ3.2.1 37) from CH), (show (τ3.1 12) ≤ (σ.1 12) + 1 from by (first | assumption | omega | (simp only [st_s] <;> omega) | fail)), (show c_Y σ τ3 from by (first | exact c_Y0 _ | exact c_Y_g W4 G11 G20 G22 G25 | exact q1_27 | exact q4_27 | exact q7_27 | exact c_Y_g (by omega) (by rw [g11_τ4]) (by rw [g20_τ4]) (by rw [g22_τ4]) (by rw [g25_τ4]) | exact c_Y_g (by omega) (by rw [g11_τ13]) (by rw [g20_τ13]) (by rw [g22_τ13]) (by rw [g25_τ13]) | exact c_Y_g (by omega) (by rw [g11_τ17]) (by rw [g20_τ17]) (by rw [g22_τ17]) (by rw [g25_τ17]) | fail)), ag⟩
  ·
    refine h109 _ _ ?_
    refine ⟨fun c10 => ?_, fun c10 => ?_⟩
    ·
      exact ⟨hT, (show 0 ≤ 4 ∧ 4 ≤ 19 from by (first | assumption | omega | (simp only [st_s] <;> omega) | fail)), (show J_ht (σ.1 3) (σ.2.1 2) (σ.2.1 3) (σ.2.1 5) (σ.2.1 6) from HT), (show J_mn (σ.1 3) (σ.1 5) ((σ.1 7) + 1) (σ.2.1 4) from MN), (show J_rks (σ.1 5) (σ.1 4) (σ.2.1 10) (σ.2.1 11) from RKS), (show J_vs (σ.1 8) (σ.1 5) (σ.2.1 20) from VS), (show J_vs (σ.1 6) (σ.1 5) (σ.2.1 15) from TX), (show J_va (σ.1 8) 1000 (σ.2.1 18) (σ.2.1 20) from VA), (show J_mk (σ.1 11) (σ.1 8) (σ.1 9) (σ.1 10) (σ.2.1 25) from MK), (show J_sc (σ.1 7) (σ.1 9) (σ.2.1 13) (σ.2.1 14) (σ.2.1 15) (σ.2.1 16) (σ.2.1 22) (σ.2.1 19) from SC), (show J_ff (σ.1 5) (σ.1 7) (σ.2.1 9) (σ.2.1 13) (σ.2.1 14) (σ.2.1 15) from FF), (show ∀ s : Int, σ.2.1 26 s ≤ (σ.1 12) from MT), (show J_all (σ.1 7) (σ.1 6) (σ.1 13) (σ.1 14) (σ.1 15) (σ.2.1 13) (σ.2.1 14) (σ.2.1 15) (σ.2.1 16) (σ.2.1 10) (σ.2.1 27) (σ.2.1 28) (σ.2.1 29) (σ.2.1 30) (σ.2.1 31) (σ.2.1 32) (σ.2.1 33) (σ.2.1 34) (σ.2.1 35) (σ.2.1 36) (σ.2.1 37) from CJ), (show J_bp (σ.2.1 44) (σ.2.1 45) from BP), (show J_nl (σ.1 3) (σ.2.1 2) (σ.2.1 3) (σ.2.1 4) from NL), (show 4 = 0 → J_rs (σ.1 35) (σ.1 7) (σ.1 6) (σ.1 36) (σ.1 37) (σ.1 5) (σ.1 8) (σ.2.1 14) from by (first | exact fun z => absurd z (by decide) | exact q1_15 | exact q4_15 | exact q7_15 | (intro z; have w := q15_2 z; have rs := J_rs_0 p14 (by omega); unfold J_rs; rw [G14, W7]; omega) | (intro z; have rs := J_rs_0 p14 (by omega); have r1 := J_rs_1 p14 (by omega); unfold J_rs; rw [G14, W7]; omega) | (first | exact fun z => absurd z (by decide) | exact fun _ => RS | (intro z; have rs := p14; unfold J_rs at rs ⊢; omega) | (intro z; have rs := p14; unfold J_rs at rs ⊢; rw [G14, W7]; omega)) | fail)), (show 4 = 0 → J_uc (σ.1 35) (σ.1 36) (σ.2.1 10 (σ.2.1 15 (σ.2.1 14 (σ.1 7)))) from by (first | exact fun z => absurd z (by decide) | exact q1_16 | exact q4_16 | exact q7_16 | (intro z y y2; exfalso; omega) | (intro z y; have w := q15_2 z; exfalso; omega) | (first | exact fun z => absurd z (by decide) | (intro z y; exfalso; omega) | exact fun _ => UC | exact fun _ => uc | (intro z y y2; exact uc (by omega) (by omega)) | (intro z y y2; exfalso; omega) | (intro z y y2; rw [G10, G14, G15, W7]; exact uc (by omega) (by omega))) | fail)), (show 4 = 0 → J_dj (σ.1 35) (σ.1 36) (σ.2.1 54) from by (first | exact fun z => absurd z (by decide) | exact q1_17 | exact q4_17 | exact q7_17 | (intro z y; rw [show τ17.1 36 = 0 from (q15_2 z).1]; exact j_in0 _ _) | (first | exact fun z => absurd z (by decide) | (intro z y; exfalso; omega) | exact fun _ => DJs | exact fun _ => dj) | fail)), (show 4 = 0 → J_it (σ.1 35) (σ.1 7) (σ.1 6) (σ.1 37) (σ.2.1 14) (σ.2.1 15) (σ.2.1 16) (σ.2.1 19) from by (first | exact fun z => absurd z (by decide) | exact q1_18 | exact q4_18 | exact q7_18 | (intro z y; have w := q15_2 z; exfalso; omega) | (intro z y; have rs := J_rs_0 p14 (by omega); exact J_ip0 (by rw [W6, G14, W7]; omega)) | (first | exact fun z => absurd z (by decide) | (intro z y; exfalso; omega) | exact fun _ => IPs | exact fun _ => ipx | (intro z y; exact ipx (by omega)) | (intro z y; rw [W7, W6, W37, G14, G15, G16, G19]; exact ipx (by omega))) | fail)), (show 4 = 0 → J_hu (σ.1 35) (σ.1 13) (σ.1 7) from by (first | exact fun z => absurd z (by decide) | exact q1_19 | exact q4_19 | exact q7_19 | (intro z; have hu := hux; unfold J_hu at hu ⊢; omega) | (first | exact fun z => absurd z (by decide) | exact fun _ => HUs | (intro z; have hu := hux; unfold J_hu at hu ⊢; omega)) | fail)), (show 4 = 0 → J_ft (σ.1 35) (σ.1 24) (σ.1 7) (σ.1 13) (σ.1 14) (σ.2.1 13) (σ.2.1 14) (σ.2.1 15) (σ.2.1 16) (σ.2.1 27) (σ.2.1 28) (σ.2.1 29) (σ.2.1 30) (σ.2.1 31) (σ.2.1 32) from by (first | exact fun z => absurd z (by decide) | exact q1_20 | exact q4_20 | exact q7_20 | (intro z y; have w := q15_2 z; exfalso; omega) | (intro z y; exfalso; omega) | (first | exact fun z => absurd z (by decide) | (intro z y; exfalso; omega) | exact fun _ => FRs | exact fun _ => frx | (intro z y; exact frx (by omega)) | (intro z y; have w := frx (by omega); rw [W7, W13, W14, W24, G13, G14, G15, G16, G27, G28, G29, G30, G31, G32]; exact w)) | fail)), (show 4 = 0 → J_ss (σ.1 35) (σ.1 24) (σ.1 21) (σ.1 23) (σ.1 22) (σ.1 27) (σ.1 26) (σ.1 25) (σ.1 16) (σ.2.1 49) (σ.2.1 51) from by (first | exact fun z => absurd z (by decide) | exact q1_21 | exact q4_21 | exact q7_21 | (intro z y; have w := q15_2 z; exfalso; omega) | (intro z y; exfalso; omega) | (first | exact fun z => absurd z (by decide) | (intro z y; exfalso; omega) | exact fun _ => SPs | exact fun _ => spx | (intro z y; exact spx (by omega))) | fail)), (show 4 = 0 → (σ.1 15) ≤ (σ.1 16) ∧ σ.2.1 36 (σ.1 15) ≤ (σ.1 16) from by (first | exact fun z => absurd z (by decide) | exact q1_22 | exact q4_22 | exact q7_22 | (intro z; first | exact sux | omega) | fail)), (show 4 = 0 → (σ.1 9) ≤ (σ.1 7) from by (first | exact fun z => absurd z (by decide) | exact q1_23 | exact q4_23 | exact q7_23 | (intro z; omega) | fail)), (show j_rr ((σ.1 5)) (σ.2.1 10) (σ.2.1 10) from by (first | exact j_rr0 _ _ | exact q1_24 | exact q4_24 | exact q7_24 | (rw [G10]; exact j_rr0 _ _) | fail)), (show j_eq (σ.2.1 36 (σ.1 15)) (σ.2.1 37) (σ.2.1 37) from CH), (show (σ.1 12) ≤ (σ.1 12) + 1 from by (first | assumption | omega | (simp only [st_s] <;> omega) | fail)), (show c_Y σ σ from by (first | exact c_Y0 _ | exact c_Y_g W4 G11 G20 G22 G25 | exact q1_27 | exact q4_27 | exact q7_27 | exact c_Y_g (by omega) (by rw [g11_τ4]) (by rw [g20_τ4]) (by rw [g22_τ4]) (by rw [g25_τ4]) | exact c_Y_g (by omega) (by rw [g11_τ13]) (by rw [g20_τ13]) (by rw [g22_τ13]) (by rw [g25_τ13]) | exact c_Y_g (by omega) (by rw [g11_τ17]) (by rw [g20_τ17]) (by rw [g22_τ17]) (by rw [g25_τ17]) | fail)), ag⟩
    ·
      refine ⟨_, K2_X7_statement hT, ?_⟩
      intro x12 τ13 r_x12 hn_τ13 hf_τ13 hq
      obtain ⟨hT, q11_1, q11_2, q11_3, q11_4⟩ := hq
      replace q11_1 : x12 = 0 := q11_1
      replace q11_2 : (τ13.1 36) = 0 := q11_2
      replace q11_3 : (τ13.1 35) = 5 := q11_3
      replace q11_4 : (τ13.1 37) ≤ 3 := q11_4
      replace ag : c_ag σ τ13 := ag_r ag hf_τ13 rfl rfl
      have w3_τ13 : τ13.1 3 = σ.1 3 := hf_τ13.1 3 (by decide)
      have w4_τ13 : τ13.1 4 = σ.1 4 := hf_τ13.1 4 (by decide)
      have w5_τ13 : τ13.1 5 = σ.1 5 := hf_τ13.1 5 (by decide)
      have w6_τ13 : τ13.1 6 = σ.1 6 := hf_τ13.1 6 (by decide)
      have w7_τ13 : τ13.1 7 = σ.1 7 := hf_τ13.1 7 (by decide)
      have w8_τ13 : τ13.1 8 = σ.1 8 := hf_τ13.1 8 (by decide)
      have w9_τ13 : τ13.1 9 = σ.1 9 := hf_τ13.1 9 (by decide)
      have w10_τ13 : τ13.1 10 = σ.1 10 := hf_τ13.1 10 (by decide)
      have w11_τ13 : τ13.1 11 = σ.1 11 := hf_τ13.1 11 (by decide)
      have w12_τ13 : τ13.1 12 = σ.1 12 := hf_τ13.1 12 (by decide)
      have w13_τ13 : τ13.1 13 = σ.1 13 := hf_τ13.1 13 (by decide)
      have w14_τ13 : τ13.1 14 = σ.1 14 := hf_τ13.1 14 (by decide)
      have w15_τ13 : τ13.1 15 = σ.1 15 := hf_τ13.1 15 (by decide)
      have w16_τ13 : τ13.1 16 = σ.1 16 := hf_τ13.1 16 (by decide)
      have w21_τ13 : τ13.1 21 = σ.1 21 := hf_τ13.1 21 (by decide)
      have w22_τ13 : τ13.1 22 = σ.1 22 := hf_τ13.1 22 (by decide)
      have w23_τ13 : τ13.1 23 = σ.1 23 := hf_τ13.1 23 (by decide)
      have w24_τ13 : τ13.1 24 = σ.1 24 := hf_τ13.1 24 (by decide)
      have w25_τ13 : τ13.1 25 = σ.1 25 := hf_τ13.1 25 (by decide)
      have w26_τ13 : τ13.1 26 = σ.1 26 := hf_τ13.1 26 (by decide)
      have w27_τ13 : τ13.1 27 = σ.1 27 := hf_τ13.1 27 (by decide)
      have g2_τ13 : τ13.2.1 2 = σ.2.1 2 := hf_τ13.2.1 2 (by decide)
      have g3_τ13 : τ13.2.1 3 = σ.2.1 3 := hf_τ13.2.1 3 (by decide)
      have g4_τ13 : τ13.2.1 4 = σ.2.1 4 := hf_τ13.2.1 4 (by decide)
      have g5_τ13 : τ13.2.1 5 = σ.2.1 5 := hf_τ13.2.1 5 (by decide)
      have g6_τ13 : τ13.2.1 6 = σ.2.1 6 := hf_τ13.2.1 6 (by decide)
      have g9_τ13 : τ13.2.1 9 = σ.2.1 9 := hf_τ13.2.1 9 (by decide)
      have g10_τ13 : τ13.2.1 10 = σ.2.1 10 := hf_τ13.2.1 10 (by decide)
      have g11_τ13 : τ13.2.1 11 = σ.2.1 11 := hf_τ13.2.1 11 (by decide)
      have g13_τ13 : τ13.2.1 13 = σ.2.1 13 := hf_τ13.2.1 13 (by decide)
      have g14_τ13 : τ13.2.1 14 = σ.2.1 14 := hf_τ13.2.1 14 (by decide)
      have g15_τ13 : τ13.2.1 15 = σ.2.1 15 := hf_τ13.2.1 15 (by decide)
      have g16_τ13 : τ13.2.1 16 = σ.2.1 16 := hf_τ13.2.1 16 (by decide)
      have g18_τ13 : τ13.2.1 18 = σ.2.1 18 := hf_τ13.2.1 18 (by decide)
      have g19_τ13 : τ13.2.1 19 = σ.2.1 19 := hf_τ13.2.1 19 (by decide)
      have g20_τ13 : τ13.2.1 20 = σ.2.1 20 := hf_τ13.2.1 20 (by decide)
      have g22_τ13 : τ13.2.1 22 = σ.2.1 22 := hf_τ13.2.1 22 (by decide)
      have g25_τ13 : τ13.2.1 25 = σ.2.1 25 := hf_τ13.2.1 25 (by decide)
      have g26_τ13 : τ13.2.1 26 = σ.2.1 26 := hf_τ13.2.1 26 (by decide)
      have g27_τ13 : τ13.2.1 27 = σ.2.1 27 := hf_τ13.2.1 27 (by decide)
      have g28_τ13 : τ13.2.1 28 = σ.2.1 28 := hf_τ13.2.1 28 (by decide)
      have g29_τ13 : τ13.2.1 29 = σ.2.1 29 := hf_τ13.2.1 29 (by decide)
      have g30_τ13 : τ13.2.1 30 = σ.2.1 30 := hf_τ13.2.1 30 (by decide)
      have g31_τ13 : τ13.2.1 31 = σ.2.1 31 := hf_τ13.2.1 31 (by decide)
      have g32_τ13 : τ13.2.1 32 = σ.2.1 32 := hf_τ13.2.1 32 (by decide)
      have g33_τ13 : τ13.2.1 33 = σ.2.1 33 := hf_τ13.2.1 33 (by decide)
      have g34_τ13 : τ13.2.1 34 = σ.2.1 34 := hf_τ13.2.1 34 (by decide)
      have g35_τ13 : τ13.2.1 35 = σ.2.1 35 := hf_τ13.2.1 35 (by decide)
      have g36_τ13 : τ13.2.1 36 = σ.2.1 36 := hf_τ13.2.1 36 (by decide)
      have g37_τ13 : τ13.2.1 37 = σ.2.1 37 := hf_τ13.2.1 37 (by decide)
      have g44_τ13 : τ13.2.1 44 = σ.2.1 44 := hf_τ13.2.1 44 (by decide)
      have g45_τ13 : τ13.2.1 45 = σ.2.1 45 := hf_τ13.2.1 45 (by decide)
      have g49_τ13 : τ13.2.1 49 = σ.2.1 49 := hf_τ13.2.1 49 (by decide)
      have g51_τ13 : τ13.2.1 51 = σ.2.1 51 := hf_τ13.2.1 51 (by decide)
      have g54_τ13 : τ13.2.1 54 = σ.2.1 54 := hf_τ13.2.1 54 (by decide)
      have W3 : τ13.1 3 = σ.1 3 := by first | exact w3_τ13.trans W3 | omega
      have W4 : τ13.1 4 = σ.1 4 := by first | exact w4_τ13.trans W4 | omega
      have W5 : τ13.1 5 = σ.1 5 := by first | exact w5_τ13.trans W5 | omega
      have W6 : τ13.1 6 = σ.1 6 := by first | exact w6_τ13.trans W6 | omega
      have W7 : τ13.1 7 = σ.1 7 := by first | exact w7_τ13.trans W7 | omega
      have W15 : τ13.1 15 = σ.1 15 := by first | exact w15_τ13.trans W15 | omega
      have W16 : τ13.1 16 = σ.1 16 := by first | exact w16_τ13.trans W16 | omega
      have G2 : τ13.2.1 2 = σ.2.1 2 := (g2_τ13).trans G2
      have G3 : τ13.2.1 3 = σ.2.1 3 := (g3_τ13).trans G3
      have G4 : τ13.2.1 4 = σ.2.1 4 := (g4_τ13).trans G4
      have G5 : τ13.2.1 5 = σ.2.1 5 := (g5_τ13).trans G5
      have G6 : τ13.2.1 6 = σ.2.1 6 := (g6_τ13).trans G6
      have G9 : τ13.2.1 9 = σ.2.1 9 := (g9_τ13).trans G9
      have G10 : τ13.2.1 10 = σ.2.1 10 := (g10_τ13).trans G10
      have G11 : τ13.2.1 11 = σ.2.1 11 := (g11_τ13).trans G11
      have G13 : τ13.2.1 13 = σ.2.1 13 := (g13_τ13).trans G13
      have G14 : τ13.2.1 14 = σ.2.1 14 := (g14_τ13).trans G14
      have G15 : τ13.2.1 15 = σ.2.1 15 := (g15_τ13).trans G15
      have G16 : τ13.2.1 16 = σ.2.1 16 := (g16_τ13).trans G16
      have G20 : τ13.2.1 20 = σ.2.1 20 := (g20_τ13).trans G20
      have G22 : τ13.2.1 22 = σ.2.1 22 := (g22_τ13).trans G22
      have G33 : τ13.2.1 33 = σ.2.1 33 := (g33_τ13).trans G33
      have G34 : τ13.2.1 34 = σ.2.1 34 := (g34_τ13).trans G34
      have G35 : τ13.2.1 35 = σ.2.1 35 := (g35_τ13).trans G35
      have G36 : τ13.2.1 36 = σ.2.1 36 := (g36_τ13).trans G36
      have G37 : τ13.2.1 37 = σ.2.1 37 := (g37_τ13).trans G37
      have G44 : τ13.2.1 44 = σ.2.1 44 := (g44_τ13).trans G44
      have G45 : τ13.2.1 45 = σ.2.1 45 := (g45_τ13).trans G45
      have G49 : τ13.2.1 49 = σ.2.1 49 := (g49_τ13).trans G49
      have G51 : τ13.2.1 51 = σ.2.1 51 := (g51_τ13).trans G51
      have G54 : τ13.2.1 54 = σ.2.1 54 := (g54_τ13).trans G54
      have y14_7_τ13 : τ13.2.1 14 (τ13.1 7) = (σ.2.1 14) (σ.1 7) := by rw [g14_τ13, w7_τ13]
      have y36_15_τ13 : τ13.2.1 36 (τ13.1 15) = (σ.2.1 36) (σ.1 15) := by rw [g36_τ13, w15_τ13]
      have HT : J_ht (τ13.1 3) (τ13.2.1 2) (τ13.2.1 3) (τ13.2.1 5) (τ13.2.1 6) := by rw [show (J_ht (τ13.1 3) (τ13.2.1 2) (τ13.2.1 3) (τ13.2.1 5) (τ13.2.1 6)) = (J_ht (σ.1 3) (σ.2.1 2) (σ.2.1 3) (σ.2.1 5) (σ.2.1 6)) from by rw [w3_τ13, g2_τ13, g3_τ13, g5_τ13, g6_τ13]]; exact HT
      have NL : J_nl (τ13.1 3) (τ13.2.1 2) (τ13.2.1 3) (τ13.2.1 4) := by rw [show (J_nl (τ13.1 3) (τ13.2.1 2) (τ13.2.1 3) (τ13.2.1 4)) = (J_nl (σ.1 3) (σ.2.1 2) (σ.2.1 3) (σ.2.1 4)) from by rw [w3_τ13, g2_τ13, g3_τ13, g4_τ13]]; exact NL
      have MN : J_mn (τ13.1 3) (τ13.1 5) ((τ13.1 7) + 1) (τ13.2.1 4) := by rw [show (J_mn (τ13.1 3) (τ13.1 5) ((τ13.1 7) + 1) (τ13.2.1 4)) = (J_mn (σ.1 3) (σ.1 5) ((σ.1 7) + 1) (σ.2.1 4)) from by rw [w3_τ13, w5_τ13, w7_τ13, g4_τ13]]; exact MN
      have VA : J_va (τ13.1 8) 1000 (τ13.2.1 18) (τ13.2.1 20) := by rw [show (J_va (τ13.1 8) 1000 (τ13.2.1 18) (τ13.2.1 20)) = (J_va (σ.1 8) 1000 (σ.2.1 18) (σ.2.1 20)) from by rw [w8_τ13, g18_τ13, g20_τ13]]; exact VA
      have SC : J_sc (τ13.1 7) (τ13.1 9) (τ13.2.1 13) (τ13.2.1 14) (τ13.2.1 15) (τ13.2.1 16) (τ13.2.1 22) (τ13.2.1 19) := by rw [show (J_sc (τ13.1 7) (τ13.1 9) (τ13.2.1 13) (τ13.2.1 14) (τ13.2.1 15) (τ13.2.1 16) (τ13.2.1 22) (τ13.2.1 19)) = (J_sc (σ.1 7) (σ.1 9) (σ.2.1 13) (σ.2.1 14) (σ.2.1 15) (σ.2.1 16) (σ.2.1 22) (σ.2.1 19)) from by rw [w7_τ13, w9_τ13, g13_τ13, g14_τ13, g15_τ13, g16_τ13, g19_τ13, g22_τ13]]; exact SC
      have MK : J_mk (τ13.1 11) (τ13.1 8) (τ13.1 9) (τ13.1 10) (τ13.2.1 25) := by rw [show (J_mk (τ13.1 11) (τ13.1 8) (τ13.1 9) (τ13.1 10) (τ13.2.1 25)) = (J_mk (σ.1 11) (σ.1 8) (σ.1 9) (σ.1 10) (σ.2.1 25)) from by rw [w8_τ13, w9_τ13, w10_τ13, w11_τ13, g25_τ13]]; exact MK
      have FF : J_ff (τ13.1 5) (τ13.1 7) (τ13.2.1 9) (τ13.2.1 13) (τ13.2.1 14) (τ13.2.1 15) := by rw [show (J_ff (τ13.1 5) (τ13.1 7) (τ13.2.1 9) (τ13.2.1 13) (τ13.2.1 14) (τ13.2.1 15)) = (J_ff (σ.1 5) (σ.1 7) (σ.2.1 9) (σ.2.1 13) (σ.2.1 14) (σ.2.1 15)) from by rw [w5_τ13, w7_τ13, g9_τ13, g13_τ13, g14_τ13, g15_τ13]]; exact FF
      have MT : ∀ s : Int, τ13.2.1 26 s ≤ (τ13.1 12) := by rw [show (∀ s : Int, τ13.2.1 26 s ≤ (τ13.1 12)) = (∀ s : Int, σ.2.1 26 s ≤ (σ.1 12)) from by rw [w12_τ13, g26_τ13]]; exact MT
      have VS : J_vs (τ13.1 8) (τ13.1 5) (τ13.2.1 20) := by rw [show (J_vs (τ13.1 8) (τ13.1 5) (τ13.2.1 20)) = (J_vs (σ.1 8) (σ.1 5) (σ.2.1 20)) from by rw [w5_τ13, w8_τ13, g20_τ13]]; exact VS
      have TX : J_vs (τ13.1 6) (τ13.1 5) (τ13.2.1 15) := by rw [show (J_vs (τ13.1 6) (τ13.1 5) (τ13.2.1 15)) = (J_vs (σ.1 6) (σ.1 5) (σ.2.1 15)) from by rw [w5_τ13, w6_τ13, g15_τ13]]; exact TX
      have RKS : J_rks (τ13.1 5) (τ13.1 4) (τ13.2.1 10) (τ13.2.1 11) := by rw [show (J_rks (τ13.1 5) (τ13.1 4) (τ13.2.1 10) (τ13.2.1 11)) = (J_rks (σ.1 5) (σ.1 4) (σ.2.1 10) (σ.2.1 11)) from by rw [w4_τ13, w5_τ13, g10_τ13, g11_τ13]]; exact RKS
      have CJ : J_all (τ13.1 7) (τ13.1 6) (τ13.1 13) (τ13.1 14) (τ13.1 15) (τ13.2.1 13) (τ13.2.1 14) (τ13.2.1 15) (τ13.2.1 16) (τ13.2.1 10) (τ13.2.1 27) (τ13.2.1 28) (τ13.2.1 29) (τ13.2.1 30) (τ13.2.1 31) (τ13.2.1 32) (τ13.2.1 33) (τ13.2.1 34) (τ13.2.1 35) (τ13.2.1 36) (τ13.2.1 37) := by rw [show (J_all (τ13.1 7) (τ13.1 6) (τ13.1 13) (τ13.1 14) (τ13.1 15) (τ13.2.1 13) (τ13.2.1 14) (τ13.2.1 15) (τ13.2.1 16) (τ13.2.1 10) (τ13.2.1 27) (τ13.2.1 28) (τ13.2.1 29) (τ13.2.1 30) (τ13.2.1 31) (τ13.2.1 32) (τ13.2.1 33) (τ13.2.1 34) (τ13.2.1 35) (τ13.2.1 36) (τ13.2.1 37)) = (J_all (σ.1 7) (σ.1 6) (σ.1 13) (σ.1 14) (σ.1 15) (σ.2.1 13) (σ.2.1 14) (σ.2.1 15) (σ.2.1 16) (σ.2.1 10) (σ.2.1 27) (σ.2.1 28) (σ.2.1 29) (σ.2.1 30) (σ.2.1 31) (σ.2.1 32) (σ.2.1 33) (σ.2.1 34) (σ.2.1 35) (σ.2.1 36) (σ.2.1 37)) from by rw [w6_τ13, w7_τ13, w13_τ13, w14_τ13, w15_τ13, g10_τ13, g13_τ13, g14_τ13, g15_τ13, g16_τ13, g27_τ13, g28_τ13, g29_τ13, g30_τ13, g31_τ13, g32_τ13, g33_τ13, g34_τ13, g35_τ13, g36_τ13, g37_τ13]]; exact CJ
      have BP : J_bp (τ13.2.1 44) (τ13.2.1 45) := by rw [show (J_bp (τ13.2.1 44) (τ13.2.1 45)) = (J_bp (σ.2.1 44) (σ.2.1 45)) from by rw [g44_τ13, g45_τ13]]; exact BP
      have CH : j_eq (σ.2.1 36 (σ.1 15)) (σ.2.1 37) (τ13.2.1 37) := by rw [show (j_eq (σ.2.1 36 (σ.1 15)) (σ.2.1 37) (τ13.2.1 37)) = (j_eq (σ.2.1 36 (σ.1 15)) (σ.2.1 37) (σ.2.1 37)) from by rw [g37_τ13]]; exact CH
      have A2 : ∀ j, 0 ≤ τ13.2.1 2 j ∧ τ13.2.1 2 j ≤ 65535 := fun j => hT.2 2 j
      have A3 : ∀ j, 0 ≤ τ13.2.1 3 j ∧ τ13.2.1 3 j ≤ 30000 := fun j => hT.2 3 j
      have A4 : ∀ j, (-1000) ≤ τ13.2.1 4 j ∧ τ13.2.1 4 j ≤ 1499 := fun j => hT.2 4 j
      have A5 : ∀ j, 0 ≤ τ13.2.1 5 j ∧ τ13.2.1 5 j ≤ 2500 := fun j => hT.2 5 j
      have A6 : ∀ j, 0 ≤ τ13.2.1 6 j ∧ τ13.2.1 6 j ≤ 2500 := fun j => hT.2 6 j
      have A9 : ∀ j, (-1) ≤ τ13.2.1 9 j ∧ τ13.2.1 9 j ≤ 1499 := fun j => hT.2 9 j
      have A10 : ∀ j, (-1) ≤ τ13.2.1 10 j ∧ τ13.2.1 10 j ≤ 99 := fun j => hT.2 10 j
      have A11 : ∀ j, 0 ≤ τ13.2.1 11 j ∧ τ13.2.1 11 j ≤ 999 := fun j => hT.2 11 j
      have A13 : ∀ j, 0 ≤ τ13.2.1 13 j ∧ τ13.2.1 13 j ≤ 4 := fun j => hT.2 13 j
      have A14 : ∀ j, 0 ≤ τ13.2.1 14 j ∧ τ13.2.1 14 j ≤ 30000 := fun j => hT.2 14 j
      have A15 : ∀ j, 0 ≤ τ13.2.1 15 j ∧ τ13.2.1 15 j ≤ 999 := fun j => hT.2 15 j
      have A16 : ∀ j, (-1) ≤ τ13.2.1 16 j ∧ τ13.2.1 16 j ≤ 1499 := fun j => hT.2 16 j
      have A18 : ∀ j, 0 ≤ τ13.2.1 18 j ∧ τ13.2.1 18 j ≤ 1 := fun j => hT.2 18 j
      have A19 : ∀ j, (-1) ≤ τ13.2.1 19 j ∧ τ13.2.1 19 j ≤ 1499 := fun j => hT.2 19 j
      have A20 : ∀ j, 0 ≤ τ13.2.1 20 j ∧ τ13.2.1 20 j ≤ 999 := fun j => hT.2 20 j
      have A22 : ∀ j, 0 ≤ τ13.2.1 22 j ∧ τ13.2.1 22 j ≤ 1499 := fun j => hT.2 22 j
      have A26 : ∀ j, (-2147483648) ≤ τ13.2.1 26 j ∧ τ13.2.1 26 j ≤ 2147483647 := fun j => hT.2 26 j
      have A27 : ∀ j, 0 ≤ τ13.2.1 27 j ∧ τ13.2.1 27 j ≤ 90000 := fun j => hT.2 27 j
      have A28 : ∀ j, 0 ≤ τ13.2.1 28 j ∧ τ13.2.1 28 j ≤ 60 := fun j => hT.2 28 j
      have A29 : ∀ j, 0 ≤ τ13.2.1 29 j ∧ τ13.2.1 29 j ≤ 1499 := fun j => hT.2 29 j
      have A30 : ∀ j, 0 ≤ τ13.2.1 30 j ∧ τ13.2.1 30 j ≤ 20000 := fun j => hT.2 30 j
      have A31 : ∀ j, 0 ≤ τ13.2.1 31 j ∧ τ13.2.1 31 j ≤ 20000 := fun j => hT.2 31 j
      have A32 : ∀ j, 0 ≤ τ13.2.1 32 j ∧ τ13.2.1 32 j ≤ 999999 := fun j => hT.2 32 j
      have A33 : ∀ j, 0 ≤ τ13.2.1 33 j ∧ τ13.2.1 33 j ≤ 20000 := fun j => hT.2 33 j
      have A34 : ∀ j, 0 ≤ τ13.2.1 34 j ∧ τ13.2.1 34 j ≤ 20000 := fun j => hT.2 34 j
      have A35 : ∀ j, 0 ≤ τ13.2.1 35 j ∧ τ13.2.1 35 j ≤ 1499 := fun j => hT.2 35 j
      have A36 : ∀ j, 0 ≤ τ13.2.1 36 j ∧ τ13.2.1 36 j ≤ 20000 := fun j => hT.2 36 j
      have A37 : ∀ j, 0 ≤ τ13.2.1 37 j ∧ τ13.2.1 37 j ≤ 19999 := fun j => hT.2 37 j
      have A44 : ∀ j, 0 ≤ τ13.2.1 44 j ∧ τ13.2.1 44 j ≤ 42000 := fun j => hT.2 44 j
      have A45 : ∀ j, 0 ≤ τ13.2.1 45 j ∧ τ13.2.1 45 j ≤ 1000 := fun j => hT.2 45 j
      have A49 : ∀ j, (-300) ≤ τ13.2.1 49 j ∧ τ13.2.1 49 j ≤ 67035 := fun j => hT.2 49 j
      have A51 : ∀ j, 0 ≤ τ13.2.1 51 j ∧ τ13.2.1 51 j ≤ 1499 := fun j => hT.2 51 j
      have A54 : ∀ j, 0 ≤ τ13.2.1 54 j ∧ τ13.2.1 54 j ≤ 999 := fun j => hT.2 54 j
      have v3 : 0 ≤ τ13.1 3 ∧ τ13.1 3 ≤ 2500 := hT.1 3
      have v4 : 0 ≤ τ13.1 4 ∧ τ13.1 4 ≤ 100 := hT.1 4
      have v5 : 0 ≤ τ13.1 5 ∧ τ13.1 5 ≤ 1000 := hT.1 5
      have v6 : 0 ≤ τ13.1 6 ∧ τ13.1 6 ≤ 30000 := hT.1 6
      have v7 : 0 ≤ τ13.1 7 ∧ τ13.1 7 ≤ 1500 := hT.1 7
      have v8 : 0 ≤ τ13.1 8 ∧ τ13.1 8 ≤ 1000 := hT.1 8
      have v9 : 0 ≤ τ13.1 9 ∧ τ13.1 9 ≤ 1500 := hT.1 9
      have v10 : 0 ≤ τ13.1 10 ∧ τ13.1 10 ≤ 1000 := hT.1 10
      have v11 : 0 ≤ τ13.1 11 ∧ τ13.1 11 ≤ 50 := hT.1 11
      have v12 : (-2147483648) ≤ τ13.1 12 ∧ τ13.1 12 ≤ 2147483647 := hT.1 12
      have v13 : 0 ≤ τ13.1 13 ∧ τ13.1 13 ≤ 90000 := hT.1 13
      have v14 : 0 ≤ τ13.1 14 ∧ τ13.1 14 ≤ 20000 := hT.1 14
      have v15 : 0 ≤ τ13.1 15 ∧ τ13.1 15 ≤ 20000 := hT.1 15
      have v16 : 0 ≤ τ13.1 16 ∧ τ13.1 16 ≤ 20000 := hT.1 16
      have v21 : 0 ≤ τ13.1 21 ∧ τ13.1 21 ≤ 20000 := hT.1 21
      have v22 : 0 ≤ τ13.1 22 ∧ τ13.1 22 ≤ 300 := hT.1 22
      have v23 : 0 ≤ τ13.1 23 ∧ τ13.1 23 ≤ 300 := hT.1 23
      have v24 : 0 ≤ τ13.1 24 ∧ τ13.1 24 ≤ 1499 := hT.1 24
      have v25 : 0 ≤ τ13.1 25 ∧ τ13.1 25 ≤ 3 := hT.1 25
      have v26 : 0 ≤ τ13.1 26 ∧ τ13.1 26 ≤ 5000010 := hT.1 26
      have v27 : 0 ≤ τ13.1 27 ∧ τ13.1 27 ≤ 1 := hT.1 27
      have v35 : 0 ≤ τ13.1 35 ∧ τ13.1 35 ≤ 7 := hT.1 35
      have v36 : 0 ≤ τ13.1 36 ∧ τ13.1 36 ≤ 1001 := hT.1 36
      have v37 : 0 ≤ τ13.1 37 ∧ τ13.1 37 ≤ 4 := hT.1 37
      have a14_7 : 0 ≤ τ13.2.1 14 (τ13.1 7) ∧ τ13.2.1 14 (τ13.1 7) ≤ 30000 := hT.2 14 _
      have a36_15 : 0 ≤ τ13.2.1 36 (τ13.1 15) ∧ τ13.2.1 36 (τ13.1 15) ≤ 20000 := hT.2 36 _
      have av13 : σ.1 13 ≤ τ13.1 13 := ag.1 13 (by decide)
      have av14 : σ.1 14 ≤ τ13.1 14 := ag.1 14 (by decide)
      exact ⟨hT, (show 0 ≤ x12 ∧ x12 ≤ 19 from by (first | assumption | omega | (simp only [st_s] <;> omega) | fail)), (show J_ht (τ13.1 3) (τ13.2.1 2) (τ13.2.1 3) (τ13.2.1 5) (τ13.2.1 6) from HT), (show J_mn (τ13.1 3) (τ13.1 5) ((τ13.1 7) + 1) (τ13.2.1 4) from MN), (show J_rks (τ13.1 5) (τ13.1 4) (τ13.2.1 10) (τ13.2.1 11) from RKS), (show J_vs (τ13.1 8) (τ13.1 5) (τ13.2.1 20) from VS), (show J_vs (τ13.1 6) (τ13.1 5) (τ13.2.1 15) from TX), (show J_va (τ13.1 8) 1000 (τ13.2.1 18) (τ13.2.1 20) from VA), (show J_mk (τ13.1 11) (τ13.1 8) (τ13.1 9) (τ13.1 10) (τ13.2.1 25) from MK), (show J_sc (τ13.1 7) (τ13.1 9) (τ13.2.1 13) (τ13.2.1 14) (τ13.2.1 15) (τ13.2.1 16) (τ13.2.1 22) (τ13.2.1 19) from SC), (show J_ff (τ13.1 5) (τ13.1 7) (τ13.2.1 9) (τ13.2.1 13) (τ13.2.1 14) (τ13.2.1 15) from FF), (show ∀ s : Int, τ13.2.1 26 s ≤ (τ13.1 12) from MT), (show J_all (τ13.1 7) (τ13.1 6) (τ13.1 13) (τ13.1 14) (τ13.1 15) (τ13.2.1 13) (τ13.2.1 14) (τ13.2.1 15) (τ13.2.1 16) (τ13.2.1 10) (τ13.2.1 27) (τ13.2.1 28) (τ13.2.1 29) (τ13.2.1 30) (τ13.2.1 31) (τ13.2.1 32) (τ13.2.1 33) (τ13.2.1 34) (τ13.2.1 35) (τ13.2.1 36) (τ13.2.1 37) from CJ), (show J_bp (τ13.2.1 44) (τ13.2.1 45) from BP), (show J_nl (τ13.1 3) (τ13.2.1 2) (τ13.2.1 3) (τ13.2.1 4) from NL), (show x12 = 0 → J_rs (τ13.1 35) (τ13.1 7) (τ13.1 6) (τ13.1 36) (τ13.1 37) (τ13.1 5) (τ13.1 8) (τ13.2.1 14) from by (first | exact fun z => absurd z (by decide) | exact q1_15 | exact q4_15 | exact q7_15 | (intro z; have w := q15_2 z; have rs := J_rs_0 p14 (by omega); unfold J_rs; rw [G14, W7]; omega) | (intro z; have rs := J_rs_0 p14 (by omega); have r1 := J_rs_1 p14 (by omega); unfold J_rs; rw [G14, W7]; omega) | (first | exact fun z => absurd z (by decide) | exact fun _ => RS | (intro z; have rs := p14; unfold J_rs at rs ⊢; omega) | (intro z; have rs := p14; unfold J_rs at rs ⊢; rw [G14, W7]; omega)) | fail)), (show x12 = 0 → J_uc (τ13.1 35) (τ13.1 36) (τ13.2.1 10 (τ13.2.1 15 (τ13.2.1 14 (τ13.1 7)))) from by (first | exact fun z => absurd z (by decide) | exact q1_16 | exact q4_16 | exact q7_16 | (intro z y y2; exfalso; omega) | (intro z y; have w := q15_2 z; exfalso; omega) | (first | exact fun z => absurd z (by decide) | (intro z y; exfalso; omega) | exact fun _ => UC | exact fun _ => uc | (intro z y y2; exact uc (by omega) (by omega)) | (intro z y y2; exfalso; omega) | (intro z y y2; rw [G10, G14, G15, W7]; exact uc (by omega) (by omega))) | fail)), (show x12 = 0 → J_dj (τ13.1 35) (τ13.1 36) (τ13.2.1 54) from by (first | exact fun z => absurd z (by decide) | exact q1_17 | exact q4_17 | exact q7_17 | (intro z y; rw [show τ17.1 36 = 0 from (q15_2 z).1]; exact j_in0 _ _) | (first | exact fun z => absurd z (by decide) | (intro z y; exfalso; omega) | exact fun _ => DJs | exact fun _ => dj) | fail)), (show x12 = 0 → J_it (τ13.1 35) (τ13.1 7) (τ13.1 6) (τ13.1 37) (τ13.2.1 14) (τ13.2.1 15) (τ13.2.1 16) (τ13.2.1 19) from by (first | exact fun z => absurd z (by decide) | exact q1_18 | exact q4_18 | exact q7_18 | (intro z y; have w := q15_2 z; exfalso; omega) | (intro z y; have rs := J_rs_0 p14 (by omega); exact J_ip0 (by rw [W6, G14, W7]; omega)) | (first | exact fun z => absurd z (by decide) | (intro z y; exfalso; omega) | exact fun _ => IPs | exact fun _ => ipx | (intro z y; exact ipx (by omega)) | (intro z y; rw [W7, W6, W37, G14, G15, G16, G19]; exact ipx (by omega))) | fail)), (show x12 = 0 → J_hu (τ13.1 35) (τ13.1 13) (τ13.1 7) from by (first | exact fun z => absurd z (by decide) | exact q1_19 | exact q4_19 | exact q7_19 | (intro z; have hu := hux; unfold J_hu at hu ⊢; omega) | (first | exact fun z => absurd z (by decide) | exact fun _ => HUs | (intro z; have hu := hux; unfold J_hu at hu ⊢; omega)) | fail)), (show x12 = 0 → J_ft (τ13.1 35) (τ13.1 24) (τ13.1 7) (τ13.1 13) (τ13.1 14) (τ13.2.1 13) (τ13.2.1 14) (τ13.2.1 15) (τ13.2.1 16) (τ13.2.1 27) (τ13.2.1 28) (τ13.2.1 29) (τ13.2.1 30) (τ13.2.1 31) (τ13.2.1 32) from by (first | exact fun z => absurd z (by decide) | exact q1_20 | exact q4_20 | exact q7_20 | (intro z y; have w := q15_2 z; exfalso; omega) | (intro z y; exfalso; omega) | (first | exact fun z => absurd z (by decide) | (intro z y; exfalso; omega) | exact fun _ => FRs | exact fun _ => frx | (intro z y; exact frx (by omega)) | (intro z y; have w := frx (by omega); rw [W7, W13, W14, W24, G13, G14, G15, G16, G27, G28, G29, G30, G31, G32]; exact w)) | fail)), (show x12 = 0 → J_ss (τ13.1 35) (τ13.1 24) (τ13.1 21) (τ13.1 23) (τ13.1 22) (τ13.1 27) (τ13.1 26) (τ13.1 25) (τ13.1 16) (τ13.2.1 49) (τ13.2.1 51) from by (first | exact fun z => absurd z (by decide) | exact q1_21 | exact q4_21 | exact q7_21 | (intro z y; have w := q15_2 z; exfalso; omega) | (intro z y; exfalso; omega) | (first | exact fun z => absurd z (by decide) | (intro z y; exfalso; omega) | exact fun _ => SPs | exact fun _ => spx | (intro z y; exact spx (by omega))) | fail)), (show x12 = 0 → (τ13.1 15) ≤ (τ13.1 16) ∧ τ13.2.1 36 (τ13.1 15) ≤ (τ13.1 16) from by (first | exact fun z => absurd z (by decide) | exact q1_22 | exact q4_22 | exact q7_22 | (intro z; first | exact sux | omega) | fail)), (show x12 = 0 → (τ13.1 9) ≤ (τ13.1 7) from by (first | exact fun z => absurd z (by decide) | exact q1_23 | exact q4_23 | exact q7_23 | (intro z; omega) | fail)), (show j_rr ((σ.1 5)) (σ.2.1 10) (τ13.2.1 10) from by (first | exact j_rr0 _ _ | exact q1_24 | exact q4_24 | exact q7_24 | (rw [G10]; exact j_rr0 _ _) | fail)), (show j_eq (σ.2.1 36 (σ.1 15)) (σ.2.1 37) (τ13.2.1 37) from CH), (show (τ13.1 12) ≤ (σ.1 12) + 1 from by (first | assumption | omega | (simp only [st_s] <;> omega) | fail)), (show c_Y σ τ13 from by (first | exact c_Y0 _ | exact c_Y_g W4 G11 G20 G22 G25 | exact q1_27 | exact q4_27 | exact q7_27 | exact c_Y_g (by omega) (by rw [g11_τ4]) (by rw [g20_τ4]) (by rw [g22_τ4]) (by rw [g25_τ4]) | exact c_Y_g (by omega) (by rw [g11_τ13]) (by rw [g20_τ13]) (by rw [g22_τ13]) (by rw [g25_τ13]) | exact c_Y_g (by omega) (by rw [g11_τ17]) (by rw [g20_τ17]) (by rw [g22_τ17]) (by rw [g25_τ17]) | fail)), ag⟩
  ·
    refine h92 _ _ ?_
    refine ⟨fun c14 => ?_, fun c14 => ?_⟩
    ·
      exact ⟨hT, (show 0 ≤ 4 ∧ 4 ≤ 19 from by (first | assumption | omega | (simp only [st_s] <;> omega) | fail)), (show J_ht (σ.1 3) (σ.2.1 2) (σ.2.1 3) (σ.2.1 5) (σ.2.1 6) from HT), (show J_mn (σ.1 3) (σ.1 5) ((σ.1 7) + 1) (σ.2.1 4) from MN), (show J_rks (σ.1 5) (σ.1 4) (σ.2.1 10) (σ.2.1 11) from RKS), (show J_vs (σ.1 8) (σ.1 5) (σ.2.1 20) from VS), (show J_vs (σ.1 6) (σ.1 5) (σ.2.1 15) from TX), (show J_va (σ.1 8) 1000 (σ.2.1 18) (σ.2.1 20) from VA), (show J_mk (σ.1 11) (σ.1 8) (σ.1 9) (σ.1 10) (σ.2.1 25) from MK), (show J_sc (σ.1 7) (σ.1 9) (σ.2.1 13) (σ.2.1 14) (σ.2.1 15) (σ.2.1 16) (σ.2.1 22) (σ.2.1 19) from SC), (show J_ff (σ.1 5) (σ.1 7) (σ.2.1 9) (σ.2.1 13) (σ.2.1 14) (σ.2.1 15) from FF), (show ∀ s : Int, σ.2.1 26 s ≤ (σ.1 12) from MT), (show J_all (σ.1 7) (σ.1 6) (σ.1 13) (σ.1 14) (σ.1 15) (σ.2.1 13) (σ.2.1 14) (σ.2.1 15) (σ.2.1 16) (σ.2.1 10) (σ.2.1 27) (σ.2.1 28) (σ.2.1 29) (σ.2.1 30) (σ.2.1 31) (σ.2.1 32) (σ.2.1 33) (σ.2.1 34) (σ.2.1 35) (σ.2.1 36) (σ.2.1 37) from CJ), (show J_bp (σ.2.1 44) (σ.2.1 45) from BP), (show J_nl (σ.1 3) (σ.2.1 2) (σ.2.1 3) (σ.2.1 4) from NL), (show 4 = 0 → J_rs (σ.1 35) (σ.1 7) (σ.1 6) (σ.1 36) (σ.1 37) (σ.1 5) (σ.1 8) (σ.2.1 14) from by (first | exact fun z => absurd z (by decide) | exact q1_15 | exact q4_15 | exact q7_15 | (intro z; have w := q15_2 z; have rs := J_rs_0 p14 (by omega); unfold J_rs; rw [G14, W7]; omega) | (intro z; have rs := J_rs_0 p14 (by omega); have r1 := J_rs_1 p14 (by omega); unfold J_rs; rw [G14, W7]; omega) | (first | exact fun z => absurd z (by decide) | exact fun _ => RS | (intro z; have rs := p14; unfold J_rs at rs ⊢; omega) | (intro z; have rs := p14; unfold J_rs at rs ⊢; rw [G14, W7]; omega)) | fail)), (show 4 = 0 → J_uc (σ.1 35) (σ.1 36) (σ.2.1 10 (σ.2.1 15 (σ.2.1 14 (σ.1 7)))) from by (first | exact fun z => absurd z (by decide) | exact q1_16 | exact q4_16 | exact q7_16 | (intro z y y2; exfalso; omega) | (intro z y; have w := q15_2 z; exfalso; omega) | (first | exact fun z => absurd z (by decide) | (intro z y; exfalso; omega) | exact fun _ => UC | exact fun _ => uc | (intro z y y2; exact uc (by omega) (by omega)) | (intro z y y2; exfalso; omega) | (intro z y y2; rw [G10, G14, G15, W7]; exact uc (by omega) (by omega))) | fail)), (show 4 = 0 → J_dj (σ.1 35) (σ.1 36) (σ.2.1 54) from by (first | exact fun z => absurd z (by decide) | exact q1_17 | exact q4_17 | exact q7_17 | (intro z y; rw [show τ17.1 36 = 0 from (q15_2 z).1]; exact j_in0 _ _) | (first | exact fun z => absurd z (by decide) | (intro z y; exfalso; omega) | exact fun _ => DJs | exact fun _ => dj) | fail)), (show 4 = 0 → J_it (σ.1 35) (σ.1 7) (σ.1 6) (σ.1 37) (σ.2.1 14) (σ.2.1 15) (σ.2.1 16) (σ.2.1 19) from by (first | exact fun z => absurd z (by decide) | exact q1_18 | exact q4_18 | exact q7_18 | (intro z y; have w := q15_2 z; exfalso; omega) | (intro z y; have rs := J_rs_0 p14 (by omega); exact J_ip0 (by rw [W6, G14, W7]; omega)) | (first | exact fun z => absurd z (by decide) | (intro z y; exfalso; omega) | exact fun _ => IPs | exact fun _ => ipx | (intro z y; exact ipx (by omega)) | (intro z y; rw [W7, W6, W37, G14, G15, G16, G19]; exact ipx (by omega))) | fail)), (show 4 = 0 → J_hu (σ.1 35) (σ.1 13) (σ.1 7) from by (first | exact fun z => absurd z (by decide) | exact q1_19 | exact q4_19 | exact q7_19 | (intro z; have hu := hux; unfold J_hu at hu ⊢; omega) | (first | exact fun z => absurd z (by decide) | exact fun _ => HUs | (intro z; have hu := hux; unfold J_hu at hu ⊢; omega)) | fail)), (show 4 = 0 → J_ft (σ.1 35) (σ.1 24) (σ.1 7) (σ.1 13) (σ.1 14) (σ.2.1 13) (σ.2.1 14) (σ.2.1 15) (σ.2.1 16) (σ.2.1 27) (σ.2.1 28) (σ.2.1 29) (σ.2.1 30) (σ.2.1 31) (σ.2.1 32) from by (first | exact fun z => absurd z (by decide) | exact q1_20 | exact q4_20 | exact q7_20 | (intro z y; have w := q15_2 z; exfalso; omega) | (intro z y; exfalso; omega) | (first | exact fun z => absurd z (by decide) | (intro z y; exfalso; omega) | exact fun _ => FRs | exact fun _ => frx | (intro z y; exact frx (by omega)) | (intro z y; have w := frx (by omega); rw [W7, W13, W14, W24, G13, G14, G15, G16, G27, G28, G29, G30, G31, G32]; exact w)) | fail)), (show 4 = 0 → J_ss (σ.1 35) (σ.1 24) (σ.1 21) (σ.1 23) (σ.1 22) (σ.1 27) (σ.1 26) (σ.1 25) (σ.1 16) (σ.2.1 49) (σ.2.1 51) from by (first | exact fun z => absurd z (by decide) | exact q1_21 | exact q4_21 | exact q7_21 | (intro z y; have w := q15_2 z; exfalso; omega) | (intro z y; exfalso; omega) | (first | exact fun z => absurd z (by decide) | (intro z y; exfalso; omega) | exact fun _ => SPs | exact fun _ => spx | (intro z y; exact spx (by omega))) | fail)), (show 4 = 0 → (σ.1 15) ≤ (σ.1 16) ∧ σ.2.1 36 (σ.1 15) ≤ (σ.1 16) from by (first | exact fun z => absurd z (by decide) | exact q1_22 | exact q4_22 | exact q7_22 | (intro z; first | exact sux | omega) | fail)), (show 4 = 0 → (σ.1 9) ≤ (σ.1 7) from by (first | exact fun z => absurd z (by decide) | exact q1_23 | exact q4_23 | exact q7_23 | (intro z; omega) | fail)), (show j_rr ((σ.1 5)) (σ.2.1 10) (σ.2.1 10) from by (first | exact j_rr0 _ _ | exact q1_24 | exact q4_24 | exact q7_24 | (rw [G10]; exact j_rr0 _ _) | fail)), (show j_eq (σ.2.1 36 (σ.1 15)) (σ.2.1 37) (σ.2.1 37) from CH), (show (σ.1 12) ≤ (σ.1 12) + 1 from by (first | assumption | omega | (simp only [st_s] <;> omega) | fail)), (show c_Y σ σ from by (first | exact c_Y0 _ | exact c_Y_g W4 G11 G20 G22 G25 | exact q1_27 | exact q4_27 | exact q7_27 | exact c_Y_g (by omega) (by rw [g11_τ4]) (by rw [g20_τ4]) (by rw [g22_τ4]) (by rw [g25_τ4]) | exact c_Y_g (by omega) (by rw [g11_τ13]) (by rw [g20_τ13]) (by rw [g22_τ13]) (by rw [g25_τ13]) | exact c_Y_g (by omega) (by rw [g11_τ17]) (by rw [g20_τ17]) (by rw [g22_τ17]) (by rw [g25_τ17]) | fail)), ag⟩
    ·
      refine ⟨_, K2_X7_declaration hT, ?_⟩
      intro x16 τ17 r_x16 hn_τ17 hf_τ17 hq
      obtain ⟨hT, q15_1, q15_2⟩ := hq
      replace q15_1 : 0 ≤ x16 ∧ x16 ≤ 19 := q15_1
      replace q15_2 : x16 = 0 → (τ17.1 36) = 0 ∧ 2 ≤ (τ17.1 35) ∧ (τ17.1 35) ≤ 4 := q15_2
      replace ag : c_ag σ τ17 := ag_r ag hf_τ17 rfl rfl
      have w3_τ17 : τ17.1 3 = σ.1 3 := hf_τ17.1 3 (by decide)
      have w4_τ17 : τ17.1 4 = σ.1 4 := hf_τ17.1 4 (by decide)
      have w5_τ17 : τ17.1 5 = σ.1 5 := hf_τ17.1 5 (by decide)
      have w6_τ17 : τ17.1 6 = σ.1 6 := hf_τ17.1 6 (by decide)
      have w7_τ17 : τ17.1 7 = σ.1 7 := hf_τ17.1 7 (by decide)
      have w8_τ17 : τ17.1 8 = σ.1 8 := hf_τ17.1 8 (by decide)
      have w9_τ17 : τ17.1 9 = σ.1 9 := hf_τ17.1 9 (by decide)
      have w10_τ17 : τ17.1 10 = σ.1 10 := hf_τ17.1 10 (by decide)
      have w11_τ17 : τ17.1 11 = σ.1 11 := hf_τ17.1 11 (by decide)
      have w12_τ17 : τ17.1 12 = σ.1 12 := hf_τ17.1 12 (by decide)
      have w13_τ17 : τ17.1 13 = σ.1 13 := hf_τ17.1 13 (by decide)
      have w14_τ17 : τ17.1 14 = σ.1 14 := hf_τ17.1 14 (by decide)
      have w15_τ17 : τ17.1 15 = σ.1 15 := hf_τ17.1 15 (by decide)
      have w16_τ17 : τ17.1 16 = σ.1 16 := hf_τ17.1 16 (by decide)
      have w21_τ17 : τ17.1 21 = σ.1 21 := hf_τ17.1 21 (by decide)
      have w22_τ17 : τ17.1 22 = σ.1 22 := hf_τ17.1 22 (by decide)
      have w23_τ17 : τ17.1 23 = σ.1 23 := hf_τ17.1 23 (by decide)
      have w24_τ17 : τ17.1 24 = σ.1 24 := hf_τ17.1 24 (by decide)
      have w25_τ17 : τ17.1 25 = σ.1 25 := hf_τ17.1 25 (by decide)
      have w26_τ17 : τ17.1 26 = σ.1 26 := hf_τ17.1 26 (by decide)
      have w27_τ17 : τ17.1 27 = σ.1 27 := hf_τ17.1 27 (by decide)
      have w37_τ17 : τ17.1 37 = σ.1 37 := hf_τ17.1 37 (by decide)
      have g2_τ17 : τ17.2.1 2 = σ.2.1 2 := hf_τ17.2.1 2 (by decide)
      have g3_τ17 : τ17.2.1 3 = σ.2.1 3 := hf_τ17.2.1 3 (by decide)
      have g4_τ17 : τ17.2.1 4 = σ.2.1 4 := hf_τ17.2.1 4 (by decide)
      have g5_τ17 : τ17.2.1 5 = σ.2.1 5 := hf_τ17.2.1 5 (by decide)
      have g6_τ17 : τ17.2.1 6 = σ.2.1 6 := hf_τ17.2.1 6 (by decide)
      have g9_τ17 : τ17.2.1 9 = σ.2.1 9 := hf_τ17.2.1 9 (by decide)
      have g10_τ17 : τ17.2.1 10 = σ.2.1 10 := hf_τ17.2.1 10 (by decide)
      have g11_τ17 : τ17.2.1 11 = σ.2.1 11 := hf_τ17.2.1 11 (by decide)
      have g13_τ17 : τ17.2.1 13 = σ.2.1 13 := hf_τ17.2.1 13 (by decide)
      have g14_τ17 : τ17.2.1 14 = σ.2.1 14 := hf_τ17.2.1 14 (by decide)
      have g15_τ17 : τ17.2.1 15 = σ.2.1 15 := hf_τ17.2.1 15 (by decide)
      have g16_τ17 : τ17.2.1 16 = σ.2.1 16 := hf_τ17.2.1 16 (by decide)
      have g18_τ17 : τ17.2.1 18 = σ.2.1 18 := hf_τ17.2.1 18 (by decide)
      have g19_τ17 : τ17.2.1 19 = σ.2.1 19 := hf_τ17.2.1 19 (by decide)
      have g20_τ17 : τ17.2.1 20 = σ.2.1 20 := hf_τ17.2.1 20 (by decide)
      have g22_τ17 : τ17.2.1 22 = σ.2.1 22 := hf_τ17.2.1 22 (by decide)
      have g25_τ17 : τ17.2.1 25 = σ.2.1 25 := hf_τ17.2.1 25 (by decide)
      have g26_τ17 : τ17.2.1 26 = σ.2.1 26 := hf_τ17.2.1 26 (by decide)
      have g27_τ17 : τ17.2.1 27 = σ.2.1 27 := hf_τ17.2.1 27 (by decide)
      have g28_τ17 : τ17.2.1 28 = σ.2.1 28 := hf_τ17.2.1 28 (by decide)
      have g29_τ17 : τ17.2.1 29 = σ.2.1 29 := hf_τ17.2.1 29 (by decide)
      have g30_τ17 : τ17.2.1 30 = σ.2.1 30 := hf_τ17.2.1 30 (by decide)
      have g31_τ17 : τ17.2.1 31 = σ.2.1 31 := hf_τ17.2.1 31 (by decide)
      have g32_τ17 : τ17.2.1 32 = σ.2.1 32 := hf_τ17.2.1 32 (by decide)
      have g33_τ17 : τ17.2.1 33 = σ.2.1 33 := hf_τ17.2.1 33 (by decide)
      have g34_τ17 : τ17.2.1 34 = σ.2.1 34 := hf_τ17.2.1 34 (by decide)
      have g35_τ17 : τ17.2.1 35 = σ.2.1 35 := hf_τ17.2.1 35 (by decide)
      have g36_τ17 : τ17.2.1 36 = σ.2.1 36 := hf_τ17.2.1 36 (by decide)
      have g37_τ17 : τ17.2.1 37 = σ.2.1 37 := hf_τ17.2.1 37 (by decide)
      have g44_τ17 : τ17.2.1 44 = σ.2.1 44 := hf_τ17.2.1 44 (by decide)
      have g45_τ17 : τ17.2.1 45 = σ.2.1 45 := hf_τ17.2.1 45 (by decide)
      have g49_τ17 : τ17.2.1 49 = σ.2.1 49 := hf_τ17.2.1 49 (by decide)
      have g51_τ17 : τ17.2.1 51 = σ.2.1 51 := hf_τ17.2.1 51 (by decide)
      have g54_τ17 : τ17.2.1 54 = σ.2.1 54 := hf_τ17.2.1 54 (by decide)
      have W3 : τ17.1 3 = σ.1 3 := by first | exact w3_τ17.trans W3 | omega
      have W4 : τ17.1 4 = σ.1 4 := by first | exact w4_τ17.trans W4 | omega
      have W5 : τ17.1 5 = σ.1 5 := by first | exact w5_τ17.trans W5 | omega
      have W6 : τ17.1 6 = σ.1 6 := by first | exact w6_τ17.trans W6 | omega
      have W7 : τ17.1 7 = σ.1 7 := by first | exact w7_τ17.trans W7 | omega
      have W15 : τ17.1 15 = σ.1 15 := by first | exact w15_τ17.trans W15 | omega
      have W16 : τ17.1 16 = σ.1 16 := by first | exact w16_τ17.trans W16 | omega
      have G2 : τ17.2.1 2 = σ.2.1 2 := (g2_τ17).trans G2
      have G3 : τ17.2.1 3 = σ.2.1 3 := (g3_τ17).trans G3
      have G4 : τ17.2.1 4 = σ.2.1 4 := (g4_τ17).trans G4
      have G5 : τ17.2.1 5 = σ.2.1 5 := (g5_τ17).trans G5
      have G6 : τ17.2.1 6 = σ.2.1 6 := (g6_τ17).trans G6
      have G9 : τ17.2.1 9 = σ.2.1 9 := (g9_τ17).trans G9
      have G10 : τ17.2.1 10 = σ.2.1 10 := (g10_τ17).trans G10
      have G11 : τ17.2.1 11 = σ.2.1 11 := (g11_τ17).trans G11
      have G13 : τ17.2.1 13 = σ.2.1 13 := (g13_τ17).trans G13
      have G14 : τ17.2.1 14 = σ.2.1 14 := (g14_τ17).trans G14
      have G15 : τ17.2.1 15 = σ.2.1 15 := (g15_τ17).trans G15
      have G16 : τ17.2.1 16 = σ.2.1 16 := (g16_τ17).trans G16
      have G20 : τ17.2.1 20 = σ.2.1 20 := (g20_τ17).trans G20
      have G22 : τ17.2.1 22 = σ.2.1 22 := (g22_τ17).trans G22
      have G33 : τ17.2.1 33 = σ.2.1 33 := (g33_τ17).trans G33
      have G34 : τ17.2.1 34 = σ.2.1 34 := (g34_τ17).trans G34
      have G35 : τ17.2.1 35 = σ.2.1 35 := (g35_τ17).trans G35
      have G36 : τ17.2.1 36 = σ.2.1 36 := (g36_τ17).trans G36
      have G37 : τ17.2.1 37 = σ.2.1 37 := (g37_τ17).trans G37
      have G44 : τ17.2.1 44 = σ.2.1 44 := (g44_τ17).trans G44
      have G45 : τ17.2.1 45 = σ.2.1 45 := (g45_τ17).trans G45
      have G49 : τ17.2.1 49 = σ.2.1 49 := (g49_τ17).trans G49
      have G51 : τ17.2.1 51 = σ.2.1 51 := (g51_τ17).trans G51
      have G54 : τ17.2.1 54 = σ.2.1 54 := (g54_τ17).trans G54
      have y14_7_τ17 : τ17.2.1 14 (τ17.1 7) = (σ.2.1 14) (σ.1 7) := by rw [g14_τ17, w7_τ17]
      have y36_15_τ17 : τ17.2.1 36 (τ17.1 15) = (σ.2.1 36) (σ.1 15) := by rw [g36_τ17, w15_τ17]
      have HT : J_ht (τ17.1 3) (τ17.2.1 2) (τ17.2.1 3) (τ17.2.1 5) (τ17.2.1 6) := by rw [show (J_ht (τ17.1 3) (τ17.2.1 2) (τ17.2.1 3) (τ17.2.1 5) (τ17.2.1 6)) = (J_ht (σ.1 3) (σ.2.1 2) (σ.2.1 3) (σ.2.1 5) (σ.2.1 6)) from by rw [w3_τ17, g2_τ17, g3_τ17, g5_τ17, g6_τ17]]; exact HT
      have NL : J_nl (τ17.1 3) (τ17.2.1 2) (τ17.2.1 3) (τ17.2.1 4) := by rw [show (J_nl (τ17.1 3) (τ17.2.1 2) (τ17.2.1 3) (τ17.2.1 4)) = (J_nl (σ.1 3) (σ.2.1 2) (σ.2.1 3) (σ.2.1 4)) from by rw [w3_τ17, g2_τ17, g3_τ17, g4_τ17]]; exact NL
      have MN : J_mn (τ17.1 3) (τ17.1 5) ((τ17.1 7) + 1) (τ17.2.1 4) := by rw [show (J_mn (τ17.1 3) (τ17.1 5) ((τ17.1 7) + 1) (τ17.2.1 4)) = (J_mn (σ.1 3) (σ.1 5) ((σ.1 7) + 1) (σ.2.1 4)) from by rw [w3_τ17, w5_τ17, w7_τ17, g4_τ17]]; exact MN
      have VA : J_va (τ17.1 8) 1000 (τ17.2.1 18) (τ17.2.1 20) := by rw [show (J_va (τ17.1 8) 1000 (τ17.2.1 18) (τ17.2.1 20)) = (J_va (σ.1 8) 1000 (σ.2.1 18) (σ.2.1 20)) from by rw [w8_τ17, g18_τ17, g20_τ17]]; exact VA
      have SC : J_sc (τ17.1 7) (τ17.1 9) (τ17.2.1 13) (τ17.2.1 14) (τ17.2.1 15) (τ17.2.1 16) (τ17.2.1 22) (τ17.2.1 19) := by rw [show (J_sc (τ17.1 7) (τ17.1 9) (τ17.2.1 13) (τ17.2.1 14) (τ17.2.1 15) (τ17.2.1 16) (τ17.2.1 22) (τ17.2.1 19)) = (J_sc (σ.1 7) (σ.1 9) (σ.2.1 13) (σ.2.1 14) (σ.2.1 15) (σ.2.1 16) (σ.2.1 22) (σ.2.1 19)) from by rw [w7_τ17, w9_τ17, g13_τ17, g14_τ17, g15_τ17, g16_τ17, g19_τ17, g22_τ17]]; exact SC
      have MK : J_mk (τ17.1 11) (τ17.1 8) (τ17.1 9) (τ17.1 10) (τ17.2.1 25) := by rw [show (J_mk (τ17.1 11) (τ17.1 8) (τ17.1 9) (τ17.1 10) (τ17.2.1 25)) = (J_mk (σ.1 11) (σ.1 8) (σ.1 9) (σ.1 10) (σ.2.1 25)) from by rw [w8_τ17, w9_τ17, w10_τ17, w11_τ17, g25_τ17]]; exact MK
      have FF : J_ff (τ17.1 5) (τ17.1 7) (τ17.2.1 9) (τ17.2.1 13) (τ17.2.1 14) (τ17.2.1 15) := by rw [show (J_ff (τ17.1 5) (τ17.1 7) (τ17.2.1 9) (τ17.2.1 13) (τ17.2.1 14) (τ17.2.1 15)) = (J_ff (σ.1 5) (σ.1 7) (σ.2.1 9) (σ.2.1 13) (σ.2.1 14) (σ.2.1 15)) from by rw [w5_τ17, w7_τ17, g9_τ17, g13_τ17, g14_τ17, g15_τ17]]; exact FF
      have MT : ∀ s : Int, τ17.2.1 26 s ≤ (τ17.1 12) := by rw [show (∀ s : Int, τ17.2.1 26 s ≤ (τ17.1 12)) = (∀ s : Int, σ.2.1 26 s ≤ (σ.1 12)) from by rw [w12_τ17, g26_τ17]]; exact MT
      have VS : J_vs (τ17.1 8) (τ17.1 5) (τ17.2.1 20) := by rw [show (J_vs (τ17.1 8) (τ17.1 5) (τ17.2.1 20)) = (J_vs (σ.1 8) (σ.1 5) (σ.2.1 20)) from by rw [w5_τ17, w8_τ17, g20_τ17]]; exact VS
      have TX : J_vs (τ17.1 6) (τ17.1 5) (τ17.2.1 15) := by rw [show (J_vs (τ17.1 6) (τ17.1 5) (τ17.2.1 15)) = (J_vs (σ.1 6) (σ.1 5) (σ.2.1 15)) from by rw [w5_τ17, w6_τ17, g15_τ17]]; exact TX
      have RKS : J_rks (τ17.1 5) (τ17.1 4) (τ17.2.1 10) (τ17.2.1 11) := by rw [show (J_rks (τ17.1 5) (τ17.1 4) (τ17.2.1 10) (τ17.2.1 11)) = (J_rks (σ.1 5) (σ.1 4) (σ.2.1 10) (σ.2.1 11)) from by rw [w4_τ17, w5_τ17, g10_τ17, g11_τ17]]; exact RKS
      have CJ : J_all (τ17.1 7) (τ17.1 6) (τ17.1 13) (τ17.1 14) (τ17.1 15) (τ17.2.1 13) (τ17.2.1 14) (τ17.2.1 15) (τ17.2.1 16) (τ17.2.1 10) (τ17.2.1 27) (τ17.2.1 28) (τ17.2.1 29) (τ17.2.1 30) (τ17.2.1 31) (τ17.2.1 32) (τ17.2.1 33) (τ17.2.1 34) (τ17.2.1 35) (τ17.2.1 36) (τ17.2.1 37) := by rw [show (J_all (τ17.1 7) (τ17.1 6) (τ17.1 13) (τ17.1 14) (τ17.1 15) (τ17.2.1 13) (τ17.2.1 14) (τ17.2.1 15) (τ17.2.1 16) (τ17.2.1 10) (τ17.2.1 27) (τ17.2.1 28) (τ17.2.1 29) (τ17.2.1 30) (τ17.2.1 31) (τ17.2.1 32) (τ17.2.1 33) (τ17.2.1 34) (τ17.2.1 35) (τ17.2.1 36) (τ17.2.1 37)) = (J_all (σ.1 7) (σ.1 6) (σ.1 13) (σ.1 14) (σ.1 15) (σ.2.1 13) (σ.2.1 14) (σ.2.1 15) (σ.2.1 16) (σ.2.1 10) (σ.2.1 27) (σ.2.1 28) (σ.2.1 29) (σ.2.1 30) (σ.2.1 31) (σ.2.1 32) (σ.2.1 33) (σ.2.1 34) (σ.2.1 35) (σ.2.1 36) (σ.2.1 37)) from by rw [w6_τ17, w7_τ17, w13_τ17, w14_τ17, w15_τ17, g10_τ17, g13_τ17, g14_τ17, g15_τ17, g16_τ17, g27_τ17, g28_τ17, g29_τ17, g30_τ17, g31_τ17, g32_τ17, g33_τ17, g34_τ17, g35_τ17, g36_τ17, g37_τ17]]; exact CJ
      have BP : J_bp (τ17.2.1 44) (τ17.2.1 45) := by rw [show (J_bp (τ17.2.1 44) (τ17.2.1 45)) = (J_bp (σ.2.1 44) (σ.2.1 45)) from by rw [g44_τ17, g45_τ17]]; exact BP
      have CH : j_eq (σ.2.1 36 (σ.1 15)) (σ.2.1 37) (τ17.2.1 37) := by rw [show (j_eq (σ.2.1 36 (σ.1 15)) (σ.2.1 37) (τ17.2.1 37)) = (j_eq (σ.2.1 36 (σ.1 15)) (σ.2.1 37) (σ.2.1 37)) from by rw [g37_τ17]]; exact CH
      have A2 : ∀ j, 0 ≤ τ17.2.1 2 j ∧ τ17.2.1 2 j ≤ 65535 := fun j => hT.2 2 j
      have A3 : ∀ j, 0 ≤ τ17.2.1 3 j ∧ τ17.2.1 3 j ≤ 30000 := fun j => hT.2 3 j
      have A4 : ∀ j, (-1000) ≤ τ17.2.1 4 j ∧ τ17.2.1 4 j ≤ 1499 := fun j => hT.2 4 j
      have A5 : ∀ j, 0 ≤ τ17.2.1 5 j ∧ τ17.2.1 5 j ≤ 2500 := fun j => hT.2 5 j
      have A6 : ∀ j, 0 ≤ τ17.2.1 6 j ∧ τ17.2.1 6 j ≤ 2500 := fun j => hT.2 6 j
      have A9 : ∀ j, (-1) ≤ τ17.2.1 9 j ∧ τ17.2.1 9 j ≤ 1499 := fun j => hT.2 9 j
      have A10 : ∀ j, (-1) ≤ τ17.2.1 10 j ∧ τ17.2.1 10 j ≤ 99 := fun j => hT.2 10 j
      have A11 : ∀ j, 0 ≤ τ17.2.1 11 j ∧ τ17.2.1 11 j ≤ 999 := fun j => hT.2 11 j
      have A13 : ∀ j, 0 ≤ τ17.2.1 13 j ∧ τ17.2.1 13 j ≤ 4 := fun j => hT.2 13 j
      have A14 : ∀ j, 0 ≤ τ17.2.1 14 j ∧ τ17.2.1 14 j ≤ 30000 := fun j => hT.2 14 j
      have A15 : ∀ j, 0 ≤ τ17.2.1 15 j ∧ τ17.2.1 15 j ≤ 999 := fun j => hT.2 15 j
      have A16 : ∀ j, (-1) ≤ τ17.2.1 16 j ∧ τ17.2.1 16 j ≤ 1499 := fun j => hT.2 16 j
      have A18 : ∀ j, 0 ≤ τ17.2.1 18 j ∧ τ17.2.1 18 j ≤ 1 := fun j => hT.2 18 j
      have A19 : ∀ j, (-1) ≤ τ17.2.1 19 j ∧ τ17.2.1 19 j ≤ 1499 := fun j => hT.2 19 j
      have A20 : ∀ j, 0 ≤ τ17.2.1 20 j ∧ τ17.2.1 20 j ≤ 999 := fun j => hT.2 20 j
      have A22 : ∀ j, 0 ≤ τ17.2.1 22 j ∧ τ17.2.1 22 j ≤ 1499 := fun j => hT.2 22 j
      have A26 : ∀ j, (-2147483648) ≤ τ17.2.1 26 j ∧ τ17.2.1 26 j ≤ 2147483647 := fun j => hT.2 26 j
      have A27 : ∀ j, 0 ≤ τ17.2.1 27 j ∧ τ17.2.1 27 j ≤ 90000 := fun j => hT.2 27 j
      have A28 : ∀ j, 0 ≤ τ17.2.1 28 j ∧ τ17.2.1 28 j ≤ 60 := fun j => hT.2 28 j
      have A29 : ∀ j, 0 ≤ τ17.2.1 29 j ∧ τ17.2.1 29 j ≤ 1499 := fun j => hT.2 29 j
      have A30 : ∀ j, 0 ≤ τ17.2.1 30 j ∧ τ17.2.1 30 j ≤ 20000 := fun j => hT.2 30 j
      have A31 : ∀ j, 0 ≤ τ17.2.1 31 j ∧ τ17.2.1 31 j ≤ 20000 := fun j => hT.2 31 j
      have A32 : ∀ j, 0 ≤ τ17.2.1 32 j ∧ τ17.2.1 32 j ≤ 999999 := fun j => hT.2 32 j
      have A33 : ∀ j, 0 ≤ τ17.2.1 33 j ∧ τ17.2.1 33 j ≤ 20000 := fun j => hT.2 33 j
      have A34 : ∀ j, 0 ≤ τ17.2.1 34 j ∧ τ17.2.1 34 j ≤ 20000 := fun j => hT.2 34 j
      have A35 : ∀ j, 0 ≤ τ17.2.1 35 j ∧ τ17.2.1 35 j ≤ 1499 := fun j => hT.2 35 j
      have A36 : ∀ j, 0 ≤ τ17.2.1 36 j ∧ τ17.2.1 36 j ≤ 20000 := fun j => hT.2 36 j
      have A37 : ∀ j, 0 ≤ τ17.2.1 37 j ∧ τ17.2.1 37 j ≤ 19999 := fun j => hT.2 37 j
      have A44 : ∀ j, 0 ≤ τ17.2.1 44 j ∧ τ17.2.1 44 j ≤ 42000 := fun j => hT.2 44 j
      have A45 : ∀ j, 0 ≤ τ17.2.1 45 j ∧ τ17.2.1 45 j ≤ 1000 := fun j => hT.2 45 j
      have A49 : ∀ j, (-300) ≤ τ17.2.1 49 j ∧ τ17.2.1 49 j ≤ 67035 := fun j => hT.2 49 j
      have A51 : ∀ j, 0 ≤ τ17.2.1 51 j ∧ τ17.2.1 51 j ≤ 1499 := fun j => hT.2 51 j
      have A54 : ∀ j, 0 ≤ τ17.2.1 54 j ∧ τ17.2.1 54 j ≤ 999 := fun j => hT.2 54 j
      have v3 : 0 ≤ τ17.1 3 ∧ τ17.1 3 ≤ 2500 := hT.1 3
      have v4 : 0 ≤ τ17.1 4 ∧ τ17.1 4 ≤ 100 := hT.1 4
      have v5 : 0 ≤ τ17.1 5 ∧ τ17.1 5 ≤ 1000 := hT.1 5
      have v6 : 0 ≤ τ17.1 6 ∧ τ17.1 6 ≤ 30000 := hT.1 6
      have v7 : 0 ≤ τ17.1 7 ∧ τ17.1 7 ≤ 1500 := hT.1 7
      have v8 : 0 ≤ τ17.1 8 ∧ τ17.1 8 ≤ 1000 := hT.1 8
      have v9 : 0 ≤ τ17.1 9 ∧ τ17.1 9 ≤ 1500 := hT.1 9
      have v10 : 0 ≤ τ17.1 10 ∧ τ17.1 10 ≤ 1000 := hT.1 10
      have v11 : 0 ≤ τ17.1 11 ∧ τ17.1 11 ≤ 50 := hT.1 11
      have v12 : (-2147483648) ≤ τ17.1 12 ∧ τ17.1 12 ≤ 2147483647 := hT.1 12
      have v13 : 0 ≤ τ17.1 13 ∧ τ17.1 13 ≤ 90000 := hT.1 13
      have v14 : 0 ≤ τ17.1 14 ∧ τ17.1 14 ≤ 20000 := hT.1 14
      have v15 : 0 ≤ τ17.1 15 ∧ τ17.1 15 ≤ 20000 := hT.1 15
      have v16 : 0 ≤ τ17.1 16 ∧ τ17.1 16 ≤ 20000 := hT.1 16
      have v21 : 0 ≤ τ17.1 21 ∧ τ17.1 21 ≤ 20000 := hT.1 21
      have v22 : 0 ≤ τ17.1 22 ∧ τ17.1 22 ≤ 300 := hT.1 22
      have v23 : 0 ≤ τ17.1 23 ∧ τ17.1 23 ≤ 300 := hT.1 23
      have v24 : 0 ≤ τ17.1 24 ∧ τ17.1 24 ≤ 1499 := hT.1 24
      have v25 : 0 ≤ τ17.1 25 ∧ τ17.1 25 ≤ 3 := hT.1 25
      have v26 : 0 ≤ τ17.1 26 ∧ τ17.1 26 ≤ 5000010 := hT.1 26
      have v27 : 0 ≤ τ17.1 27 ∧ τ17.1 27 ≤ 1 := hT.1 27
      have v35 : 0 ≤ τ17.1 35 ∧ τ17.1 35 ≤ 7 := hT.1 35
      have v36 : 0 ≤ τ17.1 36 ∧ τ17.1 36 ≤ 1001 := hT.1 36
      have v37 : 0 ≤ τ17.1 37 ∧ τ17.1 37 ≤ 4 := hT.1 37
      have a14_7 : 0 ≤ τ17.2.1 14 (τ17.1 7) ∧ τ17.2.1 14 (τ17.1 7) ≤ 30000 := hT.2 14 _
      have a36_15 : 0 ≤ τ17.2.1 36 (τ17.1 15) ∧ τ17.2.1 36 (τ17.1 15) ≤ 20000 := hT.2 36 _
      have av13 : σ.1 13 ≤ τ17.1 13 := ag.1 13 (by decide)
      have av14 : σ.1 14 ≤ τ17.1 14 := ag.1 14 (by decide)
      exact ⟨hT, (show 0 ≤ x16 ∧ x16 ≤ 19 from by (first | assumption | omega | (simp only [st_s] <;> omega) | fail)), (show J_ht (τ17.1 3) (τ17.2.1 2) (τ17.2.1 3) (τ17.2.1 5) (τ17.2.1 6) from HT), (show J_mn (τ17.1 3) (τ17.1 5) ((τ17.1 7) + 1) (τ17.2.1 4) from MN), (show J_rks (τ17.1 5) (τ17.1 4) (τ17.2.1 10) (τ17.2.1 11) from RKS), (show J_vs (τ17.1 8) (τ17.1 5) (τ17.2.1 20) from VS), (show J_vs (τ17.1 6) (τ17.1 5) (τ17.2.1 15) from TX), (show J_va (τ17.1 8) 1000 (τ17.2.1 18) (τ17.2.1 20) from VA), (show J_mk (τ17.1 11) (τ17.1 8) (τ17.1 9) (τ17.1 10) (τ17.2.1 25) from MK), (show J_sc (τ17.1 7) (τ17.1 9) (τ17.2.1 13) (τ17.2.1 14) (τ17.2.1 15) (τ17.2.1 16) (τ17.2.1 22) (τ17.2.1 19) from SC), (show J_ff (τ17.1 5) (τ17.1 7) (τ17.2.1 9) (τ17.2.1 13) (τ17.2.1 14) (τ17.2.1 15) from FF), (show ∀ s : Int, τ17.2.1 26 s ≤ (τ17.1 12) from MT), (show J_all (τ17.1 7) (τ17.1 6) (τ17.1 13) (τ17.1 14) (τ17.1 15) (τ17.2.1 13) (τ17.2.1 14) (τ17.2.1 15) (τ17.2.1 16) (τ17.2.1 10) (τ17.2.1 27) (τ17.2.1 28) (τ17.2.1 29) (τ17.2.1 30) (τ17.2.1 31) (τ17.2.1 32) (τ17.2.1 33) (τ17.2.1 34) (τ17.2.1 35) (τ17.2.1 36) (τ17.2.1 37) from CJ), (show J_bp (τ17.2.1 44) (τ17.2.1 45) from BP), (show J_nl (τ17.1 3) (τ17.2.1 2) (τ17.2.1 3) (τ17.2.1 4) from NL), (show x16 = 0 → J_rs (τ17.1 35) (τ17.1 7) (τ17.1 6) (τ17.1 36) (τ17.1 37) (τ17.1 5) (τ17.1 8) (τ17.2.1 14) from by (first | exact fun z => absurd z (by decide) | exact q1_15 | exact q4_15 | exact q7_15 | (intro z; have w := q15_2 z; have rs := J_rs_0 p14 (by omega); unfold J_rs; rw [G14, W7]; omega) | (intro z; have rs := J_rs_0 p14 (by omega); have r1 := J_rs_1 p14 (by omega); unfold J_rs; rw [G14, W7]; omega) | (first | exact fun z => absurd z (by decide) | exact fun _ => RS | (intro z; have rs := p14; unfold J_rs at rs ⊢; omega) | (intro z; have rs := p14; unfold J_rs at rs ⊢; rw [G14, W7]; omega)) | fail)), (show x16 = 0 → J_uc (τ17.1 35) (τ17.1 36) (τ17.2.1 10 (τ17.2.1 15 (τ17.2.1 14 (τ17.1 7)))) from by (first | exact fun z => absurd z (by decide) | exact q1_16 | exact q4_16 | exact q7_16 | (intro z y y2; exfalso; omega) | (intro z y; have w := q15_2 z; exfalso; omega) | (first | exact fun z => absurd z (by decide) | (intro z y; exfalso; omega) | exact fun _ => UC | exact fun _ => uc | (intro z y y2; exact uc (by omega) (by omega)) | (intro z y y2; exfalso; omega) | (intro z y y2; rw [G10, G14, G15, W7]; exact uc (by omega) (by omega))) | fail)), (show x16 = 0 → J_dj (τ17.1 35) (τ17.1 36) (τ17.2.1 54) from by (first | exact fun z => absurd z (by decide) | exact q1_17 | exact q4_17 | exact q7_17 | (intro z y; rw [show τ17.1 36 = 0 from (q15_2 z).1]; exact j_in0 _ _) | (first | exact fun z => absurd z (by decide) | (intro z y; exfalso; omega) | exact fun _ => DJs | exact fun _ => dj) | fail)), (show x16 = 0 → J_it (τ17.1 35) (τ17.1 7) (τ17.1 6) (τ17.1 37) (τ17.2.1 14) (τ17.2.1 15) (τ17.2.1 16) (τ17.2.1 19) from by (first | exact fun z => absurd z (by decide) | exact q1_18 | exact q4_18 | exact q7_18 | (intro z y; have w := q15_2 z; exfalso; omega) | (intro z y; have rs := J_rs_0 p14 (by omega); exact J_ip0 (by rw [W6, G14, W7]; omega)) | (first | exact fun z => absurd z (by decide) | (intro z y; exfalso; omega) | exact fun _ => IPs | exact fun _ => ipx | (intro z y; exact ipx (by omega)) | (intro z y; rw [W7, W6, W37, G14, G15, G16, G19]; exact ipx (by omega))) | fail)), (show x16 = 0 → J_hu (τ17.1 35) (τ17.1 13) (τ17.1 7) from by (first | exact fun z => absurd z (by decide) | exact q1_19 | exact q4_19 | exact q7_19 | (intro z; have hu := hux; unfold J_hu at hu ⊢; omega) | (first | exact fun z => absurd z (by decide) | exact fun _ => HUs | (intro z; have hu := hux; unfold J_hu at hu ⊢; omega)) | fail)), (show x16 = 0 → J_ft (τ17.1 35) (τ17.1 24) (τ17.1 7) (τ17.1 13) (τ17.1 14) (τ17.2.1 13) (τ17.2.1 14) (τ17.2.1 15) (τ17.2.1 16) (τ17.2.1 27) (τ17.2.1 28) (τ17.2.1 29) (τ17.2.1 30) (τ17.2.1 31) (τ17.2.1 32) from by (first | exact fun z => absurd z (by decide) | exact q1_20 | exact q4_20 | exact q7_20 | (intro z y; have w := q15_2 z; exfalso; omega) | (intro z y; exfalso; omega) | (first | exact fun z => absurd z (by decide) | (intro z y; exfalso; omega) | exact fun _ => FRs | exact fun _ => frx | (intro z y; exact frx (by omega)) | (intro z y; have w := frx (by omega); rw [W7, W13, W14, W24, G13, G14, G15, G16, G27, G28, G29, G30, G31, G32]; exact w)) | fail)), (show x16 = 0 → J_ss (τ17.1 35) (τ17.1 24) (τ17.1 21) (τ17.1 23) (τ17.1 22) (τ17.1 27) (τ17.1 26) (τ17.1 25) (τ17.1 16) (τ17.2.1 49) (τ17.2.1 51) from by (first | exact fun z => absurd z (by decide) | exact q1_21 | exact q4_21 | exact q7_21 | (intro z y; have w := q15_2 z; exfalso; omega) | (intro z y; exfalso; omega) | (first | exact fun z => absurd z (by decide) | (intro z y; exfalso; omega) | exact fun _ => SPs | exact fun _ => spx | (intro z y; exact spx (by omega))) | fail)), (show x16 = 0 → (τ17.1 15) ≤ (τ17.1 16) ∧ τ17.2.1 36 (τ17.1 15) ≤ (τ17.1 16) from by (first | exact fun z => absurd z (by decide) | exact q1_22 | exact q4_22 | exact q7_22 | (intro z; first | exact sux | omega) | fail)), (show x16 = 0 → (τ17.1 9) ≤ (τ17.1 7) from by (first | exact fun z => absurd z (by decide) | exact q1_23 | exact q4_23 | exact q7_23 | (intro z; omega) | fail)), (show j_rr ((σ.1 5)) (σ.2.1 10) (τ17.2.1 10) from by (first | exact j_rr0 _ _ | exact q1_24 | exact q4_24 | exact q7_24 | (rw [G10]; exact j_rr0 _ _) | fail)), (show j_eq (σ.2.1 36 (σ.1 15)) (σ.2.1 37) (τ17.2.1 37) from CH), (show (τ17.1 12) ≤ (σ.1 12) + 1 from by (first | assumption | omega | (simp only [st_s] <;> omega) | fail)), (show c_Y σ τ17 from by (first | exact c_Y0 _ | exact c_Y_g W4 G11 G20 G22 G25 | exact q1_27 | exact q4_27 | exact q7_27 | exact c_Y_g (by omega) (by rw [g11_τ4]) (by rw [g20_τ4]) (by rw [g22_τ4]) (by rw [g25_τ4]) | exact c_Y_g (by omega) (by rw [g11_τ13]) (by rw [g20_τ13]) (by rw [g22_τ13]) (by rw [g25_τ13]) | exact c_Y_g (by omega) (by rw [g11_τ17]) (by rw [g20_τ17]) (by rw [g22_τ17]) (by rw [g25_τ17]) | fail)), ag⟩
  ·
    refine h92 _ _ ?_
    refine ⟨fun c14 => ?_, fun c14 => ?_⟩
    ·
      exact ⟨hT, (show 0 ≤ 4 ∧ 4 ≤ 19 from by (first | assumption | omega | (simp only [st_s] <;> omega) | fail)), (show J_ht (σ.1 3) (σ.2.1 2) (σ.2.1 3) (σ.2.1 5) (σ.2.1 6) from HT), (show J_mn (σ.1 3) (σ.1 5) ((σ.1 7) + 1) (σ.2.1 4) from MN), (show J_rks (σ.1 5) (σ.1 4) (σ.2.1 10) (σ.2.1 11) from RKS), (show J_vs (σ.1 8) (σ.1 5) (σ.2.1 20) from VS), (show J_vs (σ.1 6) (σ.1 5) (σ.2.1 15) from TX), (show J_va (σ.1 8) 1000 (σ.2.1 18) (σ.2.1 20) from VA), (show J_mk (σ.1 11) (σ.1 8) (σ.1 9) (σ.1 10) (σ.2.1 25) from MK), (show J_sc (σ.1 7) (σ.1 9) (σ.2.1 13) (σ.2.1 14) (σ.2.1 15) (σ.2.1 16) (σ.2.1 22) (σ.2.1 19) from SC), (show J_ff (σ.1 5) (σ.1 7) (σ.2.1 9) (σ.2.1 13) (σ.2.1 14) (σ.2.1 15) from FF), (show ∀ s : Int, σ.2.1 26 s ≤ (σ.1 12) from MT), (show J_all (σ.1 7) (σ.1 6) (σ.1 13) (σ.1 14) (σ.1 15) (σ.2.1 13) (σ.2.1 14) (σ.2.1 15) (σ.2.1 16) (σ.2.1 10) (σ.2.1 27) (σ.2.1 28) (σ.2.1 29) (σ.2.1 30) (σ.2.1 31) (σ.2.1 32) (σ.2.1 33) (σ.2.1 34) (σ.2.1 35) (σ.2.1 36) (σ.2.1 37) from CJ), (show J_bp (σ.2.1 44) (σ.2.1 45) from BP), (show J_nl (σ.1 3) (σ.2.1 2) (σ.2.1 3) (σ.2.1 4) from NL), (show 4 = 0 → J_rs (σ.1 35) (σ.1 7) (σ.1 6) (σ.1 36) (σ.1 37) (σ.1 5) (σ.1 8) (σ.2.1 14) from by (first | exact fun z => absurd z (by decide) | exact q1_15 | exact q4_15 | exact q7_15 | (intro z; have w := q15_2 z; have rs := J_rs_0 p14 (by omega); unfold J_rs; rw [G14, W7]; omega) | (intro z; have rs := J_rs_0 p14 (by omega); have r1 := J_rs_1 p14 (by omega); unfold J_rs; rw [G14, W7]; omega) | (first | exact fun z => absurd z (by decide) | exact fun _ => RS | (intro z; have rs := p14; unfold J_rs at rs ⊢; omega) | (intro z; have rs := p14; unfold J_rs at rs ⊢; rw [G14, W7]; omega)) | fail)), (show 4 = 0 → J_uc (σ.1 35) (σ.1 36) (σ.2.1 10 (σ.2.1 15 (σ.2.1 14 (σ.1 7)))) from by (first | exact fun z => absurd z (by decide) | exact q1_16 | exact q4_16 | exact q7_16 | (intro z y y2; exfalso; omega) | (intro z y; have w := q15_2 z; exfalso; omega) | (first | exact fun z => absurd z (by decide) | (intro z y; exfalso; omega) | exact fun _ => UC | exact fun _ => uc | (intro z y y2; exact uc (by omega) (by omega)) | (intro z y y2; exfalso; omega) | (intro z y y2; rw [G10, G14, G15, W7]; exact uc (by omega) (by omega))) | fail)), (show 4 = 0 → J_dj (σ.1 35) (σ.1 36) (σ.2.1 54) from by (first | exact fun z => absurd z (by decide) | exact q1_17 | exact q4_17 | exact q7_17 | (intro z y; rw [show τ17.1 36 = 0 from (q15_2 z).1]; exact j_in0 _ _) | (first | exact fun z => absurd z (by decide) | (intro z y; exfalso; omega) | exact fun _ => DJs | exact fun _ => dj) | fail)), (show 4 = 0 → J_it (σ.1 35) (σ.1 7) (σ.1 6) (σ.1 37) (σ.2.1 14) (σ.2.1 15) (σ.2.1 16) (σ.2.1 19) from by (first | exact fun z => absurd z (by decide) | exact q1_18 | exact q4_18 | exact q7_18 | (intro z y; have w := q15_2 z; exfalso; omega) | (intro z y; have rs := J_rs_0 p14 (by omega); exact J_ip0 (by rw [W6, G14, W7]; omega)) | (first | exact fun z => absurd z (by decide) | (intro z y; exfalso; omega) | exact fun _ => IPs | exact fun _ => ipx | (intro z y; exact ipx (by omega)) | (intro z y; rw [W7, W6, W37, G14, G15, G16, G19]; exact ipx (by omega))) | fail)), (show 4 = 0 → J_hu (σ.1 35) (σ.1 13) (σ.1 7) from by (first | exact fun z => absurd z (by decide) | exact q1_19 | exact q4_19 | exact q7_19 | (intro z; have hu := hux; unfold J_hu at hu ⊢; omega) | (first | exact fun z => absurd z (by decide) | exact fun _ => HUs | (intro z; have hu := hux; unfold J_hu at hu ⊢; omega)) | fail)), (show 4 = 0 → J_ft (σ.1 35) (σ.1 24) (σ.1 7) (σ.1 13) (σ.1 14) (σ.2.1 13) (σ.2.1 14) (σ.2.1 15) (σ.2.1 16) (σ.2.1 27) (σ.2.1 28) (σ.2.1 29) (σ.2.1 30) (σ.2.1 31) (σ.2.1 32) from by (first | exact fun z => absurd z (by decide) | exact q1_20 | exact q4_20 | exact q7_20 | (intro z y; have w := q15_2 z; exfalso; omega) | (intro z y; exfalso; omega) | (first | exact fun z => absurd z (by decide) | (intro z y; exfalso; omega) | exact fun _ => FRs | exact fun _ => frx | (intro z y; exact frx (by omega)) | (intro z y; have w := frx (by omega); rw [W7, W13, W14, W24, G13, G14, G15, G16, G27, G28, G29, G30, G31, G32]; exact w)) | fail)), (show 4 = 0 → J_ss (σ.1 35) (σ.1 24) (σ.1 21) (σ.1 23) (σ.1 22) (σ.1 27) (σ.1 26) (σ.1 25) (σ.1 16) (σ.2.1 49) (σ.2.1 51) from by (first | exact fun z => absurd z (by decide) | exact q1_21 | exact q4_21 | exact q7_21 | (intro z y; have w := q15_2 z; exfalso; omega) | (intro z y; exfalso; omega) | (first | exact fun z => absurd z (by decide) | (intro z y; exfalso; omega) | exact fun _ => SPs | exact fun _ => spx | (intro z y; exact spx (by omega))) | fail)), (show 4 = 0 → (σ.1 15) ≤ (σ.1 16) ∧ σ.2.1 36 (σ.1 15) ≤ (σ.1 16) from by (first | exact fun z => absurd z (by decide) | exact q1_22 | exact q4_22 | exact q7_22 | (intro z; first | exact sux | omega) | fail)), (show 4 = 0 → (σ.1 9) ≤ (σ.1 7) from by (first | exact fun z => absurd z (by decide) | exact q1_23 | exact q4_23 | exact q7_23 | (intro z; omega) | fail)), (show j_rr ((σ.1 5)) (σ.2.1 10) (σ.2.1 10) from by (first | exact j_rr0 _ _ | exact q1_24 | exact q4_24 | exact q7_24 | (rw [G10]; exact j_rr0 _ _) | fail)), (show j_eq (σ.2.1 36 (σ.1 15)) (σ.2.1 37) (σ.2.1 37) from CH), (show (σ.1 12) ≤ (σ.1 12) + 1 from by (first | assumption | omega | (simp only [st_s] <;> omega) | fail)), (show c_Y σ σ from by (first | exact c_Y0 _ | exact c_Y_g W4 G11 G20 G22 G25 | exact q1_27 | exact q4_27 | exact q7_27 | exact c_Y_g (by omega) (by rw [g11_τ4]) (by rw [g20_τ4]) (by rw [g22_τ4]) (by rw [g25_τ4]) | exact c_Y_g (by omega) (by rw [g11_τ13]) (by rw [g20_τ13]) (by rw [g22_τ13]) (by rw [g25_τ13]) | exact c_Y_g (by omega) (by rw [g11_τ17]) (by rw [g20_τ17]) (by rw [g22_τ17]) (by rw [g25_τ17]) | fail)), ag⟩
    ·
      refine ⟨_, K2_X7_declaration hT, ?_⟩
      intro x16 τ17 r_x16 hn_τ17 hf_τ17 hq
      obtain ⟨hT, q15_1, q15_2⟩ := hq
      replace q15_1 : 0 ≤ x16 ∧ x16 ≤ 19 := q15_1
      replace q15_2 : x16 = 0 → (τ17.1 36) = 0 ∧ 2 ≤ (τ17.1 35) ∧ (τ17.1 35) ≤ 4 := q15_2
      replace ag : c_ag σ τ17 := ag_r ag hf_τ17 rfl rfl
      have w3_τ17 : τ17.1 3 = σ.1 3 := hf_τ17.1 3 (by decide)
      have w4_τ17 : τ17.1 4 = σ.1 4 := hf_τ17.1 4 (by decide)
      have w5_τ17 : τ17.1 5 = σ.1 5 := hf_τ17.1 5 (by decide)
      have w6_τ17 : τ17.1 6 = σ.1 6 := hf_τ17.1 6 (by decide)
      have w7_τ17 : τ17.1 7 = σ.1 7 := hf_τ17.1 7 (by decide)
      have w8_τ17 : τ17.1 8 = σ.1 8 := hf_τ17.1 8 (by decide)
      have w9_τ17 : τ17.1 9 = σ.1 9 := hf_τ17.1 9 (by decide)
      have w10_τ17 : τ17.1 10 = σ.1 10 := hf_τ17.1 10 (by decide)
      have w11_τ17 : τ17.1 11 = σ.1 11 := hf_τ17.1 11 (by decide)
      have w12_τ17 : τ17.1 12 = σ.1 12 := hf_τ17.1 12 (by decide)
      have w13_τ17 : τ17.1 13 = σ.1 13 := hf_τ17.1 13 (by decide)
      have w14_τ17 : τ17.1 14 = σ.1 14 := hf_τ17.1 14 (by decide)
      have w15_τ17 : τ17.1 15 = σ.1 15 := hf_τ17.1 15 (by decide)
      have w16_τ17 : τ17.1 16 = σ.1 16 := hf_τ17.1 16 (by decide)
      have w21_τ17 : τ17.1 21 = σ.1 21 := hf_τ17.1 21 (by decide)
      have w22_τ17 : τ17.1 22 = σ.1 22 := hf_τ17.1 22 (by decide)
      have w23_τ17 : τ17.1 23 = σ.1 23 := hf_τ17.1 23 (by decide)
      have w24_τ17 : τ17.1 24 = σ.1 24 := hf_τ17.1 24 (by decide)
      have w25_τ17 : τ17.1 25 = σ.1 25 := hf_τ17.1 25 (by decide)
      have w26_τ17 : τ17.1 26 = σ.1 26 := hf_τ17.1 26 (by decide)
      have w27_τ17 : τ17.1 27 = σ.1 27 := hf_τ17.1 27 (by decide)
      have w37_τ17 : τ17.1 37 = σ.1 37 := hf_τ17.1 37 (by decide)
      have g2_τ17 : τ17.2.1 2 = σ.2.1 2 := hf_τ17.2.1 2 (by decide)
      have g3_τ17 : τ17.2.1 3 = σ.2.1 3 := hf_τ17.2.1 3 (by decide)
      have g4_τ17 : τ17.2.1 4 = σ.2.1 4 := hf_τ17.2.1 4 (by decide)
      have g5_τ17 : τ17.2.1 5 = σ.2.1 5 := hf_τ17.2.1 5 (by decide)
      have g6_τ17 : τ17.2.1 6 = σ.2.1 6 := hf_τ17.2.1 6 (by decide)
      have g9_τ17 : τ17.2.1 9 = σ.2.1 9 := hf_τ17.2.1 9 (by decide)
      have g10_τ17 : τ17.2.1 10 = σ.2.1 10 := hf_τ17.2.1 10 (by decide)
      have g11_τ17 : τ17.2.1 11 = σ.2.1 11 := hf_τ17.2.1 11 (by decide)
      have g13_τ17 : τ17.2.1 13 = σ.2.1 13 := hf_τ17.2.1 13 (by decide)
      have g14_τ17 : τ17.2.1 14 = σ.2.1 14 := hf_τ17.2.1 14 (by decide)
      have g15_τ17 : τ17.2.1 15 = σ.2.1 15 := hf_τ17.2.1 15 (by decide)
      have g16_τ17 : τ17.2.1 16 = σ.2.1 16 := hf_τ17.2.1 16 (by decide)
      have g18_τ17 : τ17.2.1 18 = σ.2.1 18 := hf_τ17.2.1 18 (by decide)
      have g19_τ17 : τ17.2.1 19 = σ.2.1 19 := hf_τ17.2.1 19 (by decide)
      have g20_τ17 : τ17.2.1 20 = σ.2.1 20 := hf_τ17.2.1 20 (by decide)
      have g22_τ17 : τ17.2.1 22 = σ.2.1 22 := hf_τ17.2.1 22 (by decide)
      have g25_τ17 : τ17.2.1 25 = σ.2.1 25 := hf_τ17.2.1 25 (by decide)
      have g26_τ17 : τ17.2.1 26 = σ.2.1 26 := hf_τ17.2.1 26 (by decide)
      have g27_τ17 : τ17.2.1 27 = σ.2.1 27 := hf_τ17.2.1 27 (by decide)
      have g28_τ17 : τ17.2.1 28 = σ.2.1 28 := hf_τ17.2.1 28 (by decide)
      have g29_τ17 : τ17.2.1 29 = σ.2.1 29 := hf_τ17.2.1 29 (by decide)
      have g30_τ17 : τ17.2.1 30 = σ.2.1 30 := hf_τ17.2.1 30 (by decide)
      have g31_τ17 : τ17.2.1 31 = σ.2.1 31 := hf_τ17.2.1 31 (by decide)
      have g32_τ17 : τ17.2.1 32 = σ.2.1 32 := hf_τ17.2.1 32 (by decide)
      have g33_τ17 : τ17.2.1 33 = σ.2.1 33 := hf_τ17.2.1 33 (by decide)
      have g34_τ17 : τ17.2.1 34 = σ.2.1 34 := hf_τ17.2.1 34 (by decide)
      have g35_τ17 : τ17.2.1 35 = σ.2.1 35 := hf_τ17.2.1 35 (by decide)
      have g36_τ17 : τ17.2.1 36 = σ.2.1 36 := hf_τ17.2.1 36 (by decide)
      have g37_τ17 : τ17.2.1 37 = σ.2.1 37 := hf_τ17.2.1 37 (by decide)
      have g44_τ17 : τ17.2.1 44 = σ.2.1 44 := hf_τ17.2.1 44 (by decide)
      have g45_τ17 : τ17.2.1 45 = σ.2.1 45 := hf_τ17.2.1 45 (by decide)
      have g49_τ17 : τ17.2.1 49 = σ.2.1 49 := hf_τ17.2.1 49 (by decide)
      have g51_τ17 : τ17.2.1 51 = σ.2.1 51 := hf_τ17.2.1 51 (by decide)
      have g54_τ17 : τ17.2.1 54 = σ.2.1 54 := hf_τ17.2.1 54 (by decide)
      have W3 : τ17.1 3 = σ.1 3 := by first | exact w3_τ17.trans W3 | omega
      have W4 : τ17.1 4 = σ.1 4 := by first | exact w4_τ17.trans W4 | omega
      have W5 : τ17.1 5 = σ.1 5 := by first | exact w5_τ17.trans W5 | omega
      have W6 : τ17.1 6 = σ.1 6 := by first | exact w6_τ17.trans W6 | omega
      have W7 : τ17.1 7 = σ.1 7 := by first | exact w7_τ17.trans W7 | omega
      have W15 : τ17.1 15 = σ.1 15 := by first | exact w15_τ17.trans W15 | omega
      have W16 : τ17.1 16 = σ.1 16 := by first | exact w16_τ17.trans W16 | omega
      have G2 : τ17.2.1 2 = σ.2.1 2 := (g2_τ17).trans G2
      have G3 : τ17.2.1 3 = σ.2.1 3 := (g3_τ17).trans G3
      have G4 : τ17.2.1 4 = σ.2.1 4 := (g4_τ17).trans G4
      have G5 : τ17.2.1 5 = σ.2.1 5 := (g5_τ17).trans G5
      have G6 : τ17.2.1 6 = σ.2.1 6 := (g6_τ17).trans G6
      have G9 : τ17.2.1 9 = σ.2.1 9 := (g9_τ17).trans G9
      have G10 : τ17.2.1 10 = σ.2.1 10 := (g10_τ17).trans G10
      have G11 : τ17.2.1 11 = σ.2.1 11 := (g11_τ17).trans G11
      have G13 : τ17.2.1 13 = σ.2.1 13 := (g13_τ17).trans G13
      have G14 : τ17.2.1 14 = σ.2.1 14 := (g14_τ17).trans G14
      have G15 : τ17.2.1 15 = σ.2.1 15 := (g15_τ17).trans G15
      have G16 : τ17.2.1 16 = σ.2.1 16 := (g16_τ17).trans G16
      have G20 : τ17.2.1 20 = σ.2.1 20 := (g20_τ17).trans G20
      have G22 : τ17.2.1 22 = σ.2.1 22 := (g22_τ17).trans G22
      have G33 : τ17.2.1 33 = σ.2.1 33 := (g33_τ17).trans G33
      have G34 : τ17.2.1 34 = σ.2.1 34 := (g34_τ17).trans G34
      have G35 : τ17.2.1 35 = σ.2.1 35 := (g35_τ17).trans G35
      have G36 : τ17.2.1 36 = σ.2.1 36 := (g36_τ17).trans G36
      have G37 : τ17.2.1 37 = σ.2.1 37 := (g37_τ17).trans G37
      have G44 : τ17.2.1 44 = σ.2.1 44 := (g44_τ17).trans G44
      have G45 : τ17.2.1 45 = σ.2.1 45 := (g45_τ17).trans G45
      have G49 : τ17.2.1 49 = σ.2.1 49 := (g49_τ17).trans G49
      have G51 : τ17.2.1 51 = σ.2.1 51 := (g51_τ17).trans G51
      have G54 : τ17.2.1 54 = σ.2.1 54 := (g54_τ17).trans G54
      have y14_7_τ17 : τ17.2.1 14 (τ17.1 7) = (σ.2.1 14) (σ.1 7) := by rw [g14_τ17, w7_τ17]
      have y36_15_τ17 : τ17.2.1 36 (τ17.1 15) = (σ.2.1 36) (σ.1 15) := by rw [g36_τ17, w15_τ17]
      have HT : J_ht (τ17.1 3) (τ17.2.1 2) (τ17.2.1 3) (τ17.2.1 5) (τ17.2.1 6) := by rw [show (J_ht (τ17.1 3) (τ17.2.1 2) (τ17.2.1 3) (τ17.2.1 5) (τ17.2.1 6)) = (J_ht (σ.1 3) (σ.2.1 2) (σ.2.1 3) (σ.2.1 5) (σ.2.1 6)) from by rw [w3_τ17, g2_τ17, g3_τ17, g5_τ17, g6_τ17]]; exact HT
      have NL : J_nl (τ17.1 3) (τ17.2.1 2) (τ17.2.1 3) (τ17.2.1 4) := by rw [show (J_nl (τ17.1 3) (τ17.2.1 2) (τ17.2.1 3) (τ17.2.1 4)) = (J_nl (σ.1 3) (σ.2.1 2) (σ.2.1 3) (σ.2.1 4)) from by rw [w3_τ17, g2_τ17, g3_τ17, g4_τ17]]; exact NL
      have MN : J_mn (τ17.1 3) (τ17.1 5) ((τ17.1 7) + 1) (τ17.2.1 4) := by rw [show (J_mn (τ17.1 3) (τ17.1 5) ((τ17.1 7) + 1) (τ17.2.1 4)) = (J_mn (σ.1 3) (σ.1 5) ((σ.1 7) + 1) (σ.2.1 4)) from by rw [w3_τ17, w5_τ17, w7_τ17, g4_τ17]]; exact MN
      have VA : J_va (τ17.1 8) 1000 (τ17.2.1 18) (τ17.2.1 20) := by rw [show (J_va (τ17.1 8) 1000 (τ17.2.1 18) (τ17.2.1 20)) = (J_va (σ.1 8) 1000 (σ.2.1 18) (σ.2.1 20)) from by rw [w8_τ17, g18_τ17, g20_τ17]]; exact VA
      have SC : J_sc (τ17.1 7) (τ17.1 9) (τ17.2.1 13) (τ17.2.1 14) (τ17.2.1 15) (τ17.2.1 16) (τ17.2.1 22) (τ17.2.1 19) := by rw [show (J_sc (τ17.1 7) (τ17.1 9) (τ17.2.1 13) (τ17.2.1 14) (τ17.2.1 15) (τ17.2.1 16) (τ17.2.1 22) (τ17.2.1 19)) = (J_sc (σ.1 7) (σ.1 9) (σ.2.1 13) (σ.2.1 14) (σ.2.1 15) (σ.2.1 16) (σ.2.1 22) (σ.2.1 19)) from by rw [w7_τ17, w9_τ17, g13_τ17, g14_τ17, g15_τ17, g16_τ17, g19_τ17, g22_τ17]]; exact SC
      have MK : J_mk (τ17.1 11) (τ17.1 8) (τ17.1 9) (τ17.1 10) (τ17.2.1 25) := by rw [show (J_mk (τ17.1 11) (τ17.1 8) (τ17.1 9) (τ17.1 10) (τ17.2.1 25)) = (J_mk (σ.1 11) (σ.1 8) (σ.1 9) (σ.1 10) (σ.2.1 25)) from by rw [w8_τ17, w9_τ17, w10_τ17, w11_τ17, g25_τ17]]; exact MK
      have FF : J_ff (τ17.1 5) (τ17.1 7) (τ17.2.1 9) (τ17.2.1 13) (τ17.2.1 14) (τ17.2.1 15) := by rw [show (J_ff (τ17.1 5) (τ17.1 7) (τ17.2.1 9) (τ17.2.1 13) (τ17.2.1 14) (τ17.2.1 15)) = (J_ff (σ.1 5) (σ.1 7) (σ.2.1 9) (σ.2.1 13) (σ.2.1 14) (σ.2.1 15)) from by rw [w5_τ17, w7_τ17, g9_τ17, g13_τ17, g14_τ17, g15_τ17]]; exact FF
      have MT : ∀ s : Int, τ17.2.1 26 s ≤ (τ17.1 12) := by rw [show (∀ s : Int, τ17.2.1 26 s ≤ (τ17.1 12)) = (∀ s : Int, σ.2.1 26 s ≤ (σ.1 12)) from by rw [w12_τ17, g26_τ17]]; exact MT
      have VS : J_vs (τ17.1 8) (τ17.1 5) (τ17.2.1 20) := by rw [show (J_vs (τ17.1 8) (τ17.1 5) (τ17.2.1 20)) = (J_vs (σ.1 8) (σ.1 5) (σ.2.1 20)) from by rw [w5_τ17, w8_τ17, g20_τ17]]; exact VS
      have TX : J_vs (τ17.1 6) (τ17.1 5) (τ17.2.1 15) := by rw [show (J_vs (τ17.1 6) (τ17.1 5) (τ17.2.1 15)) = (J_vs (σ.1 6) (σ.1 5) (σ.2.1 15)) from by rw [w5_τ17, w6_τ17, g15_τ17]]; exact TX
      have RKS : J_rks (τ17.1 5) (τ17.1 4) (τ17.2.1 10) (τ17.2.1 11) := by rw [show (J_rks (τ17.1 5) (τ17.1 4) (τ17.2.1 10) (τ17.2.1 11)) = (J_rks (σ.1 5) (σ.1 4) (σ.2.1 10) (σ.2.1 11)) from by rw [w4_τ17, w5_τ17, g10_τ17, g11_τ17]]; exact RKS
      have CJ : J_all (τ17.1 7) (τ17.1 6) (τ17.1 13) (τ17.1 14) (τ17.1 15) (τ17.2.1 13) (τ17.2.1 14) (τ17.2.1 15) (τ17.2.1 16) (τ17.2.1 10) (τ17.2.1 27) (τ17.2.1 28) (τ17.2.1 29) (τ17.2.1 30) (τ17.2.1 31) (τ17.2.1 32) (τ17.2.1 33) (τ17.2.1 34) (τ17.2.1 35) (τ17.2.1 36) (τ17.2.1 37) := by rw [show (J_all (τ17.1 7) (τ17.1 6) (τ17.1 13) (τ17.1 14) (τ17.1 15) (τ17.2.1 13) (τ17.2.1 14) (τ17.2.1 15) (τ17.2.1 16) (τ17.2.1 10) (τ17.2.1 27) (τ17.2.1 28) (τ17.2.1 29) (τ17.2.1 30) (τ17.2.1 31) (τ17.2.1 32) (τ17.2.1 33) (τ17.2.1 34) (τ17.2.1 35) (τ17.2.1 36) (τ17.2.1 37)) = (J_all (σ.1 7) (σ.1 6) (σ.1 13) (σ.1 14) (σ.1 15) (σ.2.1 13) (σ.2.1 14) (σ.2.1 15) (σ.2.1 16) (σ.2.1 10) (σ.2.1 27) (σ.2.1 28) (σ.2.1 29) (σ.2.1 30) (σ.2.1 31) (σ.2.1 32) (σ.2.1 33) (σ.2.1 34) (σ.2.1 35) (σ.2.1 36) (σ.2.1 37)) from by rw [w6_τ17, w7_τ17, w13_τ17, w14_τ17, w15_τ17, g10_τ17, g13_τ17, g14_τ17, g15_τ17, g16_τ17, g27_τ17, g28_τ17, g29_τ17, g30_τ17, g31_τ17, g32_τ17, g33_τ17, g34_τ17, g35_τ17, g36_τ17, g37_τ17]]; exact CJ
      have BP : J_bp (τ17.2.1 44) (τ17.2.1 45) := by rw [show (J_bp (τ17.2.1 44) (τ17.2.1 45)) = (J_bp (σ.2.1 44) (σ.2.1 45)) from by rw [g44_τ17, g45_τ17]]; exact BP
      have CH : j_eq (σ.2.1 36 (σ.1 15)) (σ.2.1 37) (τ17.2.1 37) := by rw [show (j_eq (σ.2.1 36 (σ.1 15)) (σ.2.1 37) (τ17.2.1 37)) = (j_eq (σ.2.1 36 (σ.1 15)) (σ.2.1 37) (σ.2.1 37)) from by rw [g37_τ17]]; exact CH
      have A2 : ∀ j, 0 ≤ τ17.2.1 2 j ∧ τ17.2.1 2 j ≤ 65535 := fun j => hT.2 2 j
      have A3 : ∀ j, 0 ≤ τ17.2.1 3 j ∧ τ17.2.1 3 j ≤ 30000 := fun j => hT.2 3 j
      have A4 : ∀ j, (-1000) ≤ τ17.2.1 4 j ∧ τ17.2.1 4 j ≤ 1499 := fun j => hT.2 4 j
      have A5 : ∀ j, 0 ≤ τ17.2.1 5 j ∧ τ17.2.1 5 j ≤ 2500 := fun j => hT.2 5 j
      have A6 : ∀ j, 0 ≤ τ17.2.1 6 j ∧ τ17.2.1 6 j ≤ 2500 := fun j => hT.2 6 j
      have A9 : ∀ j, (-1) ≤ τ17.2.1 9 j ∧ τ17.2.1 9 j ≤ 1499 := fun j => hT.2 9 j
      have A10 : ∀ j, (-1) ≤ τ17.2.1 10 j ∧ τ17.2.1 10 j ≤ 99 := fun j => hT.2 10 j
      have A11 : ∀ j, 0 ≤ τ17.2.1 11 j ∧ τ17.2.1 11 j ≤ 999 := fun j => hT.2 11 j
      have A13 : ∀ j, 0 ≤ τ17.2.1 13 j ∧ τ17.2.1 13 j ≤ 4 := fun j => hT.2 13 j
      have A14 : ∀ j, 0 ≤ τ17.2.1 14 j ∧ τ17.2.1 14 j ≤ 30000 := fun j => hT.2 14 j
      have A15 : ∀ j, 0 ≤ τ17.2.1 15 j ∧ τ17.2.1 15 j ≤ 999 := fun j => hT.2 15 j
      have A16 : ∀ j, (-1) ≤ τ17.2.1 16 j ∧ τ17.2.1 16 j ≤ 1499 := fun j => hT.2 16 j
      have A18 : ∀ j, 0 ≤ τ17.2.1 18 j ∧ τ17.2.1 18 j ≤ 1 := fun j => hT.2 18 j
      have A19 : ∀ j, (-1) ≤ τ17.2.1 19 j ∧ τ17.2.1 19 j ≤ 1499 := fun j => hT.2 19 j
      have A20 : ∀ j, 0 ≤ τ17.2.1 20 j ∧ τ17.2.1 20 j ≤ 999 := fun j => hT.2 20 j
      have A22 : ∀ j, 0 ≤ τ17.2.1 22 j ∧ τ17.2.1 22 j ≤ 1499 := fun j => hT.2 22 j
      have A26 : ∀ j, (-2147483648) ≤ τ17.2.1 26 j ∧ τ17.2.1 26 j ≤ 2147483647 := fun j => hT.2 26 j
      have A27 : ∀ j, 0 ≤ τ17.2.1 27 j ∧ τ17.2.1 27 j ≤ 90000 := fun j => hT.2 27 j
      have A28 : ∀ j, 0 ≤ τ17.2.1 28 j ∧ τ17.2.1 28 j ≤ 60 := fun j => hT.2 28 j
      have A29 : ∀ j, 0 ≤ τ17.2.1 29 j ∧ τ17.2.1 29 j ≤ 1499 := fun j => hT.2 29 j
      have A30 : ∀ j, 0 ≤ τ17.2.1 30 j ∧ τ17.2.1 30 j ≤ 20000 := fun j => hT.2 30 j
      have A31 : ∀ j, 0 ≤ τ17.2.1 31 j ∧ τ17.2.1 31 j ≤ 20000 := fun j => hT.2 31 j
      have A32 : ∀ j, 0 ≤ τ17.2.1 32 j ∧ τ17.2.1 32 j ≤ 999999 := fun j => hT.2 32 j
      have A33 : ∀ j, 0 ≤ τ17.2.1 33 j ∧ τ17.2.1 33 j ≤ 20000 := fun j => hT.2 33 j
      have A34 : ∀ j, 0 ≤ τ17.2.1 34 j ∧ τ17.2.1 34 j ≤ 20000 := fun j => hT.2 34 j
      have A35 : ∀ j, 0 ≤ τ17.2.1 35 j ∧ τ17.2.1 35 j ≤ 1499 := fun j => hT.2 35 j
      have A36 : ∀ j, 0 ≤ τ17.2.1 36 j ∧ τ17.2.1 36 j ≤ 20000 := fun j => hT.2 36 j
      have A37 : ∀ j, 0 ≤ τ17.2.1 37 j ∧ τ17.2.1 37 j ≤ 19999 := fun j => hT.2 37 j
      have A44 : ∀ j, 0 ≤ τ17.2.1 44 j ∧ τ17.2.1 44 j ≤ 42000 := fun j => hT.2 44 j
      have A45 : ∀ j, 0 ≤ τ17.2.1 45 j ∧ τ17.2.1 45 j ≤ 1000 := fun j => hT.2 45 j
      have A49 : ∀ j, (-300) ≤ τ17.2.1 49 j ∧ τ17.2.1 49 j ≤ 67035 := fun j => hT.2 49 j
      have A51 : ∀ j, 0 ≤ τ17.2.1 51 j ∧ τ17.2.1 51 j ≤ 1499 := fun j => hT.2 51 j
      have A54 : ∀ j, 0 ≤ τ17.2.1 54 j ∧ τ17.2.1 54 j ≤ 999 := fun j => hT.2 54 j
      have v3 : 0 ≤ τ17.1 3 ∧ τ17.1 3 ≤ 2500 := hT.1 3
      have v4 : 0 ≤ τ17.1 4 ∧ τ17.1 4 ≤ 100 := hT.1 4
      have v5 : 0 ≤ τ17.1 5 ∧ τ17.1 5 ≤ 1000 := hT.1 5
      have v6 : 0 ≤ τ17.1 6 ∧ τ17.1 6 ≤ 30000 := hT.1 6
      have v7 : 0 ≤ τ17.1 7 ∧ τ17.1 7 ≤ 1500 := hT.1 7
      have v8 : 0 ≤ τ17.1 8 ∧ τ17.1 8 ≤ 1000 := hT.1 8
      have v9 : 0 ≤ τ17.1 9 ∧ τ17.1 9 ≤ 1500 := hT.1 9
      have v10 : 0 ≤ τ17.1 10 ∧ τ17.1 10 ≤ 1000 := hT.1 10
      have v11 : 0 ≤ τ17.1 11 ∧ τ17.1 11 ≤ 50 := hT.1 11
      have v12 : (-2147483648) ≤ τ17.1 12 ∧ τ17.1 12 ≤ 2147483647 := hT.1 12
      have v13 : 0 ≤ τ17.1 13 ∧ τ17.1 13 ≤ 90000 := hT.1 13
      have v14 : 0 ≤ τ17.1 14 ∧ τ17.1 14 ≤ 20000 := hT.1 14
      have v15 : 0 ≤ τ17.1 15 ∧ τ17.1 15 ≤ 20000 := hT.1 15
      have v16 : 0 ≤ τ17.1 16 ∧ τ17.1 16 ≤ 20000 := hT.1 16
      have v21 : 0 ≤ τ17.1 21 ∧ τ17.1 21 ≤ 20000 := hT.1 21
      have v22 : 0 ≤ τ17.1 22 ∧ τ17.1 22 ≤ 300 := hT.1 22
      have v23 : 0 ≤ τ17.1 23 ∧ τ17.1 23 ≤ 300 := hT.1 23
      have v24 : 0 ≤ τ17.1 24 ∧ τ17.1 24 ≤ 1499 := hT.1 24
      have v25 : 0 ≤ τ17.1 25 ∧ τ17.1 25 ≤ 3 := hT.1 25
      have v26 : 0 ≤ τ17.1 26 ∧ τ17.1 26 ≤ 5000010 := hT.1 26
      have v27 : 0 ≤ τ17.1 27 ∧ τ17.1 27 ≤ 1 := hT.1 27
      have v35 : 0 ≤ τ17.1 35 ∧ τ17.1 35 ≤ 7 := hT.1 35
      have v36 : 0 ≤ τ17.1 36 ∧ τ17.1 36 ≤ 1001 := hT.1 36
      have v37 : 0 ≤ τ17.1 37 ∧ τ17.1 37 ≤ 4 := hT.1 37
      have a14_7 : 0 ≤ τ17.2.1 14 (τ17.1 7) ∧ τ17.2.1 14 (τ17.1 7) ≤ 30000 := hT.2 14 _
      have a36_15 : 0 ≤ τ17.2.1 36 (τ17.1 15) ∧ τ17.2.1 36 (τ17.1 15) ≤ 20000 := hT.2 36 _
      have av13 : σ.1 13 ≤ τ17.1 13 := ag.1 13 (by decide)
      have av14 : σ.1 14 ≤ τ17.1 14 := ag.1 14 (by decide)
      exact ⟨hT, (show 0 ≤ x16 ∧ x16 ≤ 19 from by (first | assumption | omega | (simp only [st_s] <;> omega) | fail)), (show J_ht (τ17.1 3) (τ17.2.1 2) (τ17.2.1 3) (τ17.2.1 5) (τ17.2.1 6) from HT), (show J_mn (τ17.1 3) (τ17.1 5) ((τ17.1 7) + 1) (τ17.2.1 4) from MN), (show J_rks (τ17.1 5) (τ17.1 4) (τ17.2.1 10) (τ17.2.1 11) from RKS), (show J_vs (τ17.1 8) (τ17.1 5) (τ17.2.1 20) from VS), (show J_vs (τ17.1 6) (τ17.1 5) (τ17.2.1 15) from TX), (show J_va (τ17.1 8) 1000 (τ17.2.1 18) (τ17.2.1 20) from VA), (show J_mk (τ17.1 11) (τ17.1 8) (τ17.1 9) (τ17.1 10) (τ17.2.1 25) from MK), (show J_sc (τ17.1 7) (τ17.1 9) (τ17.2.1 13) (τ17.2.1 14) (τ17.2.1 15) (τ17.2.1 16) (τ17.2.1 22) (τ17.2.1 19) from SC), (show J_ff (τ17.1 5) (τ17.1 7) (τ17.2.1 9) (τ17.2.1 13) (τ17.2.1 14) (τ17.2.1 15) from FF), (show ∀ s : Int, τ17.2.1 26 s ≤ (τ17.1 12) from MT), (show J_all (τ17.1 7) (τ17.1 6) (τ17.1 13) (τ17.1 14) (τ17.1 15) (τ17.2.1 13) (τ17.2.1 14) (τ17.2.1 15) (τ17.2.1 16) (τ17.2.1 10) (τ17.2.1 27) (τ17.2.1 28) (τ17.2.1 29) (τ17.2.1 30) (τ17.2.1 31) (τ17.2.1 32) (τ17.2.1 33) (τ17.2.1 34) (τ17.2.1 35) (τ17.2.1 36) (τ17.2.1 37) from CJ), (show J_bp (τ17.2.1 44) (τ17.2.1 45) from BP), (show J_nl (τ17.1 3) (τ17.2.1 2) (τ17.2.1 3) (τ17.2.1 4) from NL), (show x16 = 0 → J_rs (τ17.1 35) (τ17.1 7) (τ17.1 6) (τ17.1 36) (τ17.1 37) (τ17.1 5) (τ17.1 8) (τ17.2.1 14) from by (first | exact fun z => absurd z (by decide) | exact q1_15 | exact q4_15 | exact q7_15 | (intro z; have w := q15_2 z; have rs := J_rs_0 p14 (by omega); unfold J_rs; rw [G14, W7]; omega) | (intro z; have rs := J_rs_0 p14 (by omega); have r1 := J_rs_1 p14 (by omega); unfold J_rs; rw [G14, W7]; omega) | (first | exact fun z => absurd z (by decide) | exact fun _ => RS | (intro z; have rs := p14; unfold J_rs at rs ⊢; omega) | (intro z; have rs := p14; unfold J_rs at rs ⊢; rw [G14, W7]; omega)) | fail)), (show x16 = 0 → J_uc (τ17.1 35) (τ17.1 36) (τ17.2.1 10 (τ17.2.1 15 (τ17.2.1 14 (τ17.1 7)))) from by (first | exact fun z => absurd z (by decide) | exact q1_16 | exact q4_16 | exact q7_16 | (intro z y y2; exfalso; omega) | (intro z y; have w := q15_2 z; exfalso; omega) | (first | exact fun z => absurd z (by decide) | (intro z y; exfalso; omega) | exact fun _ => UC | exact fun _ => uc | (intro z y y2; exact uc (by omega) (by omega)) | (intro z y y2; exfalso; omega) | (intro z y y2; rw [G10, G14, G15, W7]; exact uc (by omega) (by omega))) | fail)), (show x16 = 0 → J_dj (τ17.1 35) (τ17.1 36) (τ17.2.1 54) from by (first | exact fun z => absurd z (by decide) | exact q1_17 | exact q4_17 | exact q7_17 | (intro z y; rw [show τ17.1 36 = 0 from (q15_2 z).1]; exact j_in0 _ _) | (first | exact fun z => absurd z (by decide) | (intro z y; exfalso; omega) | exact fun _ => DJs | exact fun _ => dj) | fail)), (show x16 = 0 → J_it (τ17.1 35) (τ17.1 7) (τ17.1 6) (τ17.1 37) (τ17.2.1 14) (τ17.2.1 15) (τ17.2.1 16) (τ17.2.1 19) from by (first | exact fun z => absurd z (by decide) | exact q1_18 | exact q4_18 | exact q7_18 | (intro z y; have w := q15_2 z; exfalso; omega) | (intro z y; have rs := J_rs_0 p14 (by omega); exact J_ip0 (by rw [W6, G14, W7]; omega)) | (first | exact fun z => absurd z (by decide) | (intro z y; exfalso; omega) | exact fun _ => IPs | exact fun _ => ipx | (intro z y; exact ipx (by omega)) | (intro z y; rw [W7, W6, W37, G14, G15, G16, G19]; exact ipx (by omega))) | fail)), (show x16 = 0 → J_hu (τ17.1 35) (τ17.1 13) (τ17.1 7) from by (first | exact fun z => absurd z (by decide) | exact q1_19 | exact q4_19 | exact q7_19 | (intro z; have hu := hux; unfold J_hu at hu ⊢; omega) | (first | exact fun z => absurd z (by decide) | exact fun _ => HUs | (intro z; have hu := hux; unfold J_hu at hu ⊢; omega)) | fail)), (show x16 = 0 → J_ft (τ17.1 35) (τ17.1 24) (τ17.1 7) (τ17.1 13) (τ17.1 14) (τ17.2.1 13) (τ17.2.1 14) (τ17.2.1 15) (τ17.2.1 16) (τ17.2.1 27) (τ17.2.1 28) (τ17.2.1 29) (τ17.2.1 30) (τ17.2.1 31) (τ17.2.1 32) from by (first | exact fun z => absurd z (by decide) | exact q1_20 | exact q4_20 | exact q7_20 | (intro z y; have w := q15_2 z; exfalso; omega) | (intro z y; exfalso; omega) | (first | exact fun z => absurd z (by decide) | (intro z y; exfalso; omega) | exact fun _ => FRs | exact fun _ => frx | (intro z y; exact frx (by omega)) | (intro z y; have w := frx (by omega); rw [W7, W13, W14, W24, G13, G14, G15, G16, G27, G28, G29, G30, G31, G32]; exact w)) | fail)), (show x16 = 0 → J_ss (τ17.1 35) (τ17.1 24) (τ17.1 21) (τ17.1 23) (τ17.1 22) (τ17.1 27) (τ17.1 26) (τ17.1 25) (τ17.1 16) (τ17.2.1 49) (τ17.2.1 51) from by (first | exact fun z => absurd z (by decide) | exact q1_21 | exact q4_21 | exact q7_21 | (intro z y; have w := q15_2 z; exfalso; omega) | (intro z y; exfalso; omega) | (first | exact fun z => absurd z (by decide) | (intro z y; exfalso; omega) | exact fun _ => SPs | exact fun _ => spx | (intro z y; exact spx (by omega))) | fail)), (show x16 = 0 → (τ17.1 15) ≤ (τ17.1 16) ∧ τ17.2.1 36 (τ17.1 15) ≤ (τ17.1 16) from by (first | exact fun z => absurd z (by decide) | exact q1_22 | exact q4_22 | exact q7_22 | (intro z; first | exact sux | omega) | fail)), (show x16 = 0 → (τ17.1 9) ≤ (τ17.1 7) from by (first | exact fun z => absurd z (by decide) | exact q1_23 | exact q4_23 | exact q7_23 | (intro z; omega) | fail)), (show j_rr ((σ.1 5)) (σ.2.1 10) (τ17.2.1 10) from by (first | exact j_rr0 _ _ | exact q1_24 | exact q4_24 | exact q7_24 | (rw [G10]; exact j_rr0 _ _) | fail)), (show j_eq (σ.2.1 36 (σ.1 15)) (σ.2.1 37) (τ17.2.1 37) from CH), (show (τ17.1 12) ≤ (σ.1 12) + 1 from by (first | assumption | omega | (simp only [st_s] <;> omega) | fail)), (show c_Y σ τ17 from by (first | exact c_Y0 _ | exact c_Y_g W4 G11 G20 G22 G25 | exact q1_27 | exact q4_27 | exact q7_27 | exact c_Y_g (by omega) (by rw [g11_τ4]) (by rw [g20_τ4]) (by rw [g22_τ4]) (by rw [g25_τ4]) | exact c_Y_g (by omega) (by rw [g11_τ13]) (by rw [g20_τ13]) (by rw [g22_τ13]) (by rw [g25_τ13]) | exact c_Y_g (by omega) (by rw [g11_τ17]) (by rw [g20_τ17]) (by rw [g22_τ17]) (by rw [g25_τ17]) | fail)), ag⟩
  ·
    refine h109 _ _ ?_
    refine ⟨fun c10 => ?_, fun c10 => ?_⟩
    ·
      exact ⟨hT, (show 0 ≤ 4 ∧ 4 ≤ 19 from by (first | assumption | omega | (simp only [st_s] <;> omega) | fail)), (show J_ht (σ.1 3) (σ.2.1 2) (σ.2.1 3) (σ.2.1 5) (σ.2.1 6) from HT), (show J_mn (σ.1 3) (σ.1 5) ((σ.1 7) + 1) (σ.2.1 4) from MN), (show J_rks (σ.1 5) (σ.1 4) (σ.2.1 10) (σ.2.1 11) from RKS), (show J_vs (σ.1 8) (σ.1 5) (σ.2.1 20) from VS), (show J_vs (σ.1 6) (σ.1 5) (σ.2.1 15) from TX), (show J_va (σ.1 8) 1000 (σ.2.1 18) (σ.2.1 20) from VA), (show J_mk (σ.1 11) (σ.1 8) (σ.1 9) (σ.1 10) (σ.2.1 25) from MK), (show J_sc (σ.1 7) (σ.1 9) (σ.2.1 13) (σ.2.1 14) (σ.2.1 15) (σ.2.1 16) (σ.2.1 22) (σ.2.1 19) from SC), (show J_ff (σ.1 5) (σ.1 7) (σ.2.1 9) (σ.2.1 13) (σ.2.1 14) (σ.2.1 15) from FF), (show ∀ s : Int, σ.2.1 26 s ≤ (σ.1 12) from MT), (show J_all (σ.1 7) (σ.1 6) (σ.1 13) (σ.1 14) (σ.1 15) (σ.2.1 13) (σ.2.1 14) (σ.2.1 15) (σ.2.1 16) (σ.2.1 10) (σ.2.1 27) (σ.2.1 28) (σ.2.1 29) (σ.2.1 30) (σ.2.1 31) (σ.2.1 32) (σ.2.1 33) (σ.2.1 34) (σ.2.1 35) (σ.2.1 36) (σ.2.1 37) from CJ), (show J_bp (σ.2.1 44) (σ.2.1 45) from BP), (show J_nl (σ.1 3) (σ.2.1 2) (σ.2.1 3) (σ.2.1 4) from NL), (show 4 = 0 → J_rs (σ.1 35) (σ.1 7) (σ.1 6) (σ.1 36) (σ.1 37) (σ.1 5) (σ.1 8) (σ.2.1 14) from by (first | exact fun z => absurd z (by decide) | exact q1_15 | exact q4_15 | exact q7_15 | (intro z; have w := q15_2 z; have rs := J_rs_0 p14 (by omega); unfold J_rs; rw [G14, W7]; omega) | (intro z; have rs := J_rs_0 p14 (by omega); have r1 := J_rs_1 p14 (by omega); unfold J_rs; rw [G14, W7]; omega) | (first | exact fun z => absurd z (by decide) | exact fun _ => RS | (intro z; have rs := p14; unfold J_rs at rs ⊢; omega) | (intro z; have rs := p14; unfold J_rs at rs ⊢; rw [G14, W7]; omega)) | fail)), (show 4 = 0 → J_uc (σ.1 35) (σ.1 36) (σ.2.1 10 (σ.2.1 15 (σ.2.1 14 (σ.1 7)))) from by (first | exact fun z => absurd z (by decide) | exact q1_16 | exact q4_16 | exact q7_16 | (intro z y y2; exfalso; omega) | (intro z y; have w := q15_2 z; exfalso; omega) | (first | exact fun z => absurd z (by decide) | (intro z y; exfalso; omega) | exact fun _ => UC | exact fun _ => uc | (intro z y y2; exact uc (by omega) (by omega)) | (intro z y y2; exfalso; omega) | (intro z y y2; rw [G10, G14, G15, W7]; exact uc (by omega) (by omega))) | fail)), (show 4 = 0 → J_dj (σ.1 35) (σ.1 36) (σ.2.1 54) from by (first | exact fun z => absurd z (by decide) | exact q1_17 | exact q4_17 | exact q7_17 | (intro z y; rw [show τ17.1 36 = 0 from (q15_2 z).1]; exact j_in0 _ _) | (first | exact fun z => absurd z (by decide) | (intro z y; exfalso; omega) | exact fun _ => DJs | exact fun _ => dj) | fail)), (show 4 = 0 → J_it (σ.1 35) (σ.1 7) (σ.1 6) (σ.1 37) (σ.2.1 14) (σ.2.1 15) (σ.2.1 16) (σ.2.1 19) from by (first | exact fun z => absurd z (by decide) | exact q1_18 | exact q4_18 | exact q7_18 | (intro z y; have w := q15_2 z; exfalso; omega) | (intro z y; have rs := J_rs_0 p14 (by omega); exact J_ip0 (by rw [W6, G14, W7]; omega)) | (first | exact fun z => absurd z (by decide) | (intro z y; exfalso; omega) | exact fun _ => IPs | exact fun _ => ipx | (intro z y; exact ipx (by omega)) | (intro z y; rw [W7, W6, W37, G14, G15, G16, G19]; exact ipx (by omega))) | fail)), (show 4 = 0 → J_hu (σ.1 35) (σ.1 13) (σ.1 7) from by (first | exact fun z => absurd z (by decide) | exact q1_19 | exact q4_19 | exact q7_19 | (intro z; have hu := hux; unfold J_hu at hu ⊢; omega) | (first | exact fun z => absurd z (by decide) | exact fun _ => HUs | (intro z; have hu := hux; unfold J_hu at hu ⊢; omega)) | fail)), (show 4 = 0 → J_ft (σ.1 35) (σ.1 24) (σ.1 7) (σ.1 13) (σ.1 14) (σ.2.1 13) (σ.2.1 14) (σ.2.1 15) (σ.2.1 16) (σ.2.1 27) (σ.2.1 28) (σ.2.1 29) (σ.2.1 30) (σ.2.1 31) (σ.2.1 32) from by (first | exact fun z => absurd z (by decide) | exact q1_20 | exact q4_20 | exact q7_20 | (intro z y; have w := q15_2 z; exfalso; omega) | (intro z y; exfalso; omega) | (first | exact fun z => absurd z (by decide) | (intro z y; exfalso; omega) | exact fun _ => FRs | exact fun _ => frx | (intro z y; exact frx (by omega)) | (intro z y; have w := frx (by omega); rw [W7, W13, W14, W24, G13, G14, G15, G16, G27, G28, G29, G30, G31, G32]; exact w)) | fail)), (show 4 = 0 → J_ss (σ.1 35) (σ.1 24) (σ.1 21) (σ.1 23) (σ.1 22) (σ.1 27) (σ.1 26) (σ.1 25) (σ.1 16) (σ.2.1 49) (σ.2.1 51) from by (first | exact fun z => absurd z (by decide) | exact q1_21 | exact q4_21 | exact q7_21 | (intro z y; have w := q15_2 z; exfalso; omega) | (intro z y; exfalso; omega) | (first | exact fun z => absurd z (by decide) | (intro z y; exfalso; omega) | exact fun _ => SPs | exact fun _ => spx | (intro z y; exact spx (by omega))) | fail)), (show 4 = 0 → (σ.1 15) ≤ (σ.1 16) ∧ σ.2.1 36 (σ.1 15) ≤ (σ.1 16) from by (first | exact fun z => absurd z (by decide) | exact q1_22 | exact q4_22 | exact q7_22 | (intro z; first | exact sux | omega) | fail)), (show 4 = 0 → (σ.1 9) ≤ (σ.1 7) from by (first | exact fun z => absurd z (by decide) | exact q1_23 | exact q4_23 | exact q7_23 | (intro z; omega) | fail)), (show j_rr ((σ.1 5)) (σ.2.1 10) (σ.2.1 10) from by (first | exact j_rr0 _ _ | exact q1_24 | exact q4_24 | exact q7_24 | (rw [G10]; exact j_rr0 _ _) | fail)), (show j_eq (σ.2.1 36 (σ.1 15)) (σ.2.1 37) (σ.2.1 37) from CH), (show (σ.1 12) ≤ (σ.1 12) + 1 from by (first | assumption | omega | (simp only [st_s] <;> omega) | fail)), (show c_Y σ σ from by (first | exact c_Y0 _ | exact c_Y_g W4 G11 G20 G22 G25 | exact q1_27 | exact q4_27 | exact q7_27 | exact c_Y_g (by omega) (by rw [g11_τ4]) (by rw [g20_τ4]) (by rw [g22_τ4]) (by rw [g25_τ4]) | exact c_Y_g (by omega) (by rw [g11_τ13]) (by rw [g20_τ13]) (by rw [g22_τ13]) (by rw [g25_τ13]) | exact c_Y_g (by omega) (by rw [g11_τ17]) (by rw [g20_τ17]) (by rw [g22_τ17]) (by rw [g25_τ17]) | fail)), ag⟩
    ·
      refine ⟨_, K2_X7_statement hT, ?_⟩
      intro x12 τ13 r_x12 hn_τ13 hf_τ13 hq
      obtain ⟨hT, q11_1, q11_2, q11_3, q11_4⟩ := hq
      replace q11_1 : x12 = 0 := q11_1
      replace q11_2 : (τ13.1 36) = 0 := q11_2
      replace q11_3 : (τ13.1 35) = 5 := q11_3
      replace q11_4 : (τ13.1 37) ≤ 3 := q11_4
      replace ag : c_ag σ τ13 := ag_r ag hf_τ13 rfl rfl
      have w3_τ13 : τ13.1 3 = σ.1 3 := hf_τ13.1 3 (by decide)
      have w4_τ13 : τ13.1 4 = σ.1 4 := hf_τ13.1 4 (by decide)
      have w5_τ13 : τ13.1 5 = σ.1 5 := hf_τ13.1 5 (by decide)
      have w6_τ13 : τ13.1 6 = σ.1 6 := hf_τ13.1 6 (by decide)
      have w7_τ13 : τ13.1 7 = σ.1 7 := hf_τ13.1 7 (by decide)
      have w8_τ13 : τ13.1 8 = σ.1 8 := hf_τ13.1 8 (by decide)
      have w9_τ13 : τ13.1 9 = σ.1 9 := hf_τ13.1 9 (by decide)
      have w10_τ13 : τ13.1 10 = σ.1 10 := hf_τ13.1 10 (by decide)
      have w11_τ13 : τ13.1 11 = σ.1 11 := hf_τ13.1 11 (by decide)
      have w12_τ13 : τ13.1 12 = σ.1 12 := hf_τ13.1 12 (by decide)
      have w13_τ13 : τ13.1 13 = σ.1 13 := hf_τ13.1 13 (by decide)
      have w14_τ13 : τ13.1 14 = σ.1 14 := hf_τ13.1 14 (by decide)
      have w15_τ13 : τ13.1 15 = σ.1 15 := hf_τ13.1 15 (by decide)
      have w16_τ13 : τ13.1 16 = σ.1 16 := hf_τ13.1 16 (by decide)
      have w21_τ13 : τ13.1 21 = σ.1 21 := hf_τ13.1 21 (by decide)
      have w22_τ13 : τ13.1 22 = σ.1 22 := hf_τ13.1 22 (by decide)
      have w23_τ13 : τ13.1 23 = σ.1 23 := hf_τ13.1 23 (by decide)
      have w24_τ13 : τ13.1 24 = σ.1 24 := hf_τ13.1 24 (by decide)
      have w25_τ13 : τ13.1 25 = σ.1 25 := hf_τ13.1 25 (by decide)
      have w26_τ13 : τ13.1 26 = σ.1 26 := hf_τ13.1 26 (by decide)
      have w27_τ13 : τ13.1 27 = σ.1 27 := hf_τ13.1 27 (by decide)
      have g2_τ13 : τ13.2.1 2 = σ.2.1 2 := hf_τ13.2.1 2 (by decide)
      have g3_τ13 : τ13.2.1 3 = σ.2.1 3 := hf_τ13.2.1 3 (by decide)
      have g4_τ13 : τ13.2.1 4 = σ.2.1 4 := hf_τ13.2.1 4 (by decide)
      have g5_τ13 : τ13.2.1 5 = σ.2.1 5 := hf_τ13.2.1 5 (by decide)
      have g6_τ13 : τ13.2.1 6 = σ.2.1 6 := hf_τ13.2.1 6 (by decide)
      have g9_τ13 : τ13.2.1 9 = σ.2.1 9 := hf_τ13.2.1 9 (by decide)
      have g10_τ13 : τ13.2.1 10 = σ.2.1 10 := hf_τ13.2.1 10 (by decide)
      have g11_τ13 : τ13.2.1 11 = σ.2.1 11 := hf_τ13.2.1 11 (by decide)
      have g13_τ13 : τ13.2.1 13 = σ.2.1 13 := hf_τ13.2.1 13 (by decide)
      have g14_τ13 : τ13.2.1 14 = σ.2.1 14 := hf_τ13.2.1 14 (by decide)
      have g15_τ13 : τ13.2.1 15 = σ.2.1 15 := hf_τ13.2.1 15 (by decide)
      have g16_τ13 : τ13.2.1 16 = σ.2.1 16 := hf_τ13.2.1 16 (by decide)
      have g18_τ13 : τ13.2.1 18 = σ.2.1 18 := hf_τ13.2.1 18 (by decide)
      have g19_τ13 : τ13.2.1 19 = σ.2.1 19 := hf_τ13.2.1 19 (by decide)
      have g20_τ13 : τ13.2.1 20 = σ.2.1 20 := hf_τ13.2.1 20 (by decide)
      have g22_τ13 : τ13.2.1 22 = σ.2.1 22 := hf_τ13.2.1 22 (by decide)
      have g25_τ13 : τ13.2.1 25 = σ.2.1 25 := hf_τ13.2.1 25 (by decide)
      have g26_τ13 : τ13.2.1 26 = σ.2.1 26 := hf_τ13.2.1 26 (by decide)
      have g27_τ13 : τ13.2.1 27 = σ.2.1 27 := hf_τ13.2.1 27 (by decide)
      have g28_τ13 : τ13.2.1 28 = σ.2.1 28 := hf_τ13.2.1 28 (by decide)
      have g29_τ13 : τ13.2.1 29 = σ.2.1 29 := hf_τ13.2.1 29 (by decide)
      have g30_τ13 : τ13.2.1 30 = σ.2.1 30 := hf_τ13.2.1 30 (by decide)
      have g31_τ13 : τ13.2.1 31 = σ.2.1 31 := hf_τ13.2.1 31 (by decide)
      have g32_τ13 : τ13.2.1 32 = σ.2.1 32 := hf_τ13.2.1 32 (by decide)
      have g33_τ13 : τ13.2.1 33 = σ.2.1 33 := hf_τ13.2.1 33 (by decide)
      have g34_τ13 : τ13.2.1 34 = σ.2.1 34 := hf_τ13.2.1 34 (by decide)
      have g35_τ13 : τ13.2.1 35 = σ.2.1 35 := hf_τ13.2.1 35 (by decide)
      have g36_τ13 : τ13.2.1 36 = σ.2.1 36 := hf_τ13.2.1 36 (by decide)
      have g37_τ13 : τ13.2.1 37 = σ.2.1 37 := hf_τ13.2.1 37 (by decide)
      have g44_τ13 : τ13.2.1 44 = σ.2.1 44 := hf_τ13.2.1 44 (by decide)
      have g45_τ13 : τ13.2.1 45 = σ.2.1 45 := hf_τ13.2.1 45 (by decide)
      have g49_τ13 : τ13.2.1 49 = σ.2.1 49 := hf_τ13.2.1 49 (by decide)
      have g51_τ13 : τ13.2.1 51 = σ.2.1 51 := hf_τ13.2.1 51 (by decide)
      have g54_τ13 : τ13.2.1 54 = σ.2.1 54 := hf_τ13.2.1 54 (by decide)
      have W3 : τ13.1 3 = σ.1 3 := by first | exact w3_τ13.trans W3 | omega
      have W4 : τ13.1 4 = σ.1 4 := by first | exact w4_τ13.trans W4 | omega
      have W5 : τ13.1 5 = σ.1 5 := by first | exact w5_τ13.trans W5 | omega
      have W6 : τ13.1 6 = σ.1 6 := by first | exact w6_τ13.trans W6 | omega
      have W7 : τ13.1 7 = σ.1 7 := by first | exact w7_τ13.trans W7 | omega
      have W15 : τ13.1 15 = σ.1 15 := by first | exact w15_τ13.trans W15 | omega
      have W16 : τ13.1 16 = σ.1 16 := by first | exact w16_τ13.trans W16 | omega
      have G2 : τ13.2.1 2 = σ.2.1 2 := (g2_τ13).trans G2
      have G3 : τ13.2.1 3 = σ.2.1 3 := (g3_τ13).trans G3
      have G4 : τ13.2.1 4 = σ.2.1 4 := (g4_τ13).trans G4
      have G5 : τ13.2.1 5 = σ.2.1 5 := (g5_τ13).trans G5
      have G6 : τ13.2.1 6 = σ.2.1 6 := (g6_τ13).trans G6
      have G9 : τ13.2.1 9 = σ.2.1 9 := (g9_τ13).trans G9
      have G10 : τ13.2.1 10 = σ.2.1 10 := (g10_τ13).trans G10
      have G11 : τ13.2.1 11 = σ.2.1 11 := (g11_τ13).trans G11
      have G13 : τ13.2.1 13 = σ.2.1 13 := (g13_τ13).trans G13
      have G14 : τ13.2.1 14 = σ.2.1 14 := (g14_τ13).trans G14
      have G15 : τ13.2.1 15 = σ.2.1 15 := (g15_τ13).trans G15
      have G16 : τ13.2.1 16 = σ.2.1 16 := (g16_τ13).trans G16
      have G20 : τ13.2.1 20 = σ.2.1 20 := (g20_τ13).trans G20
      have G22 : τ13.2.1 22 = σ.2.1 22 := (g22_τ13).trans G22
      have G33 : τ13.2.1 33 = σ.2.1 33 := (g33_τ13).trans G33
      have G34 : τ13.2.1 34 = σ.2.1 34 := (g34_τ13).trans G34
      have G35 : τ13.2.1 35 = σ.2.1 35 := (g35_τ13).trans G35
      have G36 : τ13.2.1 36 = σ.2.1 36 := (g36_τ13).trans G36
      have G37 : τ13.2.1 37 = σ.2.1 37 := (g37_τ13).trans G37
      have G44 : τ13.2.1 44 = σ.2.1 44 := (g44_τ13).trans G44
      have G45 : τ13.2.1 45 = σ.2.1 45 := (g45_τ13).trans G45
      have G49 : τ13.2.1 49 = σ.2.1 49 := (g49_τ13).trans G49
      have G51 : τ13.2.1 51 = σ.2.1 51 := (g51_τ13).trans G51
      have G54 : τ13.2.1 54 = σ.2.1 54 := (g54_τ13).trans G54
      have y14_7_τ13 : τ13.2.1 14 (τ13.1 7) = (σ.2.1 14) (σ.1 7) := by rw [g14_τ13, w7_τ13]
      have y36_15_τ13 : τ13.2.1 36 (τ13.1 15) = (σ.2.1 36) (σ.1 15) := by rw [g36_τ13, w15_τ13]
      have HT : J_ht (τ13.1 3) (τ13.2.1 2) (τ13.2.1 3) (τ13.2.1 5) (τ13.2.1 6) := by rw [show (J_ht (τ13.1 3) (τ13.2.1 2) (τ13.2.1 3) (τ13.2.1 5) (τ13.2.1 6)) = (J_ht (σ.1 3) (σ.2.1 2) (σ.2.1 3) (σ.2.1 5) (σ.2.1 6)) from by rw [w3_τ13, g2_τ13, g3_τ13, g5_τ13, g6_τ13]]; exact HT
      have NL : J_nl (τ13.1 3) (τ13.2.1 2) (τ13.2.1 3) (τ13.2.1 4) := by rw [show (J_nl (τ13.1 3) (τ13.2.1 2) (τ13.2.1 3) (τ13.2.1 4)) = (J_nl (σ.1 3) (σ.2.1 2) (σ.2.1 3) (σ.2.1 4)) from by rw [w3_τ13, g2_τ13, g3_τ13, g4_τ13]]; exact NL
      have MN : J_mn (τ13.1 3) (τ13.1 5) ((τ13.1 7) + 1) (τ13.2.1 4) := by rw [show (J_mn (τ13.1 3) (τ13.1 5) ((τ13.1 7) + 1) (τ13.2.1 4)) = (J_mn (σ.1 3) (σ.1 5) ((σ.1 7) + 1) (σ.2.1 4)) from by rw [w3_τ13, w5_τ13, w7_τ13, g4_τ13]]; exact MN
      have VA : J_va (τ13.1 8) 1000 (τ13.2.1 18) (τ13.2.1 20) := by rw [show (J_va (τ13.1 8) 1000 (τ13.2.1 18) (τ13.2.1 20)) = (J_va (σ.1 8) 1000 (σ.2.1 18) (σ.2.1 20)) from by rw [w8_τ13, g18_τ13, g20_τ13]]; exact VA
      have SC : J_sc (τ13.1 7) (τ13.1 9) (τ13.2.1 13) (τ13.2.1 14) (τ13.2.1 15) (τ13.2.1 16) (τ13.2.1 22) (τ13.2.1 19) := by rw [show (J_sc (τ13.1 7) (τ13.1 9) (τ13.2.1 13) (τ13.2.1 14) (τ13.2.1 15) (τ13.2.1 16) (τ13.2.1 22) (τ13.2.1 19)) = (J_sc (σ.1 7) (σ.1 9) (σ.2.1 13) (σ.2.1 14) (σ.2.1 15) (σ.2.1 16) (σ.2.1 22) (σ.2.1 19)) from by rw [w7_τ13, w9_τ13, g13_τ13, g14_τ13, g15_τ13, g16_τ13, g19_τ13, g22_τ13]]; exact SC
      have MK : J_mk (τ13.1 11) (τ13.1 8) (τ13.1 9) (τ13.1 10) (τ13.2.1 25) := by rw [show (J_mk (τ13.1 11) (τ13.1 8) (τ13.1 9) (τ13.1 10) (τ13.2.1 25)) = (J_mk (σ.1 11) (σ.1 8) (σ.1 9) (σ.1 10) (σ.2.1 25)) from by rw [w8_τ13, w9_τ13, w10_τ13, w11_τ13, g25_τ13]]; exact MK
      have FF : J_ff (τ13.1 5) (τ13.1 7) (τ13.2.1 9) (τ13.2.1 13) (τ13.2.1 14) (τ13.2.1 15) := by rw [show (J_ff (τ13.1 5) (τ13.1 7) (τ13.2.1 9) (τ13.2.1 13) (τ13.2.1 14) (τ13.2.1 15)) = (J_ff (σ.1 5) (σ.1 7) (σ.2.1 9) (σ.2.1 13) (σ.2.1 14) (σ.2.1 15)) from by rw [w5_τ13, w7_τ13, g9_τ13, g13_τ13, g14_τ13, g15_τ13]]; exact FF
      have MT : ∀ s : Int, τ13.2.1 26 s ≤ (τ13.1 12) := by rw [show (∀ s : Int, τ13.2.1 26 s ≤ (τ13.1 12)) = (∀ s : Int, σ.2.1 26 s ≤ (σ.1 12)) from by rw [w12_τ13, g26_τ13]]; exact MT
      have VS : J_vs (τ13.1 8) (τ13.1 5) (τ13.2.1 20) := by rw [show (J_vs (τ13.1 8) (τ13.1 5) (τ13.2.1 20)) = (J_vs (σ.1 8) (σ.1 5) (σ.2.1 20)) from by rw [w5_τ13, w8_τ13, g20_τ13]]; exact VS
      have TX : J_vs (τ13.1 6) (τ13.1 5) (τ13.2.1 15) := by rw [show (J_vs (τ13.1 6) (τ13.1 5) (τ13.2.1 15)) = (J_vs (σ.1 6) (σ.1 5) (σ.2.1 15)) from by rw [w5_τ13, w6_τ13, g15_τ13]]; exact TX
      have RKS : J_rks (τ13.1 5) (τ13.1 4) (τ13.2.1 10) (τ13.2.1 11) := by rw [show (J_rks (τ13.1 5) (τ13.1 4) (τ13.2.1 10) (τ13.2.1 11)) = (J_rks (σ.1 5) (σ.1 4) (σ.2.1 10) (σ.2.1 11)) from by rw [w4_τ13, w5_τ13, g10_τ13, g11_τ13]]; exact RKS
      have CJ : J_all (τ13.1 7) (τ13.1 6) (τ13.1 13) (τ13.1 14) (τ13.1 15) (τ13.2.1 13) (τ13.2.1 14) (τ13.2.1 15) (τ13.2.1 16) (τ13.2.1 10) (τ13.2.1 27) (τ13.2.1 28) (τ13.2.1 29) (τ13.2.1 30) (τ13.2.1 31) (τ13.2.1 32) (τ13.2.1 33) (τ13.2.1 34) (τ13.2.1 35) (τ13.2.1 36) (τ13.2.1 37) := by rw [show (J_all (τ13.1 7) (τ13.1 6) (τ13.1 13) (τ13.1 14) (τ13.1 15) (τ13.2.1 13) (τ13.2.1 14) (τ13.2.1 15) (τ13.2.1 16) (τ13.2.1 10) (τ13.2.1 27) (τ13.2.1 28) (τ13.2.1 29) (τ13.2.1 30) (τ13.2.1 31) (τ13.2.1 32) (τ13.2.1 33) (τ13.2.1 34) (τ13.2.1 35) (τ13.2.1 36) (τ13.2.1 37)) = (J_all (σ.1 7) (σ.1 6) (σ.1 13) (σ.1 14) (σ.1 15) (σ.2.1 13) (σ.2.1 14) (σ.2.1 15) (σ.2.1 16) (σ.2.1 10) (σ.2.1 27) (σ.2.1 28) (σ.2.1 29) (σ.2.1 30) (σ.2.1 31) (σ.2.1 32) (σ.2.1 33) (σ.2.1 34) (σ.2.1 35) (σ.2.1 36) (σ.2.1 37)) from by rw [w6_τ13, w7_τ13, w13_τ13, w14_τ13, w15_τ13, g10_τ13, g13_τ13, g14_τ13, g15_τ13, g16_τ13, g27_τ13, g28_τ13, g29_τ13, g30_τ13, g31_τ13, g32_τ13, g33_τ13, g34_τ13, g35_τ13, g36_τ13, g37_τ13]]; exact CJ
      have BP : J_bp (τ13.2.1 44) (τ13.2.1 45) := by rw [show (J_bp (τ13.2.1 44) (τ13.2.1 45)) = (J_bp (σ.2.1 44) (σ.2.1 45)) from by rw [g44_τ13, g45_τ13]]; exact BP
      have CH : j_eq (σ.2.1 36 (σ.1 15)) (σ.2.1 37) (τ13.2.1 37) := by rw [show (j_eq (σ.2.1 36 (σ.1 15)) (σ.2.1 37) (τ13.2.1 37)) = (j_eq (σ.2.1 36 (σ.1 15)) (σ.2.1 37) (σ.2.1 37)) from by rw [g37_τ13]]; exact CH
      have A2 : ∀ j, 0 ≤ τ13.2.1 2 j ∧ τ13.2.1 2 j ≤ 65535 := fun j => hT.2 2 j
      have A3 : ∀ j, 0 ≤ τ13.2.1 3 j ∧ τ13.2.1 3 j ≤ 30000 := fun j => hT.2 3 j
      have A4 : ∀ j, (-1000) ≤ τ13.2.1 4 j ∧ τ13.2.1 4 j ≤ 1499 := fun j => hT.2 4 j
      have A5 : ∀ j, 0 ≤ τ13.2.1 5 j ∧ τ13.2.1 5 j ≤ 2500 := fun j => hT.2 5 j
      have A6 : ∀ j, 0 ≤ τ13.2.1 6 j ∧ τ13.2.1 6 j ≤ 2500 := fun j => hT.2 6 j
      have A9 : ∀ j, (-1) ≤ τ13.2.1 9 j ∧ τ13.2.1 9 j ≤ 1499 := fun j => hT.2 9 j
      have A10 : ∀ j, (-1) ≤ τ13.2.1 10 j ∧ τ13.2.1 10 j ≤ 99 := fun j => hT.2 10 j
      have A11 : ∀ j, 0 ≤ τ13.2.1 11 j ∧ τ13.2.1 11 j ≤ 999 := fun j => hT.2 11 j
      have A13 : ∀ j, 0 ≤ τ13.2.1 13 j ∧ τ13.2.1 13 j ≤ 4 := fun j => hT.2 13 j
      have A14 : ∀ j, 0 ≤ τ13.2.1 14 j ∧ τ13.2.1 14 j ≤ 30000 := fun j => hT.2 14 j
      have A15 : ∀ j, 0 ≤ τ13.2.1 15 j ∧ τ13.2.1 15 j ≤ 999 := fun j => hT.2 15 j
      have A16 : ∀ j, (-1) ≤ τ13.2.1 16 j ∧ τ13.2.1 16 j ≤ 1499 := fun j => hT.2 16 j
      have A18 : ∀ j, 0 ≤ τ13.2.1 18 j ∧ τ13.2.1 18 j ≤ 1 := fun j => hT.2 18 j
      have A19 : ∀ j, (-1) ≤ τ13.2.1 19 j ∧ τ13.2.1 19 j ≤ 1499 := fun j => hT.2 19 j
      have A20 : ∀ j, 0 ≤ τ13.2.1 20 j ∧ τ13.2.1 20 j ≤ 999 := fun j => hT.2 20 j
      have A22 : ∀ j, 0 ≤ τ13.2.1 22 j ∧ τ13.2.1 22 j ≤ 1499 := fun j => hT.2 22 j
      have A26 : ∀ j, (-2147483648) ≤ τ13.2.1 26 j ∧ τ13.2.1 26 j ≤ 2147483647 := fun j => hT.2 26 j
      have A27 : ∀ j, 0 ≤ τ13.2.1 27 j ∧ τ13.2.1 27 j ≤ 90000 := fun j => hT.2 27 j
      have A28 : ∀ j, 0 ≤ τ13.2.1 28 j ∧ τ13.2.1 28 j ≤ 60 := fun j => hT.2 28 j
      have A29 : ∀ j, 0 ≤ τ13.2.1 29 j ∧ τ13.2.1 29 j ≤ 1499 := fun j => hT.2 29 j
      have A30 : ∀ j, 0 ≤ τ13.2.1 30 j ∧ τ13.2.1 30 j ≤ 20000 := fun j => hT.2 30 j
      have A31 : ∀ j, 0 ≤ τ13.2.1 31 j ∧ τ13.2.1 31 j ≤ 20000 := fun j => hT.2 31 j
      have A32 : ∀ j, 0 ≤ τ13.2.1 32 j ∧ τ13.2.1 32 j ≤ 999999 := fun j => hT.2 32 j
      have A33 : ∀ j, 0 ≤ τ13.2.1 33 j ∧ τ13.2.1 33 j ≤ 20000 := fun j => hT.2 33 j
      have A34 : ∀ j, 0 ≤ τ13.2.1 34 j ∧ τ13.2.1 34 j ≤ 20000 := fun j => hT.2 34 j
      have A35 : ∀ j, 0 ≤ τ13.2.1 35 j ∧ τ13.2.1 35 j ≤ 1499 := fun j => hT.2 35 j
      have A36 : ∀ j, 0 ≤ τ13.2.1 36 j ∧ τ13.2.1 36 j ≤ 20000 := fun j => hT.2 36 j
      have A37 : ∀ j, 0 ≤ τ13.2.1 37 j ∧ τ13.2.1 37 j ≤ 19999 := fun j => hT.2 37 j
      have A44 : ∀ j, 0 ≤ τ13.2.1 44 j ∧ τ13.2.1 44 j ≤ 42000 := fun j => hT.2 44 j
      have A45 : ∀ j, 0 ≤ τ13.2.1 45 j ∧ τ13.2.1 45 j ≤ 1000 := fun j => hT.2 45 j
      have A49 : ∀ j, (-300) ≤ τ13.2.1 49 j ∧ τ13.2.1 49 j ≤ 67035 := fun j => hT.2 49 j
      have A51 : ∀ j, 0 ≤ τ13.2.1 51 j ∧ τ13.2.1 51 j ≤ 1499 := fun j => hT.2 51 j
      have A54 : ∀ j, 0 ≤ τ13.2.1 54 j ∧ τ13.2.1 54 j ≤ 999 := fun j => hT.2 54 j
      have v3 : 0 ≤ τ13.1 3 ∧ τ13.1 3 ≤ 2500 := hT.1 3
      have v4 : 0 ≤ τ13.1 4 ∧ τ13.1 4 ≤ 100 := hT.1 4
      have v5 : 0 ≤ τ13.1 5 ∧ τ13.1 5 ≤ 1000 := hT.1 5
      have v6 : 0 ≤ τ13.1 6 ∧ τ13.1 6 ≤ 30000 := hT.1 6
      have v7 : 0 ≤ τ13.1 7 ∧ τ13.1 7 ≤ 1500 := hT.1 7
      have v8 : 0 ≤ τ13.1 8 ∧ τ13.1 8 ≤ 1000 := hT.1 8
      have v9 : 0 ≤ τ13.1 9 ∧ τ13.1 9 ≤ 1500 := hT.1 9
      have v10 : 0 ≤ τ13.1 10 ∧ τ13.1 10 ≤ 1000 := hT.1 10
      have v11 : 0 ≤ τ13.1 11 ∧ τ13.1 11 ≤ 50 := hT.1 11
      have v12 : (-2147483648) ≤ τ13.1 12 ∧ τ13.1 12 ≤ 2147483647 := hT.1 12
      have v13 : 0 ≤ τ13.1 13 ∧ τ13.1 13 ≤ 90000 := hT.1 13
      have v14 : 0 ≤ τ13.1 14 ∧ τ13.1 14 ≤ 20000 := hT.1 14
      have v15 : 0 ≤ τ13.1 15 ∧ τ13.1 15 ≤ 20000 := hT.1 15
      have v16 : 0 ≤ τ13.1 16 ∧ τ13.1 16 ≤ 20000 := hT.1 16
      have v21 : 0 ≤ τ13.1 21 ∧ τ13.1 21 ≤ 20000 := hT.1 21
      have v22 : 0 ≤ τ13.1 22 ∧ τ13.1 22 ≤ 300 := hT.1 22
      have v23 : 0 ≤ τ13.1 23 ∧ τ13.1 23 ≤ 300 := hT.1 23
      have v24 : 0 ≤ τ13.1 24 ∧ τ13.1 24 ≤ 1499 := hT.1 24
      have v25 : 0 ≤ τ13.1 25 ∧ τ13.1 25 ≤ 3 := hT.1 25
      have v26 : 0 ≤ τ13.1 26 ∧ τ13.1 26 ≤ 5000010 := hT.1 26
      have v27 : 0 ≤ τ13.1 27 ∧ τ13.1 27 ≤ 1 := hT.1 27
      have v35 : 0 ≤ τ13.1 35 ∧ τ13.1 35 ≤ 7 := hT.1 35
      have v36 : 0 ≤ τ13.1 36 ∧ τ13.1 36 ≤ 1001 := hT.1 36
      have v37 : 0 ≤ τ13.1 37 ∧ τ13.1 37 ≤ 4 := hT.1 37
      have a14_7 : 0 ≤ τ13.2.1 14 (τ13.1 7) ∧ τ13.2.1 14 (τ13.1 7) ≤ 30000 := hT.2 14 _
      have a36_15 : 0 ≤ τ13.2.1 36 (τ13.1 15) ∧ τ13.2.1 36 (τ13.1 15) ≤ 20000 := hT.2 36 _
      have av13 : σ.1 13 ≤ τ13.1 13 := ag.1 13 (by decide)
      have av14 : σ.1 14 ≤ τ13.1 14 := ag.1 14 (by decide)
      exact ⟨hT, (show 0 ≤ x12 ∧ x12 ≤ 19 from by (first | assumption | omega | (simp only [st_s] <;> omega) | fail)), (show J_ht (τ13.1 3) (τ13.2.1 2) (τ13.2.1 3) (τ13.2.1 5) (τ13.2.1 6) from HT), (show J_mn (τ13.1 3) (τ13.1 5) ((τ13.1 7) + 1) (τ13.2.1 4) from MN), (show J_rks (τ13.1 5) (τ13.1 4) (τ13.2.1 10) (τ13.2.1 11) from RKS), (show J_vs (τ13.1 8) (τ13.1 5) (τ13.2.1 20) from VS), (show J_vs (τ13.1 6) (τ13.1 5) (τ13.2.1 15) from TX), (show J_va (τ13.1 8) 1000 (τ13.2.1 18) (τ13.2.1 20) from VA), (show J_mk (τ13.1 11) (τ13.1 8) (τ13.1 9) (τ13.1 10) (τ13.2.1 25) from MK), (show J_sc (τ13.1 7) (τ13.1 9) (τ13.2.1 13) (τ13.2.1 14) (τ13.2.1 15) (τ13.2.1 16) (τ13.2.1 22) (τ13.2.1 19) from SC), (show J_ff (τ13.1 5) (τ13.1 7) (τ13.2.1 9) (τ13.2.1 13) (τ13.2.1 14) (τ13.2.1 15) from FF), (show ∀ s : Int, τ13.2.1 26 s ≤ (τ13.1 12) from MT), (show J_all (τ13.1 7) (τ13.1 6) (τ13.1 13) (τ13.1 14) (τ13.1 15) (τ13.2.1 13) (τ13.2.1 14) (τ13.2.1 15) (τ13.2.1 16) (τ13.2.1 10) (τ13.2.1 27) (τ13.2.1 28) (τ13.2.1 29) (τ13.2.1 30) (τ13.2.1 31) (τ13.2.1 32) (τ13.2.1 33) (τ13.2.1 34) (τ13.2.1 35) (τ13.2.1 36) (τ13.2.1 37) from CJ), (show J_bp (τ13.2.1 44) (τ13.2.1 45) from BP), (show J_nl (τ13.1 3) (τ13.2.1 2) (τ13.2.1 3) (τ13.2.1 4) from NL), (show x12 = 0 → J_rs (τ13.1 35) (τ13.1 7) (τ13.1 6) (τ13.1 36) (τ13.1 37) (τ13.1 5) (τ13.1 8) (τ13.2.1 14) from by (first | exact fun z => absurd z (by decide) | exact q1_15 | exact q4_15 | exact q7_15 | (intro z; have w := q15_2 z; have rs := J_rs_0 p14 (by omega); unfold J_rs; rw [G14, W7]; omega) | (intro z; have rs := J_rs_0 p14 (by omega); have r1 := J_rs_1 p14 (by omega); unfold J_rs; rw [G14, W7]; omega) | (first | exact fun z => absurd z (by decide) | exact fun _ => RS | (intro z; have rs := p14; unfold J_rs at rs ⊢; omega) | (intro z; have rs := p14; unfold J_rs at rs ⊢; rw [G14, W7]; omega)) | fail)), (show x12 = 0 → J_uc (τ13.1 35) (τ13.1 36) (τ13.2.1 10 (τ13.2.1 15 (τ13.2.1 14 (τ13.1 7)))) from by (first | exact fun z => absurd z (by decide) | exact q1_16 | exact q4_16 | exact q7_16 | (intro z y y2; exfalso; omega) | (intro z y; have w := q15_2 z; exfalso; omega) | (first | exact fun z => absurd z (by decide) | (intro z y; exfalso; omega) | exact fun _ => UC | exact fun _ => uc | (intro z y y2; exact uc (by omega) (by omega)) | (intro z y y2; exfalso; omega) | (intro z y y2; rw [G10, G14, G15, W7]; exact uc (by omega) (by omega))) | fail)), (show x12 = 0 → J_dj (τ13.1 35) (τ13.1 36) (τ13.2.1 54) from by (first | exact fun z => absurd z (by decide) | exact q1_17 | exact q4_17 | exact q7_17 | (intro z y; rw [show τ17.1 36 = 0 from (q15_2 z).1]; exact j_in0 _ _) | (first | exact fun z => absurd z (by decide) | (intro z y; exfalso; omega) | exact fun _ => DJs | exact fun _ => dj) | fail)), (show x12 = 0 → J_it (τ13.1 35) (τ13.1 7) (τ13.1 6) (τ13.1 37) (τ13.2.1 14) (τ13.2.1 15) (τ13.2.1 16) (τ13.2.1 19) from by (first | exact fun z => absurd z (by decide) | exact q1_18 | exact q4_18 | exact q7_18 | (intro z y; have w := q15_2 z; exfalso; omega) | (intro z y; have rs := J_rs_0 p14 (by omega); exact J_ip0 (by rw [W6, G14, W7]; omega)) | (first | exact fun z => absurd z (by decide) | (intro z y; exfalso; omega) | exact fun _ => IPs | exact fun _ => ipx | (intro z y; exact ipx (by omega)) | (intro z y; rw [W7, W6, W37, G14, G15, G16, G19]; exact ipx (by omega))) | fail)), (show x12 = 0 → J_hu (τ13.1 35) (τ13.1 13) (τ13.1 7) from by (first | exact fun z => absurd z (by decide) | exact q1_19 | exact q4_19 | exact q7_19 | (intro z; have hu := hux; unfold J_hu at hu ⊢; omega) | (first | exact fun z => absurd z (by decide) | exact fun _ => HUs | (intro z; have hu := hux; unfold J_hu at hu ⊢; omega)) | fail)), (show x12 = 0 → J_ft (τ13.1 35) (τ13.1 24) (τ13.1 7) (τ13.1 13) (τ13.1 14) (τ13.2.1 13) (τ13.2.1 14) (τ13.2.1 15) (τ13.2.1 16) (τ13.2.1 27) (τ13.2.1 28) (τ13.2.1 29) (τ13.2.1 30) (τ13.2.1 31) (τ13.2.1 32) from by (first | exact fun z => absurd z (by decide) | exact q1_20 | exact q4_20 | exact q7_20 | (intro z y; have w := q15_2 z; exfalso; omega) | (intro z y; exfalso; omega) | (first | exact fun z => absurd z (by decide) | (intro z y; exfalso; omega) | exact fun _ => FRs | exact fun _ => frx | (intro z y; exact frx (by omega)) | (intro z y; have w := frx (by omega); rw [W7, W13, W14, W24, G13, G14, G15, G16, G27, G28, G29, G30, G31, G32]; exact w)) | fail)), (show x12 = 0 → J_ss (τ13.1 35) (τ13.1 24) (τ13.1 21) (τ13.1 23) (τ13.1 22) (τ13.1 27) (τ13.1 26) (τ13.1 25) (τ13.1 16) (τ13.2.1 49) (τ13.2.1 51) from by (first | exact fun z => absurd z (by decide) | exact q1_21 | exact q4_21 | exact q7_21 | (intro z y; have w := q15_2 z; exfalso; omega) | (intro z y; exfalso; omega) | (first | exact fun z => absurd z (by decide) | (intro z y; exfalso; omega) | exact fun _ => SPs | exact fun _ => spx | (intro z y; exact spx (by omega))) | fail)), (show x12 = 0 → (τ13.1 15) ≤ (τ13.1 16) ∧ τ13.2.1 36 (τ13.1 15) ≤ (τ13.1 16) from by (first | exact fun z => absurd z (by decide) | exact q1_22 | exact q4_22 | exact q7_22 | (intro z; first | exact sux | omega) | fail)), (show x12 = 0 → (τ13.1 9) ≤ (τ13.1 7) from by (first | exact fun z => absurd z (by decide) | exact q1_23 | exact q4_23 | exact q7_23 | (intro z; omega) | fail)), (show j_rr ((σ.1 5)) (σ.2.1 10) (τ13.2.1 10) from by (first | exact j_rr0 _ _ | exact q1_24 | exact q4_24 | exact q7_24 | (rw [G10]; exact j_rr0 _ _) | fail)), (show j_eq (σ.2.1 36 (σ.1 15)) (σ.2.1 37) (τ13.2.1 37) from CH), (show (τ13.1 12) ≤ (σ.1 12) + 1 from by (first | assumption | omega | (simp only [st_s] <;> omega) | fail)), (show c_Y σ τ13 from by (first | exact c_Y0 _ | exact c_Y_g W4 G11 G20 G22 G25 | exact q1_27 | exact q4_27 | exact q7_27 | exact c_Y_g (by omega) (by rw [g11_τ4]) (by rw [g20_τ4]) (by rw [g22_τ4]) (by rw [g25_τ4]) | exact c_Y_g (by omega) (by rw [g11_τ13]) (by rw [g20_τ13]) (by rw [g22_τ13]) (by rw [g25_τ13]) | exact c_Y_g (by omega) (by rw [g11_τ17]) (by rw [g20_τ17]) (by rw [g22_τ17]) (by rw [g25_τ17]) | fail)), ag⟩
  ·
    refine h109 _ _ ?_
    refine ⟨fun c10 => ?_, fun c10 => ?_⟩
    ·
      exact ⟨hT, (show 0 ≤ 4 ∧ 4 ≤ 19 from by (first | assumption | omega | (simp only [st_s] <;> omega) | fail)), (show J_ht (σ.1 3) (σ.2.1 2) (σ.2.1 3) (σ.2.1 5) (σ.2.1 6) from HT), (show J_mn (σ.1 3) (σ.1 5) ((σ.1 7) + 1) (σ.2.1 4) from MN), (show J_rks (σ.1 5) (σ.1 4) (σ.2.1 10) (σ.2.1 11) from RKS), (show J_vs (σ.1 8) (σ.1 5) (σ.2.1 20) from VS), (show J_vs (σ.1 6) (σ.1 5) (σ.2.1 15) from TX), (show J_va (σ.1 8) 1000 (σ.2.1 18) (σ.2.1 20) from VA), (show J_mk (σ.1 11) (σ.1 8) (σ.1 9) (σ.1 10) (σ.2.1 25) from MK), (show J_sc (σ.1 7) (σ.1 9) (σ.2.1 13) (σ.2.1 14) (σ.2.1 15) (σ.2.1 16) (σ.2.1 22) (σ.2.1 19) from SC), (show J_ff (σ.1 5) (σ.1 7) (σ.2.1 9) (σ.2.1 13) (σ.2.1 14) (σ.2.1 15) from FF), (show ∀ s : Int, σ.2.1 26 s ≤ (σ.1 12) from MT), (show J_all (σ.1 7) (σ.1 6) (σ.1 13) (σ.1 14) (σ.1 15) (σ.2.1 13) (σ.2.1 14) (σ.2.1 15) (σ.2.1 16) (σ.2.1 10) (σ.2.1 27) (σ.2.1 28) (σ.2.1 29) (σ.2.1 30) (σ.2.1 31) (σ.2.1 32) (σ.2.1 33) (σ.2.1 34) (σ.2.1 35) (σ.2.1 36) (σ.2.1 37) from CJ), (show J_bp (σ.2.1 44) (σ.2.1 45) from BP), (show J_nl (σ.1 3) (σ.2.1 2) (σ.2.1 3) (σ.2.1 4) from NL), (show 4 = 0 → J_rs (σ.1 35) (σ.1 7) (σ.1 6) (σ.1 36) (σ.1 37) (σ.1 5) (σ.1 8) (σ.2.1 14) from by (first | exact fun z => absurd z (by decide) | exact q1_15 | exact q4_15 | exact q7_15 | (intro z; have w := q15_2 z; have rs := J_rs_0 p14 (by omega); unfold J_rs; rw [G14, W7]; omega) | (intro z; have rs := J_rs_0 p14 (by omega); have r1 := J_rs_1 p14 (by omega); unfold J_rs; rw [G14, W7]; omega) | (first | exact fun z => absurd z (by decide) | exact fun _ => RS | (intro z; have rs := p14; unfold J_rs at rs ⊢; omega) | (intro z; have rs := p14; unfold J_rs at rs ⊢; rw [G14, W7]; omega)) | fail)), (show 4 = 0 → J_uc (σ.1 35) (σ.1 36) (σ.2.1 10 (σ.2.1 15 (σ.2.1 14 (σ.1 7)))) from by (first | exact fun z => absurd z (by decide) | exact q1_16 | exact q4_16 | exact q7_16 | (intro z y y2; exfalso; omega) | (intro z y; have w := q15_2 z; exfalso; omega) | (first | exact fun z => absurd z (by decide) | (intro z y; exfalso; omega) | exact fun _ => UC | exact fun _ => uc | (intro z y y2; exact uc (by omega) (by omega)) | (intro z y y2; exfalso; omega) | (intro z y y2; rw [G10, G14, G15, W7]; exact uc (by omega) (by omega))) | fail)), (show 4 = 0 → J_dj (σ.1 35) (σ.1 36) (σ.2.1 54) from by (first | exact fun z => absurd z (by decide) | exact q1_17 | exact q4_17 | exact q7_17 | (intro z y; rw [show τ17.1 36 = 0 from (q15_2 z).1]; exact j_in0 _ _) | (first | exact fun z => absurd z (by decide) | (intro z y; exfalso; omega) | exact fun _ => DJs | exact fun _ => dj) | fail)), (show 4 = 0 → J_it (σ.1 35) (σ.1 7) (σ.1 6) (σ.1 37) (σ.2.1 14) (σ.2.1 15) (σ.2.1 16) (σ.2.1 19) from by (first | exact fun z => absurd z (by decide) | exact q1_18 | exact q4_18 | exact q7_18 | (intro z y; have w := q15_2 z; exfalso; omega) | (intro z y; have rs := J_rs_0 p14 (by omega); exact J_ip0 (by rw [W6, G14, W7]; omega)) | (first | exact fun z => absurd z (by decide) | (intro z y; exfalso; omega) | exact fun _ => IPs | exact fun _ => ipx | (intro z y; exact ipx (by omega)) | (intro z y; rw [W7, W6, W37, G14, G15, G16, G19]; exact ipx (by omega))) | fail)), (show 4 = 0 → J_hu (σ.1 35) (σ.1 13) (σ.1 7) from by (first | exact fun z => absurd z (by decide) | exact q1_19 | exact q4_19 | exact q7_19 | (intro z; have hu := hux; unfold J_hu at hu ⊢; omega) | (first | exact fun z => absurd z (by decide) | exact fun _ => HUs | (intro z; have hu := hux; unfold J_hu at hu ⊢; omega)) | fail)), (show 4 = 0 → J_ft (σ.1 35) (σ.1 24) (σ.1 7) (σ.1 13) (σ.1 14) (σ.2.1 13) (σ.2.1 14) (σ.2.1 15) (σ.2.1 16) (σ.2.1 27) (σ.2.1 28) (σ.2.1 29) (σ.2.1 30) (σ.2.1 31) (σ.2.1 32) from by (first | exact fun z => absurd z (by decide) | exact q1_20 | exact q4_20 | exact q7_20 | (intro z y; have w := q15_2 z; exfalso; omega) | (intro z y; exfalso; omega) | (first | exact fun z => absurd z (by decide) | (intro z y; exfalso; omega) | exact fun _ => FRs | exact fun _ => frx | (intro z y; exact frx (by omega)) | (intro z y; have w := frx (by omega); rw [W7, W13, W14, W24, G13, G14, G15, G16, G27, G28, G29, G30, G31, G32]; exact w)) | fail)), (show 4 = 0 → J_ss (σ.1 35) (σ.1 24) (σ.1 21) (σ.1 23) (σ.1 22) (σ.1 27) (σ.1 26) (σ.1 25) (σ.1 16) (σ.2.1 49) (σ.2.1 51) from by (first | exact fun z => absurd z (by decide) | exact q1_21 | exact q4_21 | exact q7_21 | (intro z y; have w := q15_2 z; exfalso; omega) | (intro z y; exfalso; omega) | (first | exact fun z => absurd z (by decide) | (intro z y; exfalso; omega) | exact fun _ => SPs | exact fun _ => spx | (intro z y; exact spx (by omega))) | fail)), (show 4 = 0 → (σ.1 15) ≤ (σ.1 16) ∧ σ.2.1 36 (σ.1 15) ≤ (σ.1 16) from by (first | exact fun z => absurd z (by decide) | exact q1_22 | exact q4_22 | exact q7_22 | (intro z; first | exact sux | omega) | fail)), (show 4 = 0 → (σ.1 9) ≤ (σ.1 7) from by (first | exact fun z => absurd z (by decide) | exact q1_23 | exact q4_23 | exact q7_23 | (intro z; omega) | fail)), (show j_rr ((σ.1 5)) (σ.2.1 10) (σ.2.1 10) from by (first | exact j_rr0 _ _ | exact q1_24 | exact q4_24 | exact q7_24 | (rw [G10]; exact j_rr0 _ _) | fail)), (show j_eq (σ.2.1 36 (σ.1 15)) (σ.2.1 37) (σ.2.1 37) from CH), (show (σ.1 12) ≤ (σ.1 12) + 1 from by (first | assumption | omega | (simp only [st_s] <;> omega) | fail)), (show c_Y σ σ from by (first | exact c_Y0 _ | exact c_Y_g W4 G11 G20 G22 G25 | exact q1_27 | exact q4_27 | exact q7_27 | exact c_Y_g (by omega) (by rw [g11_τ4]) (by rw [g20_τ4]) (by rw [g22_τ4]) (by rw [g25_τ4]) | exact c_Y_g (by omega) (by rw [g11_τ13]) (by rw [g20_τ13]) (by rw [g22_τ13]) (by rw [g25_τ13]) | exact c_Y_g (by omega) (by rw [g11_τ17]) (by rw [g20_τ17]) (by rw [g22_τ17]) (by rw [g25_τ17]) | fail)), ag⟩
    ·
      refine ⟨_, K2_X7_statement hT, ?_⟩
      intro x12 τ13 r_x12 hn_τ13 hf_τ13 hq
      obtain ⟨hT, q11_1, q11_2, q11_3, q11_4⟩ := hq
      replace q11_1 : x12 = 0 := q11_1
      replace q11_2 : (τ13.1 36) = 0 := q11_2
      replace q11_3 : (τ13.1 35) = 5 := q11_3
      replace q11_4 : (τ13.1 37) ≤ 3 := q11_4
      replace ag : c_ag σ τ13 := ag_r ag hf_τ13 rfl rfl
      have w3_τ13 : τ13.1 3 = σ.1 3 := hf_τ13.1 3 (by decide)
      have w4_τ13 : τ13.1 4 = σ.1 4 := hf_τ13.1 4 (by decide)
      have w5_τ13 : τ13.1 5 = σ.1 5 := hf_τ13.1 5 (by decide)
      have w6_τ13 : τ13.1 6 = σ.1 6 := hf_τ13.1 6 (by decide)
      have w7_τ13 : τ13.1 7 = σ.1 7 := hf_τ13.1 7 (by decide)
      have w8_τ13 : τ13.1 8 = σ.1 8 := hf_τ13.1 8 (by decide)
      have w9_τ13 : τ13.1 9 = σ.1 9 := hf_τ13.1 9 (by decide)
      have w10_τ13 : τ13.1 10 = σ.1 10 := hf_τ13.1 10 (by decide)
      have w11_τ13 : τ13.1 11 = σ.1 11 := hf_τ13.1 11 (by decide)
      have w12_τ13 : τ13.1 12 = σ.1 12 := hf_τ13.1 12 (by decide)
      have w13_τ13 : τ13.1 13 = σ.1 13 := hf_τ13.1 13 (by decide)
      have w14_τ13 : τ13.1 14 = σ.1 14 := hf_τ13.1 14 (by decide)
      have w15_τ13 : τ13.1 15 = σ.1 15 := hf_τ13.1 15 (by decide)
      have w16_τ13 : τ13.1 16 = σ.1 16 := hf_τ13.1 16 (by decide)
      have w21_τ13 : τ13.1 21 = σ.1 21 := hf_τ13.1 21 (by decide)
      have w22_τ13 : τ13.1 22 = σ.1 22 := hf_τ13.1 22 (by decide)
      have w23_τ13 : τ13.1 23 = σ.1 23 := hf_τ13.1 23 (by decide)
      have w24_τ13 : τ13.1 24 = σ.1 24 := hf_τ13.1 24 (by decide)
      have w25_τ13 : τ13.1 25 = σ.1 25 := hf_τ13.1 25 (by decide)
      have w26_τ13 : τ13.1 26 = σ.1 26 := hf_τ13.1 26 (by decide)
      have w27_τ13 : τ13.1 27 = σ.1 27 := hf_τ13.1 27 (by decide)
      have g2_τ13 : τ13.2.1 2 = σ.2.1 2 := hf_τ13.2.1 2 (by decide)
      have g3_τ13 : τ13.2.1 3 = σ.2.1 3 := hf_τ13.2.1 3 (by decide)
      have g4_τ13 : τ13.2.1 4 = σ.2.1 4 := hf_τ13.2.1 4 (by decide)
      have g5_τ13 : τ13.2.1 5 = σ.2.1 5 := hf_τ13.2.1 5 (by decide)
      have g6_τ13 : τ13.2.1 6 = σ.2.1 6 := hf_τ13.2.1 6 (by decide)
      have g9_τ13 : τ13.2.1 9 = σ.2.1 9 := hf_τ13.2.1 9 (by decide)
      have g10_τ13 : τ13.2.1 10 = σ.2.1 10 := hf_τ13.2.1 10 (by decide)
      have g11_τ13 : τ13.2.1 11 = σ.2.1 11 := hf_τ13.2.1 11 (by decide)
      have g13_τ13 : τ13.2.1 13 = σ.2.1 13 := hf_τ13.2.1 13 (by decide)
      have g14_τ13 : τ13.2.1 14 = σ.2.1 14 := hf_τ13.2.1 14 (by decide)
      have g15_τ13 : τ13.2.1 15 = σ.2.1 15 := hf_τ13.2.1 15 (by decide)
      have g16_τ13 : τ13.2.1 16 = σ.2.1 16 := hf_τ13.2.1 16 (by decide)
      have g18_τ13 : τ13.2.1 18 = σ.2.1 18 := hf_τ13.2.1 18 (by decide)
      have g19_τ13 : τ13.2.1 19 = σ.2.1 19 := hf_τ13.2.1 19 (by decide)
      have g20_τ13 : τ13.2.1 20 = σ.2.1 20 := hf_τ13.2.1 20 (by decide)
      have g22_τ13 : τ13.2.1 22 = σ.2.1 22 := hf_τ13.2.1 22 (by decide)
      have g25_τ13 : τ13.2.1 25 = σ.2.1 25 := hf_τ13.2.1 25 (by decide)
      have g26_τ13 : τ13.2.1 26 = σ.2.1 26 := hf_τ13.2.1 26 (by decide)
      have g27_τ13 : τ13.2.1 27 = σ.2.1 27 := hf_τ13.2.1 27 (by decide)
      have g28_τ13 : τ13.2.1 28 = σ.2.1 28 := hf_τ13.2.1 28 (by decide)
      have g29_τ13 : τ13.2.1 29 = σ.2.1 29 := hf_τ13.2.1 29 (by decide)
      have g30_τ13 : τ13.2.1 30 = σ.2.1 30 := hf_τ13.2.1 30 (by decide)
      have g31_τ13 : τ13.2.1 31 = σ.2.1 31 := hf_τ13.2.1 31 (by decide)
      have g32_τ13 : τ13.2.1 32 = σ.2.1 32 := hf_τ13.2.1 32 (by decide)
      have g33_τ13 : τ13.2.1 33 = σ.2.1 33 := hf_τ13.2.1 33 (by decide)
      have g34_τ13 : τ13.2.1 34 = σ.2.1 34 := hf_τ13.2.1 34 (by decide)
      have g35_τ13 : τ13.2.1 35 = σ.2.1 35 := hf_τ13.2.1 35 (by decide)
      have g36_τ13 : τ13.2.1 36 = σ.2.1 36 := hf_τ13.2.1 36 (by decide)
      have g37_τ13 : τ13.2.1 37 = σ.2.1 37 := hf_τ13.2.1 37 (by decide)
      have g44_τ13 : τ13.2.1 44 = σ.2.1 44 := hf_τ13.2.1 44 (by decide)
      have g45_τ13 : τ13.2.1 45 = σ.2.1 45 := hf_τ13.2.1 45 (by decide)
      have g49_τ13 : τ13.2.1 49 = σ.2.1 49 := hf_τ13.2.1 49 (by decide)
      have g51_τ13 : τ13.2.1 51 = σ.2.1 51 := hf_τ13.2.1 51 (by decide)
      have g54_τ13 : τ13.2.1 54 = σ.2.1 54 := hf_τ13.2.1 54 (by decide)
      have W3 : τ13.1 3 = σ.1 3 := by first | exact w3_τ13.trans W3 | omega
      have W4 : τ13.1 4 = σ.1 4 := by first | exact w4_τ13.trans W4 | omega
      have W5 : τ13.1 5 = σ.1 5 := by first | exact w5_τ13.trans W5 | omega
      have W6 : τ13.1 6 = σ.1 6 := by first | exact w6_τ13.trans W6 | omega
      have W7 : τ13.1 7 = σ.1 7 := by first | exact w7_τ13.trans W7 | omega
      have W15 : τ13.1 15 = σ.1 15 := by first | exact w15_τ13.trans W15 | omega
      have W16 : τ13.1 16 = σ.1 16 := by first | exact w16_τ13.trans W16 | omega
      have G2 : τ13.2.1 2 = σ.2.1 2 := (g2_τ13).trans G2
      have G3 : τ13.2.1 3 = σ.2.1 3 := (g3_τ13).trans G3
      have G4 : τ13.2.1 4 = σ.2.1 4 := (g4_τ13).trans G4
      have G5 : τ13.2.1 5 = σ.2.1 5 := (g5_τ13).trans G5
      have G6 : τ13.2.1 6 = σ.2.1 6 := (g6_τ13).trans G6
      have G9 : τ13.2.1 9 = σ.2.1 9 := (g9_τ13).trans G9
      have G10 : τ13.2.1 10 = σ.2.1 10 := (g10_τ13).trans G10
      have G11 : τ13.2.1 11 = σ.2.1 11 := (g11_τ13).trans G11
      have G13 : τ13.2.1 13 = σ.2.1 13 := (g13_τ13).trans G13
      have G14 : τ13.2.1 14 = σ.2.1 14 := (g14_τ13).trans G14
      have G15 : τ13.2.1 15 = σ.2.1 15 := (g15_τ13).trans G15
      have G16 : τ13.2.1 16 = σ.2.1 16 := (g16_τ13).trans G16
      have G20 : τ13.2.1 20 = σ.2.1 20 := (g20_τ13).trans G20
      have G22 : τ13.2.1 22 = σ.2.1 22 := (g22_τ13).trans G22
      have G33 : τ13.2.1 33 = σ.2.1 33 := (g33_τ13).trans G33
      have G34 : τ13.2.1 34 = σ.2.1 34 := (g34_τ13).trans G34
      have G35 : τ13.2.1 35 = σ.2.1 35 := (g35_τ13).trans G35
      have G36 : τ13.2.1 36 = σ.2.1 36 := (g36_τ13).trans G36
      have G37 : τ13.2.1 37 = σ.2.1 37 := (g37_τ13).trans G37
      have G44 : τ13.2.1 44 = σ.2.1 44 := (g44_τ13).trans G44
      have G45 : τ13.2.1 45 = σ.2.1 45 := (g45_τ13).trans G45
      have G49 : τ13.2.1 49 = σ.2.1 49 := (g49_τ13).trans G49
      have G51 : τ13.2.1 51 = σ.2.1 51 := (g51_τ13).trans G51
      have G54 : τ13.2.1 54 = σ.2.1 54 := (g54_τ13).trans G54
      have y14_7_τ13 : τ13.2.1 14 (τ13.1 7) = (σ.2.1 14) (σ.1 7) := by rw [g14_τ13, w7_τ13]
      have y36_15_τ13 : τ13.2.1 36 (τ13.1 15) = (σ.2.1 36) (σ.1 15) := by rw [g36_τ13, w15_τ13]
      have HT : J_ht (τ13.1 3) (τ13.2.1 2) (τ13.2.1 3) (τ13.2.1 5) (τ13.2.1 6) := by rw [show (J_ht (τ13.1 3) (τ13.2.1 2) (τ13.2.1 3) (τ13.2.1 5) (τ13.2.1 6)) = (J_ht (σ.1 3) (σ.2.1 2) (σ.2.1 3) (σ.2.1 5) (σ.2.1 6)) from by rw [w3_τ13, g2_τ13, g3_τ13, g5_τ13, g6_τ13]]; exact HT
      have NL : J_nl (τ13.1 3) (τ13.2.1 2) (τ13.2.1 3) (τ13.2.1 4) := by rw [show (J_nl (τ13.1 3) (τ13.2.1 2) (τ13.2.1 3) (τ13.2.1 4)) = (J_nl (σ.1 3) (σ.2.1 2) (σ.2.1 3) (σ.2.1 4)) from by rw [w3_τ13, g2_τ13, g3_τ13, g4_τ13]]; exact NL
      have MN : J_mn (τ13.1 3) (τ13.1 5) ((τ13.1 7) + 1) (τ13.2.1 4) := by rw [show (J_mn (τ13.1 3) (τ13.1 5) ((τ13.1 7) + 1) (τ13.2.1 4)) = (J_mn (σ.1 3) (σ.1 5) ((σ.1 7) + 1) (σ.2.1 4)) from by rw [w3_τ13, w5_τ13, w7_τ13, g4_τ13]]; exact MN
      have VA : J_va (τ13.1 8) 1000 (τ13.2.1 18) (τ13.2.1 20) := by rw [show (J_va (τ13.1 8) 1000 (τ13.2.1 18) (τ13.2.1 20)) = (J_va (σ.1 8) 1000 (σ.2.1 18) (σ.2.1 20)) from by rw [w8_τ13, g18_τ13, g20_τ13]]; exact VA
      have SC : J_sc (τ13.1 7) (τ13.1 9) (τ13.2.1 13) (τ13.2.1 14) (τ13.2.1 15) (τ13.2.1 16) (τ13.2.1 22) (τ13.2.1 19) := by rw [show (J_sc (τ13.1 7) (τ13.1 9) (τ13.2.1 13) (τ13.2.1 14) (τ13.2.1 15) (τ13.2.1 16) (τ13.2.1 22) (τ13.2.1 19)) = (J_sc (σ.1 7) (σ.1 9) (σ.2.1 13) (σ.2.1 14) (σ.2.1 15) (σ.2.1 16) (σ.2.1 22) (σ.2.1 19)) from by rw [w7_τ13, w9_τ13, g13_τ13, g14_τ13, g15_τ13, g16_τ13, g19_τ13, g22_τ13]]; exact SC
      have MK : J_mk (τ13.1 11) (τ13.1 8) (τ13.1 9) (τ13.1 10) (τ13.2.1 25) := by rw [show (J_mk (τ13.1 11) (τ13.1 8) (τ13.1 9) (τ13.1 10) (τ13.2.1 25)) = (J_mk (σ.1 11) (σ.1 8) (σ.1 9) (σ.1 10) (σ.2.1 25)) from by rw [w8_τ13, w9_τ13, w10_τ13, w11_τ13, g25_τ13]]; exact MK
      have FF : J_ff (τ13.1 5) (τ13.1 7) (τ13.2.1 9) (τ13.2.1 13) (τ13.2.1 14) (τ13.2.1 15) := by rw [show (J_ff (τ13.1 5) (τ13.1 7) (τ13.2.1 9) (τ13.2.1 13) (τ13.2.1 14) (τ13.2.1 15)) = (J_ff (σ.1 5) (σ.1 7) (σ.2.1 9) (σ.2.1 13) (σ.2.1 14) (σ.2.1 15)) from by rw [w5_τ13, w7_τ13, g9_τ13, g13_τ13, g14_τ13, g15_τ13]]; exact FF
      have MT : ∀ s : Int, τ13.2.1 26 s ≤ (τ13.1 12) := by rw [show (∀ s : Int, τ13.2.1 26 s ≤ (τ13.1 12)) = (∀ s : Int, σ.2.1 26 s ≤ (σ.1 12)) from by rw [w12_τ13, g26_τ13]]; exact MT
      have VS : J_vs (τ13.1 8) (τ13.1 5) (τ13.2.1 20) := by rw [show (J_vs (τ13.1 8) (τ13.1 5) (τ13.2.1 20)) = (J_vs (σ.1 8) (σ.1 5) (σ.2.1 20)) from by rw [w5_τ13, w8_τ13, g20_τ13]]; exact VS
      have TX : J_vs (τ13.1 6) (τ13.1 5) (τ13.2.1 15) := by rw [show (J_vs (τ13.1 6) (τ13.1 5) (τ13.2.1 15)) = (J_vs (σ.1 6) (σ.1 5) (σ.2.1 15)) from by rw [w5_τ13, w6_τ13, g15_τ13]]; exact TX
      have RKS : J_rks (τ13.1 5) (τ13.1 4) (τ13.2.1 10) (τ13.2.1 11) := by rw [show (J_rks (τ13.1 5) (τ13.1 4) (τ13.2.1 10) (τ13.2.1 11)) = (J_rks (σ.1 5) (σ.1 4) (σ.2.1 10) (σ.2.1 11)) from by rw [w4_τ13, w5_τ13, g10_τ13, g11_τ13]]; exact RKS
      have CJ : J_all (τ13.1 7) (τ13.1 6) (τ13.1 13) (τ13.1 14) (τ13.1 15) (τ13.2.1 13) (τ13.2.1 14) (τ13.2.1 15) (τ13.2.1 16) (τ13.2.1 10) (τ13.2.1 27) (τ13.2.1 28) (τ13.2.1 29) (τ13.2.1 30) (τ13.2.1 31) (τ13.2.1 32) (τ13.2.1 33) (τ13.2.1 34) (τ13.2.1 35) (τ13.2.1 36) (τ13.2.1 37) := by rw [show (J_all (τ13.1 7) (τ13.1 6) (τ13.1 13) (τ13.1 14) (τ13.1 15) (τ13.2.1 13) (τ13.2.1 14) (τ13.2.1 15) (τ13.2.1 16) (τ13.2.1 10) (τ13.2.1 27) (τ13.2.1 28) (τ13.2.1 29) (τ13.2.1 30) (τ13.2.1 31) (τ13.2.1 32) (τ13.2.1 33) (τ13.2.1 34) (τ13.2.1 35) (τ13.2.1 36) (τ13.2.1 37)) = (J_all (σ.1 7) (σ.1 6) (σ.1 13) (σ.1 14) (σ.1 15) (σ.2.1 13) (σ.2.1 14) (σ.2.1 15) (σ.2.1 16) (σ.2.1 10) (σ.2.1 27) (σ.2.1 28) (σ.2.1 29) (σ.2.1 30) (σ.2.1 31) (σ.2.1 32) (σ.2.1 33) (σ.2.1 34) (σ.2.1 35) (σ.2.1 36) (σ.2.1 37)) from by rw [w6_τ13, w7_τ13, w13_τ13, w14_τ13, w15_τ13, g10_τ13, g13_τ13, g14_τ13, g15_τ13, g16_τ13, g27_τ13, g28_τ13, g29_τ13, g30_τ13, g31_τ13, g32_τ13, g33_τ13, g34_τ13, g35_τ13, g36_τ13, g37_τ13]]; exact CJ
      have BP : J_bp (τ13.2.1 44) (τ13.2.1 45) := by rw [show (J_bp (τ13.2.1 44) (τ13.2.1 45)) = (J_bp (σ.2.1 44) (σ.2.1 45)) from by rw [g44_τ13, g45_τ13]]; exact BP
      have CH : j_eq (σ.2.1 36 (σ.1 15)) (σ.2.1 37) (τ13.2.1 37) := by rw [show (j_eq (σ.2.1 36 (σ.1 15)) (σ.2.1 37) (τ13.2.1 37)) = (j_eq (σ.2.1 36 (σ.1 15)) (σ.2.1 37) (σ.2.1 37)) from by rw [g37_τ13]]; exact CH
      have A2 : ∀ j, 0 ≤ τ13.2.1 2 j ∧ τ13.2.1 2 j ≤ 65535 := fun j => hT.2 2 j
      have A3 : ∀ j, 0 ≤ τ13.2.1 3 j ∧ τ13.2.1 3 j ≤ 30000 := fun j => hT.2 3 j
      have A4 : ∀ j, (-1000) ≤ τ13.2.1 4 j ∧ τ13.2.1 4 j ≤ 1499 := fun j => hT.2 4 j
      have A5 : ∀ j, 0 ≤ τ13.2.1 5 j ∧ τ13.2.1 5 j ≤ 2500 := fun j => hT.2 5 j
      have A6 : ∀ j, 0 ≤ τ13.2.1 6 j ∧ τ13.2.1 6 j ≤ 2500 := fun j => hT.2 6 j
      have A9 : ∀ j, (-1) ≤ τ13.2.1 9 j ∧ τ13.2.1 9 j ≤ 1499 := fun j => hT.2 9 j
      have A10 : ∀ j, (-1) ≤ τ13.2.1 10 j ∧ τ13.2.1 10 j ≤ 99 := fun j => hT.2 10 j
      have A11 : ∀ j, 0 ≤ τ13.2.1 11 j ∧ τ13.2.1 11 j ≤ 999 := fun j => hT.2 11 j
      have A13 : ∀ j, 0 ≤ τ13.2.1 13 j ∧ τ13.2.1 13 j ≤ 4 := fun j => hT.2 13 j
      have A14 : ∀ j, 0 ≤ τ13.2.1 14 j ∧ τ13.2.1 14 j ≤ 30000 := fun j => hT.2 14 j
      have A15 : ∀ j, 0 ≤ τ13.2.1 15 j ∧ τ13.2.1 15 j ≤ 999 := fun j => hT.2 15 j
      have A16 : ∀ j, (-1) ≤ τ13.2.1 16 j ∧ τ13.2.1 16 j ≤ 1499 := fun j => hT.2 16 j
      have A18 : ∀ j, 0 ≤ τ13.2.1 18 j ∧ τ13.2.1 18 j ≤ 1 := fun j => hT.2 18 j
      have A19 : ∀ j, (-1) ≤ τ13.2.1 19 j ∧ τ13.2.1 19 j ≤ 1499 := fun j => hT.2 19 j
      have A20 : ∀ j, 0 ≤ τ13.2.1 20 j ∧ τ13.2.1 20 j ≤ 999 := fun j => hT.2 20 j
      have A22 : ∀ j, 0 ≤ τ13.2.1 22 j ∧ τ13.2.1 22 j ≤ 1499 := fun j => hT.2 22 j
      have A26 : ∀ j, (-2147483648) ≤ τ13.2.1 26 j ∧ τ13.2.1 26 j ≤ 2147483647 := fun j => hT.2 26 j
      have A27 : ∀ j, 0 ≤ τ13.2.1 27 j ∧ τ13.2.1 27 j ≤ 90000 := fun j => hT.2 27 j
      have A28 : ∀ j, 0 ≤ τ13.2.1 28 j ∧ τ13.2.1 28 j ≤ 60 := fun j => hT.2 28 j
      have A29 : ∀ j, 0 ≤ τ13.2.1 29 j ∧ τ13.2.1 29 j ≤ 1499 := fun j => hT.2 29 j
      have A30 : ∀ j, 0 ≤ τ13.2.1 30 j ∧ τ13.2.1 30 j ≤ 20000 := fun j => hT.2 30 j
      have A31 : ∀ j, 0 ≤ τ13.2.1 31 j ∧ τ13.2.1 31 j ≤ 20000 := fun j => hT.2 31 j
      have A32 : ∀ j, 0 ≤ τ13.2.1 32 j ∧ τ13.2.1 32 j ≤ 999999 := fun j => hT.2 32 j
      have A33 : ∀ j, 0 ≤ τ13.2.1 33 j ∧ τ13.2.1 33 j ≤ 20000 := fun j => hT.2 33 j
      have A34 : ∀ j, 0 ≤ τ13.2.1 34 j ∧ τ13.2.1 34 j ≤ 20000 := fun j => hT.2 34 j
      have A35 : ∀ j, 0 ≤ τ13.2.1 35 j ∧ τ13.2.1 35 j ≤ 1499 := fun j => hT.2 35 j
      have A36 : ∀ j, 0 ≤ τ13.2.1 36 j ∧ τ13.2.1 36 j ≤ 20000 := fun j => hT.2 36 j
      have A37 : ∀ j, 0 ≤ τ13.2.1 37 j ∧ τ13.2.1 37 j ≤ 19999 := fun j => hT.2 37 j
      have A44 : ∀ j, 0 ≤ τ13.2.1 44 j ∧ τ13.2.1 44 j ≤ 42000 := fun j => hT.2 44 j
      have A45 : ∀ j, 0 ≤ τ13.2.1 45 j ∧ τ13.2.1 45 j ≤ 1000 := fun j => hT.2 45 j
      have A49 : ∀ j, (-300) ≤ τ13.2.1 49 j ∧ τ13.2.1 49 j ≤ 67035 := fun j => hT.2 49 j
      have A51 : ∀ j, 0 ≤ τ13.2.1 51 j ∧ τ13.2.1 51 j ≤ 1499 := fun j => hT.2 51 j
      have A54 : ∀ j, 0 ≤ τ13.2.1 54 j ∧ τ13.2.1 54 j ≤ 999 := fun j => hT.2 54 j
      have v3 : 0 ≤ τ13.1 3 ∧ τ13.1 3 ≤ 2500 := hT.1 3
      have v4 : 0 ≤ τ13.1 4 ∧ τ13.1 4 ≤ 100 := hT.1 4
      have v5 : 0 ≤ τ13.1 5 ∧ τ13.1 5 ≤ 1000 := hT.1 5
      have v6 : 0 ≤ τ13.1 6 ∧ τ13.1 6 ≤ 30000 := hT.1 6
      have v7 : 0 ≤ τ13.1 7 ∧ τ13.1 7 ≤ 1500 := hT.1 7
      have v8 : 0 ≤ τ13.1 8 ∧ τ13.1 8 ≤ 1000 := hT.1 8
      have v9 : 0 ≤ τ13.1 9 ∧ τ13.1 9 ≤ 1500 := hT.1 9
      have v10 : 0 ≤ τ13.1 10 ∧ τ13.1 10 ≤ 1000 := hT.1 10
      have v11 : 0 ≤ τ13.1 11 ∧ τ13.1 11 ≤ 50 := hT.1 11
      have v12 : (-2147483648) ≤ τ13.1 12 ∧ τ13.1 12 ≤ 2147483647 := hT.1 12
      have v13 : 0 ≤ τ13.1 13 ∧ τ13.1 13 ≤ 90000 := hT.1 13
      have v14 : 0 ≤ τ13.1 14 ∧ τ13.1 14 ≤ 20000 := hT.1 14
      have v15 : 0 ≤ τ13.1 15 ∧ τ13.1 15 ≤ 20000 := hT.1 15
      have v16 : 0 ≤ τ13.1 16 ∧ τ13.1 16 ≤ 20000 := hT.1 16
      have v21 : 0 ≤ τ13.1 21 ∧ τ13.1 21 ≤ 20000 := hT.1 21
      have v22 : 0 ≤ τ13.1 22 ∧ τ13.1 22 ≤ 300 := hT.1 22
      have v23 : 0 ≤ τ13.1 23 ∧ τ13.1 23 ≤ 300 := hT.1 23
      have v24 : 0 ≤ τ13.1 24 ∧ τ13.1 24 ≤ 1499 := hT.1 24
      have v25 : 0 ≤ τ13.1 25 ∧ τ13.1 25 ≤ 3 := hT.1 25
      have v26 : 0 ≤ τ13.1 26 ∧ τ13.1 26 ≤ 5000010 := hT.1 26
      have v27 : 0 ≤ τ13.1 27 ∧ τ13.1 27 ≤ 1 := hT.1 27
      have v35 : 0 ≤ τ13.1 35 ∧ τ13.1 35 ≤ 7 := hT.1 35
      have v36 : 0 ≤ τ13.1 36 ∧ τ13.1 36 ≤ 1001 := hT.1 36
      have v37 : 0 ≤ τ13.1 37 ∧ τ13.1 37 ≤ 4 := hT.1 37
      have a14_7 : 0 ≤ τ13.2.1 14 (τ13.1 7) ∧ τ13.2.1 14 (τ13.1 7) ≤ 30000 := hT.2 14 _
      have a36_15 : 0 ≤ τ13.2.1 36 (τ13.1 15) ∧ τ13.2.1 36 (τ13.1 15) ≤ 20000 := hT.2 36 _
      have av13 : σ.1 13 ≤ τ13.1 13 := ag.1 13 (by decide)
      have av14 : σ.1 14 ≤ τ13.1 14 := ag.1 14 (by decide)
      exact ⟨hT, (show 0 ≤ x12 ∧ x12 ≤ 19 from by (first | assumption | omega | (simp only [st_s] <;> omega) | fail)), (show J_ht (τ13.1 3) (τ13.2.1 2) (τ13.2.1 3) (τ13.2.1 5) (τ13.2.1 6) from HT), (show J_mn (τ13.1 3) (τ13.1 5) ((τ13.1 7) + 1) (τ13.2.1 4) from MN), (show J_rks (τ13.1 5) (τ13.1 4) (τ13.2.1 10) (τ13.2.1 11) from RKS), (show J_vs (τ13.1 8) (τ13.1 5) (τ13.2.1 20) from VS), (show J_vs (τ13.1 6) (τ13.1 5) (τ13.2.1 15) from TX), (show J_va (τ13.1 8) 1000 (τ13.2.1 18) (τ13.2.1 20) from VA), (show J_mk (τ13.1 11) (τ13.1 8) (τ13.1 9) (τ13.1 10) (τ13.2.1 25) from MK), (show J_sc (τ13.1 7) (τ13.1 9) (τ13.2.1 13) (τ13.2.1 14) (τ13.2.1 15) (τ13.2.1 16) (τ13.2.1 22) (τ13.2.1 19) from SC), (show J_ff (τ13.1 5) (τ13.1 7) (τ13.2.1 9) (τ13.2.1 13) (τ13.2.1 14) (τ13.2.1 15) from FF), (show ∀ s : Int, τ13.2.1 26 s ≤ (τ13.1 12) from MT), (show J_all (τ13.1 7) (τ13.1 6) (τ13.1 13) (τ13.1 14) (τ13.1 15) (τ13.2.1 13) (τ13.2.1 14) (τ13.2.1 15) (τ13.2.1 16) (τ13.2.1 10) (τ13.2.1 27) (τ13.2.1 28) (τ13.2.1 29) (τ13.2.1 30) (τ13.2.1 31) (τ13.2.1 32) (τ13.2.1 33) (τ13.2.1 34) (τ13.2.1 35) (τ13.2.1 36) (τ13.2.1 37) from CJ), (show J_bp (τ13.2.1 44) (τ13.2.1 45) from BP), (show J_nl (τ13.1 3) (τ13.2.1 2) (τ13.2.1 3) (τ13.2.1 4) from NL), (show x12 = 0 → J_rs (τ13.1 35) (τ13.1 7) (τ13.1 6) (τ13.1 36) (τ13.1 37) (τ13.1 5) (τ13.1 8) (τ13.2.1 14) from by (first | exact fun z => absurd z (by decide) | exact q1_15 | exact q4_15 | exact q7_15 | (intro z; have w := q15_2 z; have rs := J_rs_0 p14 (by omega); unfold J_rs; rw [G14, W7]; omega) | (intro z; have rs := J_rs_0 p14 (by omega); have r1 := J_rs_1 p14 (by omega); unfold J_rs; rw [G14, W7]; omega) | (first | exact fun z => absurd z (by decide) | exact fun _ => RS | (intro z; have rs := p14; unfold J_rs at rs ⊢; omega) | (intro z; have rs := p14; unfold J_rs at rs ⊢; rw [G14, W7]; omega)) | fail)), (show x12 = 0 → J_uc (τ13.1 35) (τ13.1 36) (τ13.2.1 10 (τ13.2.1 15 (τ13.2.1 14 (τ13.1 7)))) from by (first | exact fun z => absurd z (by decide) | exact q1_16 | exact q4_16 | exact q7_16 | (intro z y y2; exfalso; omega) | (intro z y; have w := q15_2 z; exfalso; omega) | (first | exact fun z => absurd z (by decide) | (intro z y; exfalso; omega) | exact fun _ => UC | exact fun _ => uc | (intro z y y2; exact uc (by omega) (by omega)) | (intro z y y2; exfalso; omega) | (intro z y y2; rw [G10, G14, G15, W7]; exact uc (by omega) (by omega))) | fail)), (show x12 = 0 → J_dj (τ13.1 35) (τ13.1 36) (τ13.2.1 54) from by (first | exact fun z => absurd z (by decide) | exact q1_17 | exact q4_17 | exact q7_17 | (intro z y; rw [show τ17.1 36 = 0 from (q15_2 z).1]; exact j_in0 _ _) | (first | exact fun z => absurd z (by decide) | (intro z y; exfalso; omega) | exact fun _ => DJs | exact fun _ => dj) | fail)), (show x12 = 0 → J_it (τ13.1 35) (τ13.1 7) (τ13.1 6) (τ13.1 37) (τ13.2.1 14) (τ13.2.1 15) (τ13.2.1 16) (τ13.2.1 19) from by (first | exact fun z => absurd z (by decide) | exact q1_18 | exact q4_18 | exact q7_18 | (intro z y; have w := q15_2 z; exfalso; omega) | (intro z y; have rs := J_rs_0 p14 (by omega); exact J_ip0 (by rw [W6, G14, W7]; omega)) | (first | exact fun z => absurd z (by decide) | (intro z y; exfalso; omega) | exact fun _ => IPs | exact fun _ => ipx | (intro z y; exact ipx (by omega)) | (intro z y; rw [W7, W6, W37, G14, G15, G16, G19]; exact ipx (by omega))) | fail)), (show x12 = 0 → J_hu (τ13.1 35) (τ13.1 13) (τ13.1 7) from by (first | exact fun z => absurd z (by decide) | exact q1_19 | exact q4_19 | exact q7_19 | (intro z; have hu := hux; unfold J_hu at hu ⊢; omega) | (first | exact fun z => absurd z (by decide) | exact fun _ => HUs | (intro z; have hu := hux; unfold J_hu at hu ⊢; omega)) | fail)), (show x12 = 0 → J_ft (τ13.1 35) (τ13.1 24) (τ13.1 7) (τ13.1 13) (τ13.1 14) (τ13.2.1 13) (τ13.2.1 14) (τ13.2.1 15) (τ13.2.1 16) (τ13.2.1 27) (τ13.2.1 28) (τ13.2.1 29) (τ13.2.1 30) (τ13.2.1 31) (τ13.2.1 32) from by (first | exact fun z => absurd z (by decide) | exact q1_20 | exact q4_20 | exact q7_20 | (intro z y; have w := q15_2 z; exfalso; omega) | (intro z y; exfalso; omega) | (first | exact fun z => absurd z (by decide) | (intro z y; exfalso; omega) | exact fun _ => FRs | exact fun _ => frx | (intro z y; exact frx (by omega)) | (intro z y; have w := frx (by omega); rw [W7, W13, W14, W24, G13, G14, G15, G16, G27, G28, G29, G30, G31, G32]; exact w)) | fail)), (show x12 = 0 → J_ss (τ13.1 35) (τ13.1 24) (τ13.1 21) (τ13.1 23) (τ13.1 22) (τ13.1 27) (τ13.1 26) (τ13.1 25) (τ13.1 16) (τ13.2.1 49) (τ13.2.1 51) from by (first | exact fun z => absurd z (by decide) | exact q1_21 | exact q4_21 | exact q7_21 | (intro z y; have w := q15_2 z; exfalso; omega) | (intro z y; exfalso; omega) | (first | exact fun z => absurd z (by decide) | (intro z y; exfalso; omega) | exact fun _ => SPs | exact fun _ => spx | (intro z y; exact spx (by omega))) | fail)), (show x12 = 0 → (τ13.1 15) ≤ (τ13.1 16) ∧ τ13.2.1 36 (τ13.1 15) ≤ (τ13.1 16) from by (first | exact fun z => absurd z (by decide) | exact q1_22 | exact q4_22 | exact q7_22 | (intro z; first | exact sux | omega) | fail)), (show x12 = 0 → (τ13.1 9) ≤ (τ13.1 7) from by (first | exact fun z => absurd z (by decide) | exact q1_23 | exact q4_23 | exact q7_23 | (intro z; omega) | fail)), (show j_rr ((σ.1 5)) (σ.2.1 10) (τ13.2.1 10) from by (first | exact j_rr0 _ _ | exact q1_24 | exact q4_24 | exact q7_24 | (rw [G10]; exact j_rr0 _ _) | fail)), (show j_eq (σ.2.1 36 (σ.1 15)) (σ.2.1 37) (τ13.2.1 37) from CH), (show (τ13.1 12) ≤ (σ.1 12) + 1 from by (first | assumption | omega | (simp only [st_s] <;> omega) | fail)), (show c_Y σ τ13 from by (first | exact c_Y0 _ | exact c_Y_g W4 G11 G20 G22 G25 | exact q1_27 | exact q4_27 | exact q7_27 | exact c_Y_g (by omega) (by rw [g11_τ4]) (by rw [g20_τ4]) (by rw [g22_τ4]) (by rw [g25_τ4]) | exact c_Y_g (by omega) (by rw [g11_τ13]) (by rw [g20_τ13]) (by rw [g22_τ13]) (by rw [g25_τ13]) | exact c_Y_g (by omega) (by rw [g11_τ17]) (by rw [g20_τ17]) (by rw [g22_τ17]) (by rw [g25_τ17]) | fail)), ag⟩
  ·
    refine h109 _ _ ?_
    refine ⟨fun c10 => ?_, fun c10 => ?_⟩
    ·
      exact ⟨hT, (show 0 ≤ 4 ∧ 4 ≤ 19 from by (first | assumption | omega | (simp only [st_s] <;> omega) | fail)), (show J_ht (σ.1 3) (σ.2.1 2) (σ.2.1 3) (σ.2.1 5) (σ.2.1 6) from HT), (show J_mn (σ.1 3) (σ.1 5) ((σ.1 7) + 1) (σ.2.1 4) from MN), (show J_rks (σ.1 5) (σ.1 4) (σ.2.1 10) (σ.2.1 11) from RKS), (show J_vs (σ.1 8) (σ.1 5) (σ.2.1 20) from VS), (show J_vs (σ.1 6) (σ.1 5) (σ.2.1 15) from TX), (show J_va (σ.1 8) 1000 (σ.2.1 18) (σ.2.1 20) from VA), (show J_mk (σ.1 11) (σ.1 8) (σ.1 9) (σ.1 10) (σ.2.1 25) from MK), (show J_sc (σ.1 7) (σ.1 9) (σ.2.1 13) (σ.2.1 14) (σ.2.1 15) (σ.2.1 16) (σ.2.1 22) (σ.2.1 19) from SC), (show J_ff (σ.1 5) (σ.1 7) (σ.2.1 9) (σ.2.1 13) (σ.2.1 14) (σ.2.1 15) from FF), (show ∀ s : Int, σ.2.1 26 s ≤ (σ.1 12) from MT), (show J_all (σ.1 7) (σ.1 6) (σ.1 13) (σ.1 14) (σ.1 15) (σ.2.1 13) (σ.2.1 14) (σ.2.1 15) (σ.2.1 16) (σ.2.1 10) (σ.2.1 27) (σ.2.1 28) (σ.2.1 29) (σ.2.1 30) (σ.2.1 31) (σ.2.1 32) (σ.2.1 33) (σ.2.1 34) (σ.2.1 35) (σ.2.1 36) (σ.2.1 37) from CJ), (show J_bp (σ.2.1 44) (σ.2.1 45) from BP), (show J_nl (σ.1 3) (σ.2.1 2) (σ.2.1 3) (σ.2.1 4) from NL), (show 4 = 0 → J_rs (σ.1 35) (σ.1 7) (σ.1 6) (σ.1 36) (σ.1 37) (σ.1 5) (σ.1 8) (σ.2.1 14) from by (first | exact fun z => absurd z (by decide) | exact q1_15 | exact q4_15 | exact q7_15 | (intro z; have w := q15_2 z; have rs := J_rs_0 p14 (by omega); unfold J_rs; rw [G14, W7]; omega) | (intro z; have rs := J_rs_0 p14 (by omega); have r1 := J_rs_1 p14 (by omega); unfold J_rs; rw [G14, W7]; omega) | (first | exact fun z => absurd z (by decide) | exact fun _ => RS | (intro z; have rs := p14; unfold J_rs at rs ⊢; omega) | (intro z; have rs := p14; unfold J_rs at rs ⊢; rw [G14, W7]; omega)) | fail)), (show 4 = 0 → J_uc (σ.1 35) (σ.1 36) (σ.2.1 10 (σ.2.1 15 (σ.2.1 14 (σ.1 7)))) from by (first | exact fun z => absurd z (by decide) | exact q1_16 | exact q4_16 | exact q7_16 | (intro z y y2; exfalso; omega) | (intro z y; have w := q15_2 z; exfalso; omega) | (first | exact fun z => absurd z (by decide) | (intro z y; exfalso; omega) | exact fun _ => UC | exact fun _ => uc | (intro z y y2; exact uc (by omega) (by omega)) | (intro z y y2; exfalso; omega) | (intro z y y2; rw [G10, G14, G15, W7]; exact uc (by omega) (by omega))) | fail)), (show 4 = 0 → J_dj (σ.1 35) (σ.1 36) (σ.2.1 54) from by (first | exact fun z => absurd z (by decide) | exact q1_17 | exact q4_17 | exact q7_17 | (intro z y; rw [show τ17.1 36 = 0 from (q15_2 z).1]; exact j_in0 _ _) | (first | exact fun z => absurd z (by decide) | (intro z y; exfalso; omega) | exact fun _ => DJs | exact fun _ => dj) | fail)), (show 4 = 0 → J_it (σ.1 35) (σ.1 7) (σ.1 6) (σ.1 37) (σ.2.1 14) (σ.2.1 15) (σ.2.1 16) (σ.2.1 19) from by (first | exact fun z => absurd z (by decide) | exact q1_18 | exact q4_18 | exact q7_18 | (intro z y; have w := q15_2 z; exfalso; omega) | (intro z y; have rs := J_rs_0 p14 (by omega); exact J_ip0 (by rw [W6, G14, W7]; omega)) | (first | exact fun z => absurd z (by decide) | (intro z y; exfalso; omega) | exact fun _ => IPs | exact fun _ => ipx | (intro z y; exact ipx (by omega)) | (intro z y; rw [W7, W6, W37, G14, G15, G16, G19]; exact ipx (by omega))) | fail)), (show 4 = 0 → J_hu (σ.1 35) (σ.1 13) (σ.1 7) from by (first | exact fun z => absurd z (by decide) | exact q1_19 | exact q4_19 | exact q7_19 | (intro z; have hu := hux; unfold J_hu at hu ⊢; omega) | (first | exact fun z => absurd z (by decide) | exact fun _ => HUs | (intro z; have hu := hux; unfold J_hu at hu ⊢; omega)) | fail)), (show 4 = 0 → J_ft (σ.1 35) (σ.1 24) (σ.1 7) (σ.1 13) (σ.1 14) (σ.2.1 13) (σ.2.1 14) (σ.2.1 15) (σ.2.1 16) (σ.2.1 27) (σ.2.1 28) (σ.2.1 29) (σ.2.1 30) (σ.2.1 31) (σ.2.1 32) from by (first | exact fun z => absurd z (by decide) | exact q1_20 | exact q4_20 | exact q7_20 | (intro z y; have w := q15_2 z; exfalso; omega) | (intro z y; exfalso; omega) | (first | exact fun z => absurd z (by decide) | (intro z y; exfalso; omega) | exact fun _ => FRs | exact fun _ => frx | (intro z y; exact frx (by omega)) | (intro z y; have w := frx (by omega); rw [W7, W13, W14, W24, G13, G14, G15, G16, G27, G28, G29, G30, G31, G32]; exact w)) | fail)), (show 4 = 0 → J_ss (σ.1 35) (σ.1 24) (σ.1 21) (σ.1 23) (σ.1 22) (σ.1 27) (σ.1 26) (σ.1 25) (σ.1 16) (σ.2.1 49) (σ.2.1 51) from by (first | exact fun z => absurd z (by decide) | exact q1_21 | exact q4_21 | exact q7_21 | (intro z y; have w := q15_2 z; exfalso; omega) | (intro z y; exfalso; omega) | (first | exact fun z => absurd z (by decide) | (intro z y; exfalso; omega) | exact fun _ => SPs | exact fun _ => spx | (intro z y; exact spx (by omega))) | fail)), (show 4 = 0 → (σ.1 15) ≤ (σ.1 16) ∧ σ.2.1 36 (σ.1 15) ≤ (σ.1 16) from by (first | exact fun z => absurd z (by decide) | exact q1_22 | exact q4_22 | exact q7_22 | (intro z; first | exact sux | omega) | fail)), (show 4 = 0 → (σ.1 9) ≤ (σ.1 7) from by (first | exact fun z => absurd z (by decide) | exact q1_23 | exact q4_23 | exact q7_23 | (intro z; omega) | fail)), (show j_rr ((σ.1 5)) (σ.2.1 10) (σ.2.1 10) from by (first | exact j_rr0 _ _ | exact q1_24 | exact q4_24 | exact q7_24 | (rw [G10]; exact j_rr0 _ _) | fail)), (show j_eq (σ.2.1 36 (σ.1 15)) (σ.2.1 37) (σ.2.1 37) from CH), (show (σ.1 12) ≤ (σ.1 12) + 1 from by (first | assumption | omega | (simp only [st_s] <;> omega) | fail)), (show c_Y σ σ from by (first | exact c_Y0 _ | exact c_Y_g W4 G11 G20 G22 G25 | exact q1_27 | exact q4_27 | exact q7_27 | exact c_Y_g (by omega) (by rw [g11_τ4]) (by rw [g20_τ4]) (by rw [g22_τ4]) (by rw [g25_τ4]) | exact c_Y_g (by omega) (by rw [g11_τ13]) (by rw [g20_τ13]) (by rw [g22_τ13]) (by rw [g25_τ13]) | exact c_Y_g (by omega) (by rw [g11_τ17]) (by rw [g20_τ17]) (by rw [g22_τ17]) (by rw [g25_τ17]) | fail)), ag⟩
    ·
      refine ⟨_, K2_X7_statement hT, ?_⟩
      intro x12 τ13 r_x12 hn_τ13 hf_τ13 hq
      obtain ⟨hT, q11_1, q11_2, q11_3, q11_4⟩ := hq
      replace q11_1 : x12 = 0 := q11_1
      replace q11_2 : (τ13.1 36) = 0 := q11_2
      replace q11_3 : (τ13.1 35) = 5 := q11_3
      replace q11_4 : (τ13.1 37) ≤ 3 := q11_4
      replace ag : c_ag σ τ13 := ag_r ag hf_τ13 rfl rfl
      have w3_τ13 : τ13.1 3 = σ.1 3 := hf_τ13.1 3 (by decide)
      have w4_τ13 : τ13.1 4 = σ.1 4 := hf_τ13.1 4 (by decide)
      have w5_τ13 : τ13.1 5 = σ.1 5 := hf_τ13.1 5 (by decide)
      have w6_τ13 : τ13.1 6 = σ.1 6 := hf_τ13.1 6 (by decide)
      have w7_τ13 : τ13.1 7 = σ.1 7 := hf_τ13.1 7 (by decide)
      have w8_τ13 : τ13.1 8 = σ.1 8 := hf_τ13.1 8 (by decide)
      have w9_τ13 : τ13.1 9 = σ.1 9 := hf_τ13.1 9 (by decide)
      have w10_τ13 : τ13.1 10 = σ.1 10 := hf_τ13.1 10 (by decide)
      have w11_τ13 : τ13.1 11 = σ.1 11 := hf_τ13.1 11 (by decide)
      have w12_τ13 : τ13.1 12 = σ.1 12 := hf_τ13.1 12 (by decide)
      have w13_τ13 : τ13.1 13 = σ.1 13 := hf_τ13.1 13 (by decide)
      have w14_τ13 : τ13.1 14 = σ.1 14 := hf_τ13.1 14 (by decide)
      have w15_τ13 : τ13.1 15 = σ.1 15 := hf_τ13.1 15 (by decide)
      have w16_τ13 : τ13.1 16 = σ.1 16 := hf_τ13.1 16 (by decide)
      have w21_τ13 : τ13.1 21 = σ.1 21 := hf_τ13.1 21 (by decide)
      have w22_τ13 : τ13.1 22 = σ.1 22 := hf_τ13.1 22 (by decide)
      have w23_τ13 : τ13.1 23 = σ.1 23 := hf_τ13.1 23 (by decide)
      have w24_τ13 : τ13.1 24 = σ.1 24 := hf_τ13.1 24 (by decide)
      have w25_τ13 : τ13.1 25 = σ.1 25 := hf_τ13.1 25 (by decide)
      have w26_τ13 : τ13.1 26 = σ.1 26 := hf_τ13.1 26 (by decide)
      have w27_τ13 : τ13.1 27 = σ.1 27 := hf_τ13.1 27 (by decide)
      have g2_τ13 : τ13.2.1 2 = σ.2.1 2 := hf_τ13.2.1 2 (by decide)
      have g3_τ13 : τ13.2.1 3 = σ.2.1 3 := hf_τ13.2.1 3 (by decide)
      have g4_τ13 : τ13.2.1 4 = σ.2.1 4 := hf_τ13.2.1 4 (by decide)
      have g5_τ13 : τ13.2.1 5 = σ.2.1 5 := hf_τ13.2.1 5 (by decide)
      have g6_τ13 : τ13.2.1 6 = σ.2.1 6 := hf_τ13.2.1 6 (by decide)
      have g9_τ13 : τ13.2.1 9 = σ.2.1 9 := hf_τ13.2.1 9 (by decide)
      have g10_τ13 : τ13.2.1 10 = σ.2.1 10 := hf_τ13.2.1 10 (by decide)
      have g11_τ13 : τ13.2.1 11 = σ.2.1 11 := hf_τ13.2.1 11 (by decide)
      have g13_τ13 : τ13.2.1 13 = σ.2.1 13 := hf_τ13.2.1 13 (by decide)
      have g14_τ13 : τ13.2.1 14 = σ.2.1 14 := hf_τ13.2.1 14 (by decide)
      have g15_τ13 : τ13.2.1 15 = σ.2.1 15 := hf_τ13.2.1 15 (by decide)
      have g16_τ13 : τ13.2.1 16 = σ.2.1 16 := hf_τ13.2.1 16 (by decide)
      have g18_τ13 : τ13.2.1 18 = σ.2.1 18 := hf_τ13.2.1 18 (by decide)
      have g19_τ13 : τ13.2.1 19 = σ.2.1 19 := hf_τ13.2.1 19 (by decide)
      have g20_τ13 : τ13.2.1 20 = σ.2.1 20 := hf_τ13.2.1 20 (by decide)
      have g22_τ13 : τ13.2.1 22 = σ.2.1 22 := hf_τ13.2.1 22 (by decide)
      have g25_τ13 : τ13.2.1 25 = σ.2.1 25 := hf_τ13.2.1 25 (by decide)
      have g26_τ13 : τ13.2.1 26 = σ.2.1 26 := hf_τ13.2.1 26 (by decide)
      have g27_τ13 : τ13.2.1 27 = σ.2.1 27 := hf_τ13.2.1 27 (by decide)
      have g28_τ13 : τ13.2.1 28 = σ.2.1 28 := hf_τ13.2.1 28 (by decide)
      have g29_τ13 : τ13.2.1 29 = σ.2.1 29 := hf_τ13.2.1 29 (by decide)
      have g30_τ13 : τ13.2.1 30 = σ.2.1 30 := hf_τ13.2.1 30 (by decide)
      have g31_τ13 : τ13.2.1 31 = σ.2.1 31 := hf_τ13.2.1 31 (by decide)
      have g32_τ13 : τ13.2.1 32 = σ.2.1 32 := hf_τ13.2.1 32 (by decide)
      have g33_τ13 : τ13.2.1 33 = σ.2.1 33 := hf_τ13.2.1 33 (by decide)
      have g34_τ13 : τ13.2.1 34 = σ.2.1 34 := hf_τ13.2.1 34 (by decide)
      have g35_τ13 : τ13.2.1 35 = σ.2.1 35 := hf_τ13.2.1 35 (by decide)
      have g36_τ13 : τ13.2.1 36 = σ.2.1 36 := hf_τ13.2.1 36 (by decide)
      have g37_τ13 : τ13.2.1 37 = σ.2.1 37 := hf_τ13.2.1 37 (by decide)
      have g44_τ13 : τ13.2.1 44 = σ.2.1 44 := hf_τ13.2.1 44 (by decide)
      have g45_τ13 : τ13.2.1 45 = σ.2.1 45 := hf_τ13.2.1 45 (by decide)
      have g49_τ13 : τ13.2.1 49 = σ.2.1 49 := hf_τ13.2.1 49 (by decide)
      have g51_τ13 : τ13.2.1 51 = σ.2.1 51 := hf_τ13.2.1 51 (by decide)
      have g54_τ13 : τ13.2.1 54 = σ.2.1 54 := hf_τ13.2.1 54 (by decide)
      have W3 : τ13.1 3 = σ.1 3 := by first | exact w3_τ13.trans W3 | omega
      have W4 : τ13.1 4 = σ.1 4 := by first | exact w4_τ13.trans W4 | omega
      have W5 : τ13.1 5 = σ.1 5 := by first | exact w5_τ13.trans W5 | omega
      have W6 : τ13.1 6 = σ.1 6 := by first | exact w6_τ13.trans W6 | omega
      have W7 : τ13.1 7 = σ.1 7 := by first | exact w7_τ13.trans W7 | omega
      have W15 : τ13.1 15 = σ.1 15 := by first | exact w15_τ13.trans W15 | omega
      have W16 : τ13.1 16 = σ.1 16 := by first | exact w16_τ13.trans W16 | omega
      have G2 : τ13.2.1 2 = σ.2.1 2 := (g2_τ13).trans G2
      have G3 : τ13.2.1 3 = σ.2.1 3 := (g3_τ13).trans G3
      have G4 : τ13.2.1 4 = σ.2.1 4 := (g4_τ13).trans G4
      have G5 : τ13.2.1 5 = σ.2.1 5 := (g5_τ13).trans G5
      have G6 : τ13.2.1 6 = σ.2.1 6 := (g6_τ13).trans G6
      have G9 : τ13.2.1 9 = σ.2.1 9 := (g9_τ13).trans G9
      have G10 : τ13.2.1 10 = σ.2.1 10 := (g10_τ13).trans G10
      have G11 : τ13.2.1 11 = σ.2.1 11 := (g11_τ13).trans G11
      have G13 : τ13.2.1 13 = σ.2.1 13 := (g13_τ13).trans G13
      have G14 : τ13.2.1 14 = σ.2.1 14 := (g14_τ13).trans G14
      have G15 : τ13.2.1 15 = σ.2.1 15 := (g15_τ13).trans G15
      have G16 : τ13.2.1 16 = σ.2.1 16 := (g16_τ13).trans G16
      have G20 : τ13.2.1 20 = σ.2.1 20 := (g20_τ13).trans G20
      have G22 : τ13.2.1 22 = σ.2.1 22 := (g22_τ13).trans G22
      have G33 : τ13.2.1 33 = σ.2.1 33 := (g33_τ13).trans G33
      have G34 : τ13.2.1 34 = σ.2.1 34 := (g34_τ13).trans G34
      have G35 : τ13.2.1 35 = σ.2.1 35 := (g35_τ13).trans G35
      have G36 : τ13.2.1 36 = σ.2.1 36 := (g36_τ13).trans G36
      have G37 : τ13.2.1 37 = σ.2.1 37 := (g37_τ13).trans G37
      have G44 : τ13.2.1 44 = σ.2.1 44 := (g44_τ13).trans G44
      have G45 : τ13.2.1 45 = σ.2.1 45 := (g45_τ13).trans G45
      have G49 : τ13.2.1 49 = σ.2.1 49 := (g49_τ13).trans G49
      have G51 : τ13.2.1 51 = σ.2.1 51 := (g51_τ13).trans G51
      have G54 : τ13.2.1 54 = σ.2.1 54 := (g54_τ13).trans G54
      have y14_7_τ13 : τ13.2.1 14 (τ13.1 7) = (σ.2.1 14) (σ.1 7) := by rw [g14_τ13, w7_τ13]
      have y36_15_τ13 : τ13.2.1 36 (τ13.1 15) = (σ.2.1 36) (σ.1 15) := by rw [g36_τ13, w15_τ13]
      have HT : J_ht (τ13.1 3) (τ13.2.1 2) (τ13.2.1 3) (τ13.2.1 5) (τ13.2.1 6) := by rw [show (J_ht (τ13.1 3) (τ13.2.1 2) (τ13.2.1 3) (τ13.2.1 5) (τ13.2.1 6)) = (J_ht (σ.1 3) (σ.2.1 2) (σ.2.1 3) (σ.2.1 5) (σ.2.1 6)) from by rw [w3_τ13, g2_τ13, g3_τ13, g5_τ13, g6_τ13]]; exact HT
      have NL : J_nl (τ13.1 3) (τ13.2.1 2) (τ13.2.1 3) (τ13.2.1 4) := by rw [show (J_nl (τ13.1 3) (τ13.2.1 2) (τ13.2.1 3) (τ13.2.1 4)) = (J_nl (σ.1 3) (σ.2.1 2) (σ.2.1 3) (σ.2.1 4)) from by rw [w3_τ13, g2_τ13, g3_τ13, g4_τ13]]; exact NL
      have MN : J_mn (τ13.1 3) (τ13.1 5) ((τ13.1 7) + 1) (τ13.2.1 4) := by rw [show (J_mn (τ13.1 3) (τ13.1 5) ((τ13.1 7) + 1) (τ13.2.1 4)) = (J_mn (σ.1 3) (σ.1 5) ((σ.1 7) + 1) (σ.2.1 4)) from by rw [w3_τ13, w5_τ13, w7_τ13, g4_τ13]]; exact MN
      have VA : J_va (τ13.1 8) 1000 (τ13.2.1 18) (τ13.2.1 20) := by rw [show (J_va (τ13.1 8) 1000 (τ13.2.1 18) (τ13.2.1 20)) = (J_va (σ.1 8) 1000 (σ.2.1 18) (σ.2.1 20)) from by rw [w8_τ13, g18_τ13, g20_τ13]]; exact VA
      have SC : J_sc (τ13.1 7) (τ13.1 9) (τ13.2.1 13) (τ13.2.1 14) (τ13.2.1 15) (τ13.2.1 16) (τ13.2.1 22) (τ13.2.1 19) := by rw [show (J_sc (τ13.1 7) (τ13.1 9) (τ13.2.1 13) (τ13.2.1 14) (τ13.2.1 15) (τ13.2.1 16) (τ13.2.1 22) (τ13.2.1 19)) = (J_sc (σ.1 7) (σ.1 9) (σ.2.1 13) (σ.2.1 14) (σ.2.1 15) (σ.2.1 16) (σ.2.1 22) (σ.2.1 19)) from by rw [w7_τ13, w9_τ13, g13_τ13, g14_τ13, g15_τ13, g16_τ13, g19_τ13, g22_τ13]]; exact SC
      have MK : J_mk (τ13.1 11) (τ13.1 8) (τ13.1 9) (τ13.1 10) (τ13.2.1 25) := by rw [show (J_mk (τ13.1 11) (τ13.1 8) (τ13.1 9) (τ13.1 10) (τ13.2.1 25)) = (J_mk (σ.1 11) (σ.1 8) (σ.1 9) (σ.1 10) (σ.2.1 25)) from by rw [w8_τ13, w9_τ13, w10_τ13, w11_τ13, g25_τ13]]; exact MK
      have FF : J_ff (τ13.1 5) (τ13.1 7) (τ13.2.1 9) (τ13.2.1 13) (τ13.2.1 14) (τ13.2.1 15) := by rw [show (J_ff (τ13.1 5) (τ13.1 7) (τ13.2.1 9) (τ13.2.1 13) (τ13.2.1 14) (τ13.2.1 15)) = (J_ff (σ.1 5) (σ.1 7) (σ.2.1 9) (σ.2.1 13) (σ.2.1 14) (σ.2.1 15)) from by rw [w5_τ13, w7_τ13, g9_τ13, g13_τ13, g14_τ13, g15_τ13]]; exact FF
      have MT : ∀ s : Int, τ13.2.1 26 s ≤ (τ13.1 12) := by rw [show (∀ s : Int, τ13.2.1 26 s ≤ (τ13.1 12)) = (∀ s : Int, σ.2.1 26 s ≤ (σ.1 12)) from by rw [w12_τ13, g26_τ13]]; exact MT
      have VS : J_vs (τ13.1 8) (τ13.1 5) (τ13.2.1 20) := by rw [show (J_vs (τ13.1 8) (τ13.1 5) (τ13.2.1 20)) = (J_vs (σ.1 8) (σ.1 5) (σ.2.1 20)) from by rw [w5_τ13, w8_τ13, g20_τ13]]; exact VS
      have TX : J_vs (τ13.1 6) (τ13.1 5) (τ13.2.1 15) := by rw [show (J_vs (τ13.1 6) (τ13.1 5) (τ13.2.1 15)) = (J_vs (σ.1 6) (σ.1 5) (σ.2.1 15)) from by rw [w5_τ13, w6_τ13, g15_τ13]]; exact TX
      have RKS : J_rks (τ13.1 5) (τ13.1 4) (τ13.2.1 10) (τ13.2.1 11) := by rw [show (J_rks (τ13.1 5) (τ13.1 4) (τ13.2.1 10) (τ13.2.1 11)) = (J_rks (σ.1 5) (σ.1 4) (σ.2.1 10) (σ.2.1 11)) from by rw [w4_τ13, w5_τ13, g10_τ13, g11_τ13]]; exact RKS
      have CJ : J_all (τ13.1 7) (τ13.1 6) (τ13.1 13) (τ13.1 14) (τ13.1 15) (τ13.2.1 13) (τ13.2.1 14) (τ13.2.1 15) (τ13.2.1 16) (τ13.2.1 10) (τ13.2.1 27) (τ13.2.1 28) (τ13.2.1 29) (τ13.2.1 30) (τ13.2.1 31) (τ13.2.1 32) (τ13.2.1 33) (τ13.2.1 34) (τ13.2.1 35) (τ13.2.1 36) (τ13.2.1 37) := by rw [show (J_all (τ13.1 7) (τ13.1 6) (τ13.1 13) (τ13.1 14) (τ13.1 15) (τ13.2.1 13) (τ13.2.1 14) (τ13.2.1 15) (τ13.2.1 16) (τ13.2.1 10) (τ13.2.1 27) (τ13.2.1 28) (τ13.2.1 29) (τ13.2.1 30) (τ13.2.1 31) (τ13.2.1 32) (τ13.2.1 33) (τ13.2.1 34) (τ13.2.1 35) (τ13.2.1 36) (τ13.2.1 37)) = (J_all (σ.1 7) (σ.1 6) (σ.1 13) (σ.1 14) (σ.1 15) (σ.2.1 13) (σ.2.1 14) (σ.2.1 15) (σ.2.1 16) (σ.2.1 10) (σ.2.1 27) (σ.2.1 28) (σ.2.1 29) (σ.2.1 30) (σ.2.1 31) (σ.2.1 32) (σ.2.1 33) (σ.2.1 34) (σ.2.1 35) (σ.2.1 36) (σ.2.1 37)) from by rw [w6_τ13, w7_τ13, w13_τ13, w14_τ13, w15_τ13, g10_τ13, g13_τ13, g14_τ13, g15_τ13, g16_τ13, g27_τ13, g28_τ13, g29_τ13, g30_τ13, g31_τ13, g32_τ13, g33_τ13, g34_τ13, g35_τ13, g36_τ13, g37_τ13]]; exact CJ
      have BP : J_bp (τ13.2.1 44) (τ13.2.1 45) := by rw [show (J_bp (τ13.2.1 44) (τ13.2.1 45)) = (J_bp (σ.2.1 44) (σ.2.1 45)) from by rw [g44_τ13, g45_τ13]]; exact BP
      have CH : j_eq (σ.2.1 36 (σ.1 15)) (σ.2.1 37) (τ13.2.1 37) := by rw [show (j_eq (σ.2.1 36 (σ.1 15)) (σ.2.1 37) (τ13.2.1 37)) = (j_eq (σ.2.1 36 (σ.1 15)) (σ.2.1 37) (σ.2.1 37)) from by rw [g37_τ13]]; exact CH
      have A2 : ∀ j, 0 ≤ τ13.2.1 2 j ∧ τ13.2.1 2 j ≤ 65535 := fun j => hT.2 2 j
      have A3 : ∀ j, 0 ≤ τ13.2.1 3 j ∧ τ13.2.1 3 j ≤ 30000 := fun j => hT.2 3 j
      have A4 : ∀ j, (-1000) ≤ τ13.2.1 4 j ∧ τ13.2.1 4 j ≤ 1499 := fun j => hT.2 4 j
      have A5 : ∀ j, 0 ≤ τ13.2.1 5 j ∧ τ13.2.1 5 j ≤ 2500 := fun j => hT.2 5 j
      have A6 : ∀ j, 0 ≤ τ13.2.1 6 j ∧ τ13.2.1 6 j ≤ 2500 := fun j => hT.2 6 j
      have A9 : ∀ j, (-1) ≤ τ13.2.1 9 j ∧ τ13.2.1 9 j ≤ 1499 := fun j => hT.2 9 j
      have A10 : ∀ j, (-1) ≤ τ13.2.1 10 j ∧ τ13.2.1 10 j ≤ 99 := fun j => hT.2 10 j
      have A11 : ∀ j, 0 ≤ τ13.2.1 11 j ∧ τ13.2.1 11 j ≤ 999 := fun j => hT.2 11 j
      have A13 : ∀ j, 0 ≤ τ13.2.1 13 j ∧ τ13.2.1 13 j ≤ 4 := fun j => hT.2 13 j
      have A14 : ∀ j, 0 ≤ τ13.2.1 14 j ∧ τ13.2.1 14 j ≤ 30000 := fun j => hT.2 14 j
      have A15 : ∀ j, 0 ≤ τ13.2.1 15 j ∧ τ13.2.1 15 j ≤ 999 := fun j => hT.2 15 j
      have A16 : ∀ j, (-1) ≤ τ13.2.1 16 j ∧ τ13.2.1 16 j ≤ 1499 := fun j => hT.2 16 j
      have A18 : ∀ j, 0 ≤ τ13.2.1 18 j ∧ τ13.2.1 18 j ≤ 1 := fun j => hT.2 18 j
      have A19 : ∀ j, (-1) ≤ τ13.2.1 19 j ∧ τ13.2.1 19 j ≤ 1499 := fun j => hT.2 19 j
      have A20 : ∀ j, 0 ≤ τ13.2.1 20 j ∧ τ13.2.1 20 j ≤ 999 := fun j => hT.2 20 j
      have A22 : ∀ j, 0 ≤ τ13.2.1 22 j ∧ τ13.2.1 22 j ≤ 1499 := fun j => hT.2 22 j
      have A26 : ∀ j, (-2147483648) ≤ τ13.2.1 26 j ∧ τ13.2.1 26 j ≤ 2147483647 := fun j => hT.2 26 j
      have A27 : ∀ j, 0 ≤ τ13.2.1 27 j ∧ τ13.2.1 27 j ≤ 90000 := fun j => hT.2 27 j
      have A28 : ∀ j, 0 ≤ τ13.2.1 28 j ∧ τ13.2.1 28 j ≤ 60 := fun j => hT.2 28 j
      have A29 : ∀ j, 0 ≤ τ13.2.1 29 j ∧ τ13.2.1 29 j ≤ 1499 := fun j => hT.2 29 j
      have A30 : ∀ j, 0 ≤ τ13.2.1 30 j ∧ τ13.2.1 30 j ≤ 20000 := fun j => hT.2 30 j
      have A31 : ∀ j, 0 ≤ τ13.2.1 31 j ∧ τ13.2.1 31 j ≤ 20000 := fun j => hT.2 31 j
      have A32 : ∀ j, 0 ≤ τ13.2.1 32 j ∧ τ13.2.1 32 j ≤ 999999 := fun j => hT.2 32 j
      have A33 : ∀ j, 0 ≤ τ13.2.1 33 j ∧ τ13.2.1 33 j ≤ 20000 := fun j => hT.2 33 j
      have A34 : ∀ j, 0 ≤ τ13.2.1 34 j ∧ τ13.2.1 34 j ≤ 20000 := fun j => hT.2 34 j
      have A35 : ∀ j, 0 ≤ τ13.2.1 35 j ∧ τ13.2.1 35 j ≤ 1499 := fun j => hT.2 35 j
      have A36 : ∀ j, 0 ≤ τ13.2.1 36 j ∧ τ13.2.1 36 j ≤ 20000 := fun j => hT.2 36 j
      have A37 : ∀ j, 0 ≤ τ13.2.1 37 j ∧ τ13.2.1 37 j ≤ 19999 := fun j => hT.2 37 j
      have A44 : ∀ j, 0 ≤ τ13.2.1 44 j ∧ τ13.2.1 44 j ≤ 42000 := fun j => hT.2 44 j
      have A45 : ∀ j, 0 ≤ τ13.2.1 45 j ∧ τ13.2.1 45 j ≤ 1000 := fun j => hT.2 45 j
      have A49 : ∀ j, (-300) ≤ τ13.2.1 49 j ∧ τ13.2.1 49 j ≤ 67035 := fun j => hT.2 49 j
      have A51 : ∀ j, 0 ≤ τ13.2.1 51 j ∧ τ13.2.1 51 j ≤ 1499 := fun j => hT.2 51 j
      have A54 : ∀ j, 0 ≤ τ13.2.1 54 j ∧ τ13.2.1 54 j ≤ 999 := fun j => hT.2 54 j
      have v3 : 0 ≤ τ13.1 3 ∧ τ13.1 3 ≤ 2500 := hT.1 3
      have v4 : 0 ≤ τ13.1 4 ∧ τ13.1 4 ≤ 100 := hT.1 4
      have v5 : 0 ≤ τ13.1 5 ∧ τ13.1 5 ≤ 1000 := hT.1 5
      have v6 : 0 ≤ τ13.1 6 ∧ τ13.1 6 ≤ 30000 := hT.1 6
      have v7 : 0 ≤ τ13.1 7 ∧ τ13.1 7 ≤ 1500 := hT.1 7
      have v8 : 0 ≤ τ13.1 8 ∧ τ13.1 8 ≤ 1000 := hT.1 8
      have v9 : 0 ≤ τ13.1 9 ∧ τ13.1 9 ≤ 1500 := hT.1 9
      have v10 : 0 ≤ τ13.1 10 ∧ τ13.1 10 ≤ 1000 := hT.1 10
      have v11 : 0 ≤ τ13.1 11 ∧ τ13.1 11 ≤ 50 := hT.1 11
      have v12 : (-2147483648) ≤ τ13.1 12 ∧ τ13.1 12 ≤ 2147483647 := hT.1 12
      have v13 : 0 ≤ τ13.1 13 ∧ τ13.1 13 ≤ 90000 := hT.1 13
      have v14 : 0 ≤ τ13.1 14 ∧ τ13.1 14 ≤ 20000 := hT.1 14
      have v15 : 0 ≤ τ13.1 15 ∧ τ13.1 15 ≤ 20000 := hT.1 15
      have v16 : 0 ≤ τ13.1 16 ∧ τ13.1 16 ≤ 20000 := hT.1 16
      have v21 : 0 ≤ τ13.1 21 ∧ τ13.1 21 ≤ 20000 := hT.1 21
      have v22 : 0 ≤ τ13.1 22 ∧ τ13.1 22 ≤ 300 := hT.1 22
      have v23 : 0 ≤ τ13.1 23 ∧ τ13.1 23 ≤ 300 := hT.1 23
      have v24 : 0 ≤ τ13.1 24 ∧ τ13.1 24 ≤ 1499 := hT.1 24
      have v25 : 0 ≤ τ13.1 25 ∧ τ13.1 25 ≤ 3 := hT.1 25
      have v26 : 0 ≤ τ13.1 26 ∧ τ13.1 26 ≤ 5000010 := hT.1 26
      have v27 : 0 ≤ τ13.1 27 ∧ τ13.1 27 ≤ 1 := hT.1 27
      have v35 : 0 ≤ τ13.1 35 ∧ τ13.1 35 ≤ 7 := hT.1 35
      have v36 : 0 ≤ τ13.1 36 ∧ τ13.1 36 ≤ 1001 := hT.1 36
      have v37 : 0 ≤ τ13.1 37 ∧ τ13.1 37 ≤ 4 := hT.1 37
      have a14_7 : 0 ≤ τ13.2.1 14 (τ13.1 7) ∧ τ13.2.1 14 (τ13.1 7) ≤ 30000 := hT.2 14 _
      have a36_15 : 0 ≤ τ13.2.1 36 (τ13.1 15) ∧ τ13.2.1 36 (τ13.1 15) ≤ 20000 := hT.2 36 _
      have av13 : σ.1 13 ≤ τ13.1 13 := ag.1 13 (by decide)
      have av14 : σ.1 14 ≤ τ13.1 14 := ag.1 14 (by decide)
      exact ⟨hT, (show 0 ≤ x12 ∧ x12 ≤ 19 from by (first | assumption | omega | (simp only [st_s] <;> omega) | fail)), (show J_ht (τ13.1 3) (τ13.2.1 2) (τ13.2.1 3) (τ13.2.1 5) (τ13.2.1 6) from HT), (show J_mn (τ13.1 3) (τ13.1 5) ((τ13.1 7) + 1) (τ13.2.1 4) from MN), (show J_rks (τ13.1 5) (τ13.1 4) (τ13.2.1 10) (τ13.2.1 11) from RKS), (show J_vs (τ13.1 8) (τ13.1 5) (τ13.2.1 20) from VS), (show J_vs (τ13.1 6) (τ13.1 5) (τ13.2.1 15) from TX), (show J_va (τ13.1 8) 1000 (τ13.2.1 18) (τ13.2.1 20) from VA), (show J_mk (τ13.1 11) (τ13.1 8) (τ13.1 9) (τ13.1 10) (τ13.2.1 25) from MK), (show J_sc (τ13.1 7) (τ13.1 9) (τ13.2.1 13) (τ13.2.1 14) (τ13.2.1 15) (τ13.2.1 16) (τ13.2.1 22) (τ13.2.1 19) from SC), (show J_ff (τ13.1 5) (τ13.1 7) (τ13.2.1 9) (τ13.2.1 13) (τ13.2.1 14) (τ13.2.1 15) from FF), (show ∀ s : Int, τ13.2.1 26 s ≤ (τ13.1 12) from MT), (show J_all (τ13.1 7) (τ13.1 6) (τ13.1 13) (τ13.1 14) (τ13.1 15) (τ13.2.1 13) (τ13.2.1 14) (τ13.2.1 15) (τ13.2.1 16) (τ13.2.1 10) (τ13.2.1 27) (τ13.2.1 28) (τ13.2.1 29) (τ13.2.1 30) (τ13.2.1 31) (τ13.2.1 32) (τ13.2.1 33) (τ13.2.1 34) (τ13.2.1 35) (τ13.2.1 36) (τ13.2.1 37) from CJ), (show J_bp (τ13.2.1 44) (τ13.2.1 45) from BP), (show J_nl (τ13.1 3) (τ13.2.1 2) (τ13.2.1 3) (τ13.2.1 4) from NL), (show x12 = 0 → J_rs (τ13.1 35) (τ13.1 7) (τ13.1 6) (τ13.1 36) (τ13.1 37) (τ13.1 5) (τ13.1 8) (τ13.2.1 14) from by (first | exact fun z => absurd z (by decide) | exact q1_15 | exact q4_15 | exact q7_15 | (intro z; have w := q15_2 z; have rs := J_rs_0 p14 (by omega); unfold J_rs; rw [G14, W7]; omega) | (intro z; have rs := J_rs_0 p14 (by omega); have r1 := J_rs_1 p14 (by omega); unfold J_rs; rw [G14, W7]; omega) | (first | exact fun z => absurd z (by decide) | exact fun _ => RS | (intro z; have rs := p14; unfold J_rs at rs ⊢; omega) | (intro z; have rs := p14; unfold J_rs at rs ⊢; rw [G14, W7]; omega)) | fail)), (show x12 = 0 → J_uc (τ13.1 35) (τ13.1 36) (τ13.2.1 10 (τ13.2.1 15 (τ13.2.1 14 (τ13.1 7)))) from by (first | exact fun z => absurd z (by decide) | exact q1_16 | exact q4_16 | exact q7_16 | (intro z y y2; exfalso; omega) | (intro z y; have w := q15_2 z; exfalso; omega) | (first | exact fun z => absurd z (by decide) | (intro z y; exfalso; omega) | exact fun _ => UC | exact fun _ => uc | (intro z y y2; exact uc (by omega) (by omega)) | (intro z y y2; exfalso; omega) | (intro z y y2; rw [G10, G14, G15, W7]; exact uc (by omega) (by omega))) | fail)), (show x12 = 0 → J_dj (τ13.1 35) (τ13.1 36) (τ13.2.1 54) from by (first | exact fun z => absurd z (by decide) | exact q1_17 | exact q4_17 | exact q7_17 | (intro z y; rw [show τ17.1 36 = 0 from (q15_2 z).1]; exact j_in0 _ _) | (first | exact fun z => absurd z (by decide) | (intro z y; exfalso; omega) | exact fun _ => DJs | exact fun _ => dj) | fail)), (show x12 = 0 → J_it (τ13.1 35) (τ13.1 7) (τ13.1 6) (τ13.1 37) (τ13.2.1 14) (τ13.2.1 15) (τ13.2.1 16) (τ13.2.1 19) from by (first | exact fun z => absurd z (by decide) | exact q1_18 | exact q4_18 | exact q7_18 | (intro z y; have w := q15_2 z; exfalso; omega) | (intro z y; have rs := J_rs_0 p14 (by omega); exact J_ip0 (by rw [W6, G14, W7]; omega)) | (first | exact fun z => absurd z (by decide) | (intro z y; exfalso; omega) | exact fun _ => IPs | exact fun _ => ipx | (intro z y; exact ipx (by omega)) | (intro z y; rw [W7, W6, W37, G14, G15, G16, G19]; exact ipx (by omega))) | fail)), (show x12 = 0 → J_hu (τ13.1 35) (τ13.1 13) (τ13.1 7) from by (first | exact fun z => absurd z (by decide) | exact q1_19 | exact q4_19 | exact q7_19 | (intro z; have hu := hux; unfold J_hu at hu ⊢; omega) | (first | exact fun z => absurd z (by decide) | exact fun _ => HUs | (intro z; have hu := hux; unfold J_hu at hu ⊢; omega)) | fail)), (show x12 = 0 → J_ft (τ13.1 35) (τ13.1 24) (τ13.1 7) (τ13.1 13) (τ13.1 14) (τ13.2.1 13) (τ13.2.1 14) (τ13.2.1 15) (τ13.2.1 16) (τ13.2.1 27) (τ13.2.1 28) (τ13.2.1 29) (τ13.2.1 30) (τ13.2.1 31) (τ13.2.1 32) from by (first | exact fun z => absurd z (by decide) | exact q1_20 | exact q4_20 | exact q7_20 | (intro z y; have w := q15_2 z; exfalso; omega) | (intro z y; exfalso; omega) | (first | exact fun z => absurd z (by decide) | (intro z y; exfalso; omega) | exact fun _ => FRs | exact fun _ => frx | (intro z y; exact frx (by omega)) | (intro z y; have w := frx (by omega); rw [W7, W13, W14, W24, G13, G14, G15, G16, G27, G28, G29, G30, G31, G32]; exact w)) | fail)), (show x12 = 0 → J_ss (τ13.1 35) (τ13.1 24) (τ13.1 21) (τ13.1 23) (τ13.1 22) (τ13.1 27) (τ13.1 26) (τ13.1 25) (τ13.1 16) (τ13.2.1 49) (τ13.2.1 51) from by (first | exact fun z => absurd z (by decide) | exact q1_21 | exact q4_21 | exact q7_21 | (intro z y; have w := q15_2 z; exfalso; omega) | (intro z y; exfalso; omega) | (first | exact fun z => absurd z (by decide) | (intro z y; exfalso; omega) | exact fun _ => SPs | exact fun _ => spx | (intro z y; exact spx (by omega))) | fail)), (show x12 = 0 → (τ13.1 15) ≤ (τ13.1 16) ∧ τ13.2.1 36 (τ13.1 15) ≤ (τ13.1 16) from by (first | exact fun z => absurd z (by decide) | exact q1_22 | exact q4_22 | exact q7_22 | (intro z; first | exact sux | omega) | fail)), (show x12 = 0 → (τ13.1 9) ≤ (τ13.1 7) from by (first | exact fun z => absurd z (by decide) | exact q1_23 | exact q4_23 | exact q7_23 | (intro z; omega) | fail)), (show j_rr ((σ.1 5)) (σ.2.1 10) (τ13.2.1 10) from by (first | exact j_rr0 _ _ | exact q1_24 | exact q4_24 | exact q7_24 | (rw [G10]; exact j_rr0 _ _) | fail)), (show j_eq (σ.2.1 36 (σ.1 15)) (σ.2.1 37) (τ13.2.1 37) from CH), (show (τ13.1 12) ≤ (σ.1 12) + 1 from by (first | assumption | omega | (simp only [st_s] <;> omega) | fail)), (show c_Y σ τ13 from by (first | exact c_Y0 _ | exact c_Y_g W4 G11 G20 G22 G25 | exact q1_27 | exact q4_27 | exact q7_27 | exact c_Y_g (by omega) (by rw [g11_τ4]) (by rw [g20_τ4]) (by rw [g22_τ4]) (by rw [g25_τ4]) | exact c_Y_g (by omega) (by rw [g11_τ13]) (by rw [g20_τ13]) (by rw [g22_τ13]) (by rw [g25_τ13]) | exact c_Y_g (by omega) (by rw [g11_τ17]) (by rw [g20_τ17]) (by rw [g22_τ17]) (by rw [g25_τ17]) | fail)), ag⟩
  ·
    refine h92 _ _ ?_
    refine ⟨fun c14 => ?_, fun c14 => ?_⟩
    ·
      exact ⟨hT, (show 0 ≤ 4 ∧ 4 ≤ 19 from by (first | assumption | omega | (simp only [st_s] <;> omega) | fail)), (show J_ht (σ.1 3) (σ.2.1 2) (σ.2.1 3) (σ.2.1 5) (σ.2.1 6) from HT), (show J_mn (σ.1 3) (σ.1 5) ((σ.1 7) + 1) (σ.2.1 4) from MN), (show J_rks (σ.1 5) (σ.1 4) (σ.2.1 10) (σ.2.1 11) from RKS), (show J_vs (σ.1 8) (σ.1 5) (σ.2.1 20) from VS), (show J_vs (σ.1 6) (σ.1 5) (σ.2.1 15) from TX), (show J_va (σ.1 8) 1000 (σ.2.1 18) (σ.2.1 20) from VA), (show J_mk (σ.1 11) (σ.1 8) (σ.1 9) (σ.1 10) (σ.2.1 25) from MK), (show J_sc (σ.1 7) (σ.1 9) (σ.2.1 13) (σ.2.1 14) (σ.2.1 15) (σ.2.1 16) (σ.2.1 22) (σ.2.1 19) from SC), (show J_ff (σ.1 5) (σ.1 7) (σ.2.1 9) (σ.2.1 13) (σ.2.1 14) (σ.2.1 15) from FF), (show ∀ s : Int, σ.2.1 26 s ≤ (σ.1 12) from MT), (show J_all (σ.1 7) (σ.1 6) (σ.1 13) (σ.1 14) (σ.1 15) (σ.2.1 13) (σ.2.1 14) (σ.2.1 15) (σ.2.1 16) (σ.2.1 10) (σ.2.1 27) (σ.2.1 28) (σ.2.1 29) (σ.2.1 30) (σ.2.1 31) (σ.2.1 32) (σ.2.1 33) (σ.2.1 34) (σ.2.1 35) (σ.2.1 36) (σ.2.1 37) from CJ), (show J_bp (σ.2.1 44) (σ.2.1 45) from BP), (show J_nl (σ.1 3) (σ.2.1 2) (σ.2.1 3) (σ.2.1 4) from NL), (show 4 = 0 → J_rs (σ.1 35) (σ.1 7) (σ.1 6) (σ.1 36) (σ.1 37) (σ.1 5) (σ.1 8) (σ.2.1 14) from by (first | exact fun z => absurd z (by decide) | exact q1_15 | exact q4_15 | exact q7_15 | (intro z; have w := q15_2 z; have rs := J_rs_0 p14 (by omega); unfold J_rs; rw [G14, W7]; omega) | (intro z; have rs := J_rs_0 p14 (by omega); have r1 := J_rs_1 p14 (by omega); unfold J_rs; rw [G14, W7]; omega) | (first | exact fun z => absurd z (by decide) | exact fun _ => RS | (intro z; have rs := p14; unfold J_rs at rs ⊢; omega) | (intro z; have rs := p14; unfold J_rs at rs ⊢; rw [G14, W7]; omega)) | fail)), (show 4 = 0 → J_uc (σ.1 35) (σ.1 36) (σ.2.1 10 (σ.2.1 15 (σ.2.1 14 (σ.1 7)))) from by (first | exact fun z => absurd z (by decide) | exact q1_16 | exact q4_16 | exact q7_16 | (intro z y y2; exfalso; omega) | (intro z y; have w := q15_2 z; exfalso; omega) | (first | exact fun z => absurd z (by decide) | (intro z y; exfalso; omega) | exact fun _ => UC | exact fun _ => uc | (intro z y y2; exact uc (by omega) (by omega)) | (intro z y y2; exfalso; omega) | (intro z y y2; rw [G10, G14, G15, W7]; exact uc (by omega) (by omega))) | fail)), (show 4 = 0 → J_dj (σ.1 35) (σ.1 36) (σ.2.1 54) from by (first | exact fun z => absurd z (by decide) | exact q1_17 | exact q4_17 | exact q7_17 | (intro z y; rw [show τ17.1 36 = 0 from (q15_2 z).1]; exact j_in0 _ _) | (first | exact fun z => absurd z (by decide) | (intro z y; exfalso; omega) | exact fun _ => DJs | exact fun _ => dj) | fail)), (show 4 = 0 → J_it (σ.1 35) (σ.1 7) (σ.1 6) (σ.1 37) (σ.2.1 14) (σ.2.1 15) (σ.2.1 16) (σ.2.1 19) from by (first | exact fun z => absurd z (by decide) | exact q1_18 | exact q4_18 | exact q7_18 | (intro z y; have w := q15_2 z; exfalso; omega) | (intro z y; have rs := J_rs_0 p14 (by omega); exact J_ip0 (by rw [W6, G14, W7]; omega)) | (first | exact fun z => absurd z (by decide) | (intro z y; exfalso; omega) | exact fun _ => IPs | exact fun _ => ipx | (intro z y; exact ipx (by omega)) | (intro z y; rw [W7, W6, W37, G14, G15, G16, G19]; exact ipx (by omega))) | fail)), (show 4 = 0 → J_hu (σ.1 35) (σ.1 13) (σ.1 7) from by (first | exact fun z => absurd z (by decide) | exact q1_19 | exact q4_19 | exact q7_19 | (intro z; have hu := hux; unfold J_hu at hu ⊢; omega) | (first | exact fun z => absurd z (by decide) | exact fun _ => HUs | (intro z; have hu := hux; unfold J_hu at hu ⊢; omega)) | fail)), (show 4 = 0 → J_ft (σ.1 35) (σ.1 24) (σ.1 7) (σ.1 13) (σ.1 14) (σ.2.1 13) (σ.2.1 14) (σ.2.1 15) (σ.2.1 16) (σ.2.1 27) (σ.2.1 28) (σ.2.1 29) (σ.2.1 30) (σ.2.1 31) (σ.2.1 32) from by (first | exact fun z => absurd z (by decide) | exact q1_20 | exact q4_20 | exact q7_20 | (intro z y; have w := q15_2 z; exfalso; omega) | (intro z y; exfalso; omega) | (first | exact fun z => absurd z (by decide) | (intro z y; exfalso; omega) | exact fun _ => FRs | exact fun _ => frx | (intro z y; exact frx (by omega)) | (intro z y; have w := frx (by omega); rw [W7, W13, W14, W24, G13, G14, G15, G16, G27, G28, G29, G30, G31, G32]; exact w)) | fail)), (show 4 = 0 → J_ss (σ.1 35) (σ.1 24) (σ.1 21) (σ.1 23) (σ.1 22) (σ.1 27) (σ.1 26) (σ.1 25) (σ.1 16) (σ.2.1 49) (σ.2.1 51) from by (first | exact fun z => absurd z (by decide) | exact q1_21 | exact q4_21 | exact q7_21 | (intro z y; have w := q15_2 z; exfalso; omega) | (intro z y; exfalso; omega) | (first | exact fun z => absurd z (by decide) | (intro z y; exfalso; omega) | exact fun _ => SPs | exact fun _ => spx | (intro z y; exact spx (by omega))) | fail)), (show 4 = 0 → (σ.1 15) ≤ (σ.1 16) ∧ σ.2.1 36 (σ.1 15) ≤ (σ.1 16) from by (first | exact fun z => absurd z (by decide) | exact q1_22 | exact q4_22 | exact q7_22 | (intro z; first | exact sux | omega) | fail)), (show 4 = 0 → (σ.1 9) ≤ (σ.1 7) from by (first | exact fun z => absurd z (by decide) | exact q1_23 | exact q4_23 | exact q7_23 | (intro z; omega) | fail)), (show j_rr ((σ.1 5)) (σ.2.1 10) (σ.2.1 10) from by (first | exact j_rr0 _ _ | exact q1_24 | exact q4_24 | exact q7_24 | (rw [G10]; exact j_rr0 _ _) | fail)), (show j_eq (σ.2.1 36 (σ.1 15)) (σ.2.1 37) (σ.2.1 37) from CH), (show (σ.1 12) ≤ (σ.1 12) + 1 from by (first | assumption | omega | (simp only [st_s] <;> omega) | fail)), (show c_Y σ σ from by (first | exact c_Y0 _ | exact c_Y_g W4 G11 G20 G22 G25 | exact q1_27 | exact q4_27 | exact q7_27 | exact c_Y_g (by omega) (by rw [g11_τ4]) (by rw [g20_τ4]) (by rw [g22_τ4]) (by rw [g25_τ4]) | exact c_Y_g (by omega) (by rw [g11_τ13]) (by rw [g20_τ13]) (by rw [g22_τ13]) (by rw [g25_τ13]) | exact c_Y_g (by omega) (by rw [g11_τ17]) (by rw [g20_τ17]) (by rw [g22_τ17]) (by rw [g25_τ17]) | fail)), ag⟩
    ·
      refine ⟨_, K2_X7_declaration hT, ?_⟩
      intro x16 τ17 r_x16 hn_τ17 hf_τ17 hq
      obtain ⟨hT, q15_1, q15_2⟩ := hq
      replace q15_1 : 0 ≤ x16 ∧ x16 ≤ 19 := q15_1
      replace q15_2 : x16 = 0 → (τ17.1 36) = 0 ∧ 2 ≤ (τ17.1 35) ∧ (τ17.1 35) ≤ 4 := q15_2
      replace ag : c_ag σ τ17 := ag_r ag hf_τ17 rfl rfl
      have w3_τ17 : τ17.1 3 = σ.1 3 := hf_τ17.1 3 (by decide)
      have w4_τ17 : τ17.1 4 = σ.1 4 := hf_τ17.1 4 (by decide)
      have w5_τ17 : τ17.1 5 = σ.1 5 := hf_τ17.1 5 (by decide)
      have w6_τ17 : τ17.1 6 = σ.1 6 := hf_τ17.1 6 (by decide)
      have w7_τ17 : τ17.1 7 = σ.1 7 := hf_τ17.1 7 (by decide)
      have w8_τ17 : τ17.1 8 = σ.1 8 := hf_τ17.1 8 (by decide)
      have w9_τ17 : τ17.1 9 = σ.1 9 := hf_τ17.1 9 (by decide)
      have w10_τ17 : τ17.1 10 = σ.1 10 := hf_τ17.1 10 (by decide)
      have w11_τ17 : τ17.1 11 = σ.1 11 := hf_τ17.1 11 (by decide)
      have w12_τ17 : τ17.1 12 = σ.1 12 := hf_τ17.1 12 (by decide)
      have w13_τ17 : τ17.1 13 = σ.1 13 := hf_τ17.1 13 (by decide)
      have w14_τ17 : τ17.1 14 = σ.1 14 := hf_τ17.1 14 (by decide)
      have w15_τ17 : τ17.1 15 = σ.1 15 := hf_τ17.1 15 (by decide)
      have w16_τ17 : τ17.1 16 = σ.1 16 := hf_τ17.1 16 (by decide)
      have w21_τ17 : τ17.1 21 = σ.1 21 := hf_τ17.1 21 (by decide)
      have w22_τ17 : τ17.1 22 = σ.1 22 := hf_τ17.1 22 (by decide)
      have w23_τ17 : τ17.1 23 = σ.1 23 := hf_τ17.1 23 (by decide)
      have w24_τ17 : τ17.1 24 = σ.1 24 := hf_τ17.1 24 (by decide)
      have w25_τ17 : τ17.1 25 = σ.1 25 := hf_τ17.1 25 (by decide)
      have w26_τ17 : τ17.1 26 = σ.1 26 := hf_τ17.1 26 (by decide)
      have w27_τ17 : τ17.1 27 = σ.1 27 := hf_τ17.1 27 (by decide)
      have w37_τ17 : τ17.1 37 = σ.1 37 := hf_τ17.1 37 (by decide)
      have g2_τ17 : τ17.2.1 2 = σ.2.1 2 := hf_τ17.2.1 2 (by decide)
      have g3_τ17 : τ17.2.1 3 = σ.2.1 3 := hf_τ17.2.1 3 (by decide)
      have g4_τ17 : τ17.2.1 4 = σ.2.1 4 := hf_τ17.2.1 4 (by decide)
      have g5_τ17 : τ17.2.1 5 = σ.2.1 5 := hf_τ17.2.1 5 (by decide)
      have g6_τ17 : τ17.2.1 6 = σ.2.1 6 := hf_τ17.2.1 6 (by decide)
      have g9_τ17 : τ17.2.1 9 = σ.2.1 9 := hf_τ17.2.1 9 (by decide)
      have g10_τ17 : τ17.2.1 10 = σ.2.1 10 := hf_τ17.2.1 10 (by decide)
      have g11_τ17 : τ17.2.1 11 = σ.2.1 11 := hf_τ17.2.1 11 (by decide)
      have g13_τ17 : τ17.2.1 13 = σ.2.1 13 := hf_τ17.2.1 13 (by decide)
      have g14_τ17 : τ17.2.1 14 = σ.2.1 14 := hf_τ17.2.1 14 (by decide)
      have g15_τ17 : τ17.2.1 15 = σ.2.1 15 := hf_τ17.2.1 15 (by decide)
      have g16_τ17 : τ17.2.1 16 = σ.2.1 16 := hf_τ17.2.1 16 (by decide)
      have g18_τ17 : τ17.2.1 18 = σ.2.1 18 := hf_τ17.2.1 18 (by decide)
      have g19_τ17 : τ17.2.1 19 = σ.2.1 19 := hf_τ17.2.1 19 (by decide)
      have g20_τ17 : τ17.2.1 20 = σ.2.1 20 := hf_τ17.2.1 20 (by decide)
      have g22_τ17 : τ17.2.1 22 = σ.2.1 22 := hf_τ17.2.1 22 (by decide)
      have g25_τ17 : τ17.2.1 25 = σ.2.1 25 := hf_τ17.2.1 25 (by decide)
      have g26_τ17 : τ17.2.1 26 = σ.2.1 26 := hf_τ17.2.1 26 (by decide)
      have g27_τ17 : τ17.2.1 27 = σ.2.1 27 := hf_τ17.2.1 27 (by decide)
      have g28_τ17 : τ17.2.1 28 = σ.2.1 28 := hf_τ17.2.1 28 (by decide)
      have g29_τ17 : τ17.2.1 29 = σ.2.1 29 := hf_τ17.2.1 29 (by decide)
      have g30_τ17 : τ17.2.1 30 = σ.2.1 30 := hf_τ17.2.1 30 (by decide)
      have g31_τ17 : τ17.2.1 31 = σ.2.1 31 := hf_τ17.2.1 31 (by decide)
      have g32_τ17 : τ17.2.1 32 = σ.2.1 32 := hf_τ17.2.1 32 (by decide)
      have g33_τ17 : τ17.2.1 33 = σ.2.1 33 := hf_τ17.2.1 33 (by decide)
      have g34_τ17 : τ17.2.1 34 = σ.2.1 34 := hf_τ17.2.1 34 (by decide)
      have g35_τ17 : τ17.2.1 35 = σ.2.1 35 := hf_τ17.2.1 35 (by decide)
      have g36_τ17 : τ17.2.1 36 = σ.2.1 36 := hf_τ17.2.1 36 (by decide)
      have g37_τ17 : τ17.2.1 37 = σ.2.1 37 := hf_τ17.2.1 37 (by decide)
      have g44_τ17 : τ17.2.1 44 = σ.2.1 44 := hf_τ17.2.1 44 (by decide)
      have g45_τ17 : τ17.2.1 45 = σ.2.1 45 := hf_τ17.2.1 45 (by decide)
      have g49_τ17 : τ17.2.1 49 = σ.2.1 49 := hf_τ17.2.1 49 (by decide)
      have g51_τ17 : τ17.2.1 51 = σ.2.1 51 := hf_τ17.2.1 51 (by decide)
      have g54_τ17 : τ17.2.1 54 = σ.2.1 54 := hf_τ17.2.1 54 (by decide)
      have W3 : τ17.1 3 = σ.1 3 := by first | exact w3_τ17.trans W3 | omega
      have W4 : τ17.1 4 = σ.1 4 := by first | exact w4_τ17.trans W4 | omega
      have W5 : τ17.1 5 = σ.1 5 := by first | exact w5_τ17.trans W5 | omega
      have W6 : τ17.1 6 = σ.1 6 := by first | exact w6_τ17.trans W6 | omega
      have W7 : τ17.1 7 = σ.1 7 := by first | exact w7_τ17.trans W7 | omega
      have W15 : τ17.1 15 = σ.1 15 := by first | exact w15_τ17.trans W15 | omega
      have W16 : τ17.1 16 = σ.1 16 := by first | exact w16_τ17.trans W16 | omega
      have G2 : τ17.2.1 2 = σ.2.1 2 := (g2_τ17).trans G2
      have G3 : τ17.2.1 3 = σ.2.1 3 := (g3_τ17).trans G3
      have G4 : τ17.2.1 4 = σ.2.1 4 := (g4_τ17).trans G4
      have G5 : τ17.2.1 5 = σ.2.1 5 := (g5_τ17).trans G5
      have G6 : τ17.2.1 6 = σ.2.1 6 := (g6_τ17).trans G6
      have G9 : τ17.2.1 9 = σ.2.1 9 := (g9_τ17).trans G9
      have G10 : τ17.2.1 10 = σ.2.1 10 := (g10_τ17).trans G10
      have G11 : τ17.2.1 11 = σ.2.1 11 := (g11_τ17).trans G11
      have G13 : τ17.2.1 13 = σ.2.1 13 := (g13_τ17).trans G13
      have G14 : τ17.2.1 14 = σ.2.1 14 := (g14_τ17).trans G14
      have G15 : τ17.2.1 15 = σ.2.1 15 := (g15_τ17).trans G15
      have G16 : τ17.2.1 16 = σ.2.1 16 := (g16_τ17).trans G16
      have G20 : τ17.2.1 20 = σ.2.1 20 := (g20_τ17).trans G20
      have G22 : τ17.2.1 22 = σ.2.1 22 := (g22_τ17).trans G22
      have G33 : τ17.2.1 33 = σ.2.1 33 := (g33_τ17).trans G33
      have G34 : τ17.2.1 34 = σ.2.1 34 := (g34_τ17).trans G34
      have G35 : τ17.2.1 35 = σ.2.1 35 := (g35_τ17).trans G35
      have G36 : τ17.2.1 36 = σ.2.1 36 := (g36_τ17).trans G36
      have G37 : τ17.2.1 37 = σ.2.1 37 := (g37_τ17).trans G37
      have G44 : τ17.2.1 44 = σ.2.1 44 := (g44_τ17).trans G44
      have G45 : τ17.2.1 45 = σ.2.1 45 := (g45_τ17).trans G45
      have G49 : τ17.2.1 49 = σ.2.1 49 := (g49_τ17).trans G49
      have G51 : τ17.2.1 51 = σ.2.1 51 := (g51_τ17).trans G51
      have G54 : τ17.2.1 54 = σ.2.1 54 := (g54_τ17).trans G54
      have y14_7_τ17 : τ17.2.1 14 (τ17.1 7) = (σ.2.1 14) (σ.1 7) := by rw [g14_τ17, w7_τ17]
      have y36_15_τ17 : τ17.2.1 36 (τ17.1 15) = (σ.2.1 36) (σ.1 15) := by rw [g36_τ17, w15_τ17]
      have HT : J_ht (τ17.1 3) (τ17.2.1 2) (τ17.2.1 3) (τ17.2.1 5) (τ17.2.1 6) := by rw [show (J_ht (τ17.1 3) (τ17.2.1 2) (τ17.2.1 3) (τ17.2.1 5) (τ17.2.1 6)) = (J_ht (σ.1 3) (σ.2.1 2) (σ.2.1 3) (σ.2.1 5) (σ.2.1 6)) from by rw [w3_τ17, g2_τ17, g3_τ17, g5_τ17, g6_τ17]]; exact HT
      have NL : J_nl (τ17.1 3) (τ17.2.1 2) (τ17.2.1 3) (τ17.2.1 4) := by rw [show (J_nl (τ17.1 3) (τ17.2.1 2) (τ17.2.1 3) (τ17.2.1 4)) = (J_nl (σ.1 3) (σ.2.1 2) (σ.2.1 3) (σ.2.1 4)) from by rw [w3_τ17, g2_τ17, g3_τ17, g4_τ17]]; exact NL
      have MN : J_mn (τ17.1 3) (τ17.1 5) ((τ17.1 7) + 1) (τ17.2.1 4) := by rw [show (J_mn (τ17.1 3) (τ17.1 5) ((τ17.1 7) + 1) (τ17.2.1 4)) = (J_mn (σ.1 3) (σ.1 5) ((σ.1 7) + 1) (σ.2.1 4)) from by rw [w3_τ17, w5_τ17, w7_τ17, g4_τ17]]; exact MN
      have VA : J_va (τ17.1 8) 1000 (τ17.2.1 18) (τ17.2.1 20) := by rw [show (J_va (τ17.1 8) 1000 (τ17.2.1 18) (τ17.2.1 20)) = (J_va (σ.1 8) 1000 (σ.2.1 18) (σ.2.1 20)) from by rw [w8_τ17, g18_τ17, g20_τ17]]; exact VA
      have SC : J_sc (τ17.1 7) (τ17.1 9) (τ17.2.1 13) (τ17.2.1 14) (τ17.2.1 15) (τ17.2.1 16) (τ17.2.1 22) (τ17.2.1 19) := by rw [show (J_sc (τ17.1 7) (τ17.1 9) (τ17.2.1 13) (τ17.2.1 14) (τ17.2.1 15) (τ17.2.1 16) (τ17.2.1 22) (τ17.2.1 19)) = (J_sc (σ.1 7) (σ.1 9) (σ.2.1 13) (σ.2.1 14) (σ.2.1 15) (σ.2.1 16) (σ.2.1 22) (σ.2.1 19)) from by rw [w7_τ17, w9_τ17, g13_τ17, g14_τ17, g15_τ17, g16_τ17, g19_τ17, g22_τ17]]; exact SC
      have MK : J_mk (τ17.1 11) (τ17.1 8) (τ17.1 9) (τ17.1 10) (τ17.2.1 25) := by rw [show (J_mk (τ17.1 11) (τ17.1 8) (τ17.1 9) (τ17.1 10) (τ17.2.1 25)) = (J_mk (σ.1 11) (σ.1 8) (σ.1 9) (σ.1 10) (σ.2.1 25)) from by rw [w8_τ17, w9_τ17, w10_τ17, w11_τ17, g25_τ17]]; exact MK
      have FF : J_ff (τ17.1 5) (τ17.1 7) (τ17.2.1 9) (τ17.2.1 13) (τ17.2.1 14) (τ17.2.1 15) := by rw [show (J_ff (τ17.1 5) (τ17.1 7) (τ17.2.1 9) (τ17.2.1 13) (τ17.2.1 14) (τ17.2.1 15)) = (J_ff (σ.1 5) (σ.1 7) (σ.2.1 9) (σ.2.1 13) (σ.2.1 14) (σ.2.1 15)) from by rw [w5_τ17, w7_τ17, g9_τ17, g13_τ17, g14_τ17, g15_τ17]]; exact FF
      have MT : ∀ s : Int, τ17.2.1 26 s ≤ (τ17.1 12) := by rw [show (∀ s : Int, τ17.2.1 26 s ≤ (τ17.1 12)) = (∀ s : Int, σ.2.1 26 s ≤ (σ.1 12)) from by rw [w12_τ17, g26_τ17]]; exact MT
      have VS : J_vs (τ17.1 8) (τ17.1 5) (τ17.2.1 20) := by rw [show (J_vs (τ17.1 8) (τ17.1 5) (τ17.2.1 20)) = (J_vs (σ.1 8) (σ.1 5) (σ.2.1 20)) from by rw [w5_τ17, w8_τ17, g20_τ17]]; exact VS
      have TX : J_vs (τ17.1 6) (τ17.1 5) (τ17.2.1 15) := by rw [show (J_vs (τ17.1 6) (τ17.1 5) (τ17.2.1 15)) = (J_vs (σ.1 6) (σ.1 5) (σ.2.1 15)) from by rw [w5_τ17, w6_τ17, g15_τ17]]; exact TX
      have RKS : J_rks (τ17.1 5) (τ17.1 4) (τ17.2.1 10) (τ17.2.1 11) := by rw [show (J_rks (τ17.1 5) (τ17.1 4) (τ17.2.1 10) (τ17.2.1 11)) = (J_rks (σ.1 5) (σ.1 4) (σ.2.1 10) (σ.2.1 11)) from by rw [w4_τ17, w5_τ17, g10_τ17, g11_τ17]]; exact RKS
      have CJ : J_all (τ17.1 7) (τ17.1 6) (τ17.1 13) (τ17.1 14) (τ17.1 15) (τ17.2.1 13) (τ17.2.1 14) (τ17.2.1 15) (τ17.2.1 16) (τ17.2.1 10) (τ17.2.1 27) (τ17.2.1 28) (τ17.2.1 29) (τ17.2.1 30) (τ17.2.1 31) (τ17.2.1 32) (τ17.2.1 33) (τ17.2.1 34) (τ17.2.1 35) (τ17.2.1 36) (τ17.2.1 37) := by rw [show (J_all (τ17.1 7) (τ17.1 6) (τ17.1 13) (τ17.1 14) (τ17.1 15) (τ17.2.1 13) (τ17.2.1 14) (τ17.2.1 15) (τ17.2.1 16) (τ17.2.1 10) (τ17.2.1 27) (τ17.2.1 28) (τ17.2.1 29) (τ17.2.1 30) (τ17.2.1 31) (τ17.2.1 32) (τ17.2.1 33) (τ17.2.1 34) (τ17.2.1 35) (τ17.2.1 36) (τ17.2.1 37)) = (J_all (σ.1 7) (σ.1 6) (σ.1 13) (σ.1 14) (σ.1 15) (σ.2.1 13) (σ.2.1 14) (σ.2.1 15) (σ.2.1 16) (σ.2.1 10) (σ.2.1 27) (σ.2.1 28) (σ.2.1 29) (σ.2.1 30) (σ.2.1 31) (σ.2.1 32) (σ.2.1 33) (σ.2.1 34) (σ.2.1 35) (σ.2.1 36) (σ.2.1 37)) from by rw [w6_τ17, w7_τ17, w13_τ17, w14_τ17, w15_τ17, g10_τ17, g13_τ17, g14_τ17, g15_τ17, g16_τ17, g27_τ17, g28_τ17, g29_τ17, g30_τ17, g31_τ17, g32_τ17, g33_τ17, g34_τ17, g35_τ17, g36_τ17, g37_τ17]]; exact CJ
      have BP : J_bp (τ17.2.1 44) (τ17.2.1 45) := by rw [show (J_bp (τ17.2.1 44) (τ17.2.1 45)) = (J_bp (σ.2.1 44) (σ.2.1 45)) from by rw [g44_τ17, g45_τ17]]; exact BP
      have CH : j_eq (σ.2.1 36 (σ.1 15)) (σ.2.1 37) (τ17.2.1 37) := by rw [show (j_eq (σ.2.1 36 (σ.1 15)) (σ.2.1 37) (τ17.2.1 37)) = (j_eq (σ.2.1 36 (σ.1 15)) (σ.2.1 37) (σ.2.1 37)) from by rw [g37_τ17]]; exact CH
      have A2 : ∀ j, 0 ≤ τ17.2.1 2 j ∧ τ17.2.1 2 j ≤ 65535 := fun j => hT.2 2 j
      have A3 : ∀ j, 0 ≤ τ17.2.1 3 j ∧ τ17.2.1 3 j ≤ 30000 := fun j => hT.2 3 j
      have A4 : ∀ j, (-1000) ≤ τ17.2.1 4 j ∧ τ17.2.1 4 j ≤ 1499 := fun j => hT.2 4 j
      have A5 : ∀ j, 0 ≤ τ17.2.1 5 j ∧ τ17.2.1 5 j ≤ 2500 := fun j => hT.2 5 j
      have A6 : ∀ j, 0 ≤ τ17.2.1 6 j ∧ τ17.2.1 6 j ≤ 2500 := fun j => hT.2 6 j
      have A9 : ∀ j, (-1) ≤ τ17.2.1 9 j ∧ τ17.2.1 9 j ≤ 1499 := fun j => hT.2 9 j
      have A10 : ∀ j, (-1) ≤ τ17.2.1 10 j ∧ τ17.2.1 10 j ≤ 99 := fun j => hT.2 10 j
      have A11 : ∀ j, 0 ≤ τ17.2.1 11 j ∧ τ17.2.1 11 j ≤ 999 := fun j => hT.2 11 j
      have A13 : ∀ j, 0 ≤ τ17.2.1 13 j ∧ τ17.2.1 13 j ≤ 4 := fun j => hT.2 13 j
      have A14 : ∀ j, 0 ≤ τ17.2.1 14 j ∧ τ17.2.1 14 j ≤ 30000 := fun j => hT.2 14 j
      have A15 : ∀ j, 0 ≤ τ17.2.1 15 j ∧ τ17.2.1 15 j ≤ 999 := fun j => hT.2 15 j
      have A16 : ∀ j, (-1) ≤ τ17.2.1 16 j ∧ τ17.2.1 16 j ≤ 1499 := fun j => hT.2 16 j
      have A18 : ∀ j, 0 ≤ τ17.2.1 18 j ∧ τ17.2.1 18 j ≤ 1 := fun j => hT.2 18 j
      have A19 : ∀ j, (-1) ≤ τ17.2.1 19 j ∧ τ17.2.1 19 j ≤ 1499 := fun j => hT.2 19 j
      have A20 : ∀ j, 0 ≤ τ17.2.1 20 j ∧ τ17.2.1 20 j ≤ 999 := fun j => hT.2 20 j
      have A22 : ∀ j, 0 ≤ τ17.2.1 22 j ∧ τ17.2.1 22 j ≤ 1499 := fun j => hT.2 22 j
      have A26 : ∀ j, (-2147483648) ≤ τ17.2.1 26 j ∧ τ17.2.1 26 j ≤ 2147483647 := fun j => hT.2 26 j
      have A27 : ∀ j, 0 ≤ τ17.2.1 27 j ∧ τ17.2.1 27 j ≤ 90000 := fun j => hT.2 27 j
      have A28 : ∀ j, 0 ≤ τ17.2.1 28 j ∧ τ17.2.1 28 j ≤ 60 := fun j => hT.2 28 j
      have A29 : ∀ j, 0 ≤ τ17.2.1 29 j ∧ τ17.2.1 29 j ≤ 1499 := fun j => hT.2 29 j
      have A30 : ∀ j, 0 ≤ τ17.2.1 30 j ∧ τ17.2.1 30 j ≤ 20000 := fun j => hT.2 30 j
      have A31 : ∀ j, 0 ≤ τ17.2.1 31 j ∧ τ17.2.1 31 j ≤ 20000 := fun j => hT.2 31 j
      have A32 : ∀ j, 0 ≤ τ17.2.1 32 j ∧ τ17.2.1 32 j ≤ 999999 := fun j => hT.2 32 j
      have A33 : ∀ j, 0 ≤ τ17.2.1 33 j ∧ τ17.2.1 33 j ≤ 20000 := fun j => hT.2 33 j
      have A34 : ∀ j, 0 ≤ τ17.2.1 34 j ∧ τ17.2.1 34 j ≤ 20000 := fun j => hT.2 34 j
      have A35 : ∀ j, 0 ≤ τ17.2.1 35 j ∧ τ17.2.1 35 j ≤ 1499 := fun j => hT.2 35 j
      have A36 : ∀ j, 0 ≤ τ17.2.1 36 j ∧ τ17.2.1 36 j ≤ 20000 := fun j => hT.2 36 j
      have A37 : ∀ j, 0 ≤ τ17.2.1 37 j ∧ τ17.2.1 37 j ≤ 19999 := fun j => hT.2 37 j
      have A44 : ∀ j, 0 ≤ τ17.2.1 44 j ∧ τ17.2.1 44 j ≤ 42000 := fun j => hT.2 44 j
      have A45 : ∀ j, 0 ≤ τ17.2.1 45 j ∧ τ17.2.1 45 j ≤ 1000 := fun j => hT.2 45 j
      have A49 : ∀ j, (-300) ≤ τ17.2.1 49 j ∧ τ17.2.1 49 j ≤ 67035 := fun j => hT.2 49 j
      have A51 : ∀ j, 0 ≤ τ17.2.1 51 j ∧ τ17.2.1 51 j ≤ 1499 := fun j => hT.2 51 j
      have A54 : ∀ j, 0 ≤ τ17.2.1 54 j ∧ τ17.2.1 54 j ≤ 999 := fun j => hT.2 54 j
      have v3 : 0 ≤ τ17.1 3 ∧ τ17.1 3 ≤ 2500 := hT.1 3
      have v4 : 0 ≤ τ17.1 4 ∧ τ17.1 4 ≤ 100 := hT.1 4
      have v5 : 0 ≤ τ17.1 5 ∧ τ17.1 5 ≤ 1000 := hT.1 5
      have v6 : 0 ≤ τ17.1 6 ∧ τ17.1 6 ≤ 30000 := hT.1 6
      have v7 : 0 ≤ τ17.1 7 ∧ τ17.1 7 ≤ 1500 := hT.1 7
      have v8 : 0 ≤ τ17.1 8 ∧ τ17.1 8 ≤ 1000 := hT.1 8
      have v9 : 0 ≤ τ17.1 9 ∧ τ17.1 9 ≤ 1500 := hT.1 9
      have v10 : 0 ≤ τ17.1 10 ∧ τ17.1 10 ≤ 1000 := hT.1 10
      have v11 : 0 ≤ τ17.1 11 ∧ τ17.1 11 ≤ 50 := hT.1 11
      have v12 : (-2147483648) ≤ τ17.1 12 ∧ τ17.1 12 ≤ 2147483647 := hT.1 12
      have v13 : 0 ≤ τ17.1 13 ∧ τ17.1 13 ≤ 90000 := hT.1 13
      have v14 : 0 ≤ τ17.1 14 ∧ τ17.1 14 ≤ 20000 := hT.1 14
      have v15 : 0 ≤ τ17.1 15 ∧ τ17.1 15 ≤ 20000 := hT.1 15
      have v16 : 0 ≤ τ17.1 16 ∧ τ17.1 16 ≤ 20000 := hT.1 16
      have v21 : 0 ≤ τ17.1 21 ∧ τ17.1 21 ≤ 20000 := hT.1 21
      have v22 : 0 ≤ τ17.1 22 ∧ τ17.1 22 ≤ 300 := hT.1 22
      have v23 : 0 ≤ τ17.1 23 ∧ τ17.1 23 ≤ 300 := hT.1 23
      have v24 : 0 ≤ τ17.1 24 ∧ τ17.1 24 ≤ 1499 := hT.1 24
      have v25 : 0 ≤ τ17.1 25 ∧ τ17.1 25 ≤ 3 := hT.1 25
      have v26 : 0 ≤ τ17.1 26 ∧ τ17.1 26 ≤ 5000010 := hT.1 26
      have v27 : 0 ≤ τ17.1 27 ∧ τ17.1 27 ≤ 1 := hT.1 27
      have v35 : 0 ≤ τ17.1 35 ∧ τ17.1 35 ≤ 7 := hT.1 35
      have v36 : 0 ≤ τ17.1 36 ∧ τ17.1 36 ≤ 1001 := hT.1 36
      have v37 : 0 ≤ τ17.1 37 ∧ τ17.1 37 ≤ 4 := hT.1 37
      have a14_7 : 0 ≤ τ17.2.1 14 (τ17.1 7) ∧ τ17.2.1 14 (τ17.1 7) ≤ 30000 := hT.2 14 _
      have a36_15 : 0 ≤ τ17.2.1 36 (τ17.1 15) ∧ τ17.2.1 36 (τ17.1 15) ≤ 20000 := hT.2 36 _
      have av13 : σ.1 13 ≤ τ17.1 13 := ag.1 13 (by decide)
      have av14 : σ.1 14 ≤ τ17.1 14 := ag.1 14 (by decide)
      exact ⟨hT, (show 0 ≤ x16 ∧ x16 ≤ 19 from by (first | assumption | omega | (simp only [st_s] <;> omega) | fail)), (show J_ht (τ17.1 3) (τ17.2.1 2) (τ17.2.1 3) (τ17.2.1 5) (τ17.2.1 6) from HT), (show J_mn (τ17.1 3) (τ17.1 5) ((τ17.1 7) + 1) (τ17.2.1 4) from MN), (show J_rks (τ17.1 5) (τ17.1 4) (τ17.2.1 10) (τ17.2.1 11) from RKS), (show J_vs (τ17.1 8) (τ17.1 5) (τ17.2.1 20) from VS), (show J_vs (τ17.1 6) (τ17.1 5) (τ17.2.1 15) from TX), (show J_va (τ17.1 8) 1000 (τ17.2.1 18) (τ17.2.1 20) from VA), (show J_mk (τ17.1 11) (τ17.1 8) (τ17.1 9) (τ17.1 10) (τ17.2.1 25) from MK), (show J_sc (τ17.1 7) (τ17.1 9) (τ17.2.1 13) (τ17.2.1 14) (τ17.2.1 15) (τ17.2.1 16) (τ17.2.1 22) (τ17.2.1 19) from SC), (show J_ff (τ17.1 5) (τ17.1 7) (τ17.2.1 9) (τ17.2.1 13) (τ17.2.1 14) (τ17.2.1 15) from FF), (show ∀ s : Int, τ17.2.1 26 s ≤ (τ17.1 12) from MT), (show J_all (τ17.1 7) (τ17.1 6) (τ17.1 13) (τ17.1 14) (τ17.1 15) (τ17.2.1 13) (τ17.2.1 14) (τ17.2.1 15) (τ17.2.1 16) (τ17.2.1 10) (τ17.2.1 27) (τ17.2.1 28) (τ17.2.1 29) (τ17.2.1 30) (τ17.2.1 31) (τ17.2.1 32) (τ17.2.1 33) (τ17.2.1 34) (τ17.2.1 35) (τ17.2.1 36) (τ17.2.1 37) from CJ), (show J_bp (τ17.2.1 44) (τ17.2.1 45) from BP), (show J_nl (τ17.1 3) (τ17.2.1 2) (τ17.2.1 3) (τ17.2.1 4) from NL), (show x16 = 0 → J_rs (τ17.1 35) (τ17.1 7) (τ17.1 6) (τ17.1 36) (τ17.1 37) (τ17.1 5) (τ17.1 8) (τ17.2.1 14) from by (first | exact fun z => absurd z (by decide) | exact q1_15 | exact q4_15 | exact q7_15 | (intro z; have w := q15_2 z; have rs := J_rs_0 p14 (by omega); unfold J_rs; rw [G14, W7]; omega) | (intro z; have rs := J_rs_0 p14 (by omega); have r1 := J_rs_1 p14 (by omega); unfold J_rs; rw [G14, W7]; omega) | (first | exact fun z => absurd z (by decide) | exact fun _ => RS | (intro z; have rs := p14; unfold J_rs at rs ⊢; omega) | (intro z; have rs := p14; unfold J_rs at rs ⊢; rw [G14, W7]; omega)) | fail)), (show x16 = 0 → J_uc (τ17.1 35) (τ17.1 36) (τ17.2.1 10 (τ17.2.1 15 (τ17.2.1 14 (τ17.1 7)))) from by (first | exact fun z => absurd z (by decide) | exact q1_16 | exact q4_16 | exact q7_16 | (intro z y y2; exfalso; omega) | (intro z y; have w := q15_2 z; exfalso; omega) | (first | exact fun z => absurd z (by decide) | (intro z y; exfalso; omega) | exact fun _ => UC | exact fun _ => uc | (intro z y y2; exact uc (by omega) (by omega)) | (intro z y y2; exfalso; omega) | (intro z y y2; rw [G10, G14, G15, W7]; exact uc (by omega) (by omega))) | fail)), (show x16 = 0 → J_dj (τ17.1 35) (τ17.1 36) (τ17.2.1 54) from by (first | exact fun z => absurd z (by decide) | exact q1_17 | exact q4_17 | exact q7_17 | (intro z y; rw [show τ17.1 36 = 0 from (q15_2 z).1]; exact j_in0 _ _) | (first | exact fun z => absurd z (by decide) | (intro z y; exfalso; omega) | exact fun _ => DJs | exact fun _ => dj) | fail)), (show x16 = 0 → J_it (τ17.1 35) (τ17.1 7) (τ17.1 6) (τ17.1 37) (τ17.2.1 14) (τ17.2.1 15) (τ17.2.1 16) (τ17.2.1 19) from by (first | exact fun z => absurd z (by decide) | exact q1_18 | exact q4_18 | exact q7_18 | (intro z y; have w := q15_2 z; exfalso; omega) | (intro z y; have rs := J_rs_0 p14 (by omega); exact J_ip0 (by rw [W6, G14, W7]; omega)) | (first | exact fun z => absurd z (by decide) | (intro z y; exfalso; omega) | exact fun _ => IPs | exact fun _ => ipx | (intro z y; exact ipx (by omega)) | (intro z y; rw [W7, W6, W37, G14, G15, G16, G19]; exact ipx (by omega))) | fail)), (show x16 = 0 → J_hu (τ17.1 35) (τ17.1 13) (τ17.1 7) from by (first | exact fun z => absurd z (by decide) | exact q1_19 | exact q4_19 | exact q7_19 | (intro z; have hu := hux; unfold J_hu at hu ⊢; omega) | (first | exact fun z => absurd z (by decide) | exact fun _ => HUs | (intro z; have hu := hux; unfold J_hu at hu ⊢; omega)) | fail)), (show x16 = 0 → J_ft (τ17.1 35) (τ17.1 24) (τ17.1 7) (τ17.1 13) (τ17.1 14) (τ17.2.1 13) (τ17.2.1 14) (τ17.2.1 15) (τ17.2.1 16) (τ17.2.1 27) (τ17.2.1 28) (τ17.2.1 29) (τ17.2.1 30) (τ17.2.1 31) (τ17.2.1 32) from by (first | exact fun z => absurd z (by decide) | exact q1_20 | exact q4_20 | exact q7_20 | (intro z y; have w := q15_2 z; exfalso; omega) | (intro z y; exfalso; omega) | (first | exact fun z => absurd z (by decide) | (intro z y; exfalso; omega) | exact fun _ => FRs | exact fun _ => frx | (intro z y; exact frx (by omega)) | (intro z y; have w := frx (by omega); rw [W7, W13, W14, W24, G13, G14, G15, G16, G27, G28, G29, G30, G31, G32]; exact w)) | fail)), (show x16 = 0 → J_ss (τ17.1 35) (τ17.1 24) (τ17.1 21) (τ17.1 23) (τ17.1 22) (τ17.1 27) (τ17.1 26) (τ17.1 25) (τ17.1 16) (τ17.2.1 49) (τ17.2.1 51) from by (first | exact fun z => absurd z (by decide) | exact q1_21 | exact q4_21 | exact q7_21 | (intro z y; have w := q15_2 z; exfalso; omega) | (intro z y; exfalso; omega) | (first | exact fun z => absurd z (by decide) | (intro z y; exfalso; omega) | exact fun _ => SPs | exact fun _ => spx | (intro z y; exact spx (by omega))) | fail)), (show x16 = 0 → (τ17.1 15) ≤ (τ17.1 16) ∧ τ17.2.1 36 (τ17.1 15) ≤ (τ17.1 16) from by (first | exact fun z => absurd z (by decide) | exact q1_22 | exact q4_22 | exact q7_22 | (intro z; first | exact sux | omega) | fail)), (show x16 = 0 → (τ17.1 9) ≤ (τ17.1 7) from by (first | exact fun z => absurd z (by decide) | exact q1_23 | exact q4_23 | exact q7_23 | (intro z; omega) | fail)), (show j_rr ((σ.1 5)) (σ.2.1 10) (τ17.2.1 10) from by (first | exact j_rr0 _ _ | exact q1_24 | exact q4_24 | exact q7_24 | (rw [G10]; exact j_rr0 _ _) | fail)), (show j_eq (σ.2.1 36 (σ.1 15)) (σ.2.1 37) (τ17.2.1 37) from CH), (show (τ17.1 12) ≤ (σ.1 12) + 1 from by (first | assumption | omega | (simp only [st_s] <;> omega) | fail)), (show c_Y σ τ17 from by (first | exact c_Y0 _ | exact c_Y_g W4 G11 G20 G22 G25 | exact q1_27 | exact q4_27 | exact q7_27 | exact c_Y_g (by omega) (by rw [g11_τ4]) (by rw [g20_τ4]) (by rw [g22_τ4]) (by rw [g25_τ4]) | exact c_Y_g (by omega) (by rw [g11_τ13]) (by rw [g20_τ13]) (by rw [g22_τ13]) (by rw [g25_τ13]) | exact c_Y_g (by omega) (by rw [g11_τ17]) (by rw [g20_τ17]) (by rw [g22_τ17]) (by rw [g25_τ17]) | fail)), ag⟩
  ·
    refine ⟨_, K2_X7_openScope hT (show J_ht (σ.1 3) (σ.2.1 2) (σ.2.1 3) (σ.2.1 5) (σ.2.1 6) from HT) (show J_mn (σ.1 3) (σ.1 5) ((σ.1 7) + 1) (σ.2.1 4) from MN) (show J_rks (σ.1 5) (σ.1 4) (σ.2.1 10) (σ.2.1 11) from RKS) (show J_vs (σ.1 8) (σ.1 5) (σ.2.1 20) from VS) (show J_vs (σ.1 6) (σ.1 5) (σ.2.1 15) from TX) (show J_va (σ.1 8) 1000 (σ.2.1 18) (σ.2.1 20) from VA) (show J_mk (σ.1 11) (σ.1 8) (σ.1 9) (σ.1 10) (σ.2.1 25) from MK) (show J_sc (σ.1 7) (σ.1 9) (σ.2.1 13) (σ.2.1 14) (σ.2.1 15) (σ.2.1 16) (σ.2.1 22) (σ.2.1 19) from SC) (show J_ff (σ.1 5) (σ.1 7) (σ.2.1 9) (σ.2.1 13) (σ.2.1 14) (σ.2.1 15) from FF) (show ∀ s : Int, σ.2.1 26 s ≤ (σ.1 12) from MT) (show J_all (σ.1 7) (σ.1 6) (σ.1 13) (σ.1 14) (σ.1 15) (σ.2.1 13) (σ.2.1 14) (σ.2.1 15) (σ.2.1 16) (σ.2.1 10) (σ.2.1 27) (σ.2.1 28) (σ.2.1 29) (σ.2.1 30) (σ.2.1 31) (σ.2.1 32) (σ.2.1 33) (σ.2.1 34) (σ.2.1 35) (σ.2.1 36) (σ.2.1 37) from CJ) (show J_bp (σ.2.1 44) (σ.2.1 45) from BP) (show J_nl (σ.1 3) (σ.2.1 2) (σ.2.1 3) (σ.2.1 4) from NL) (show J_rs (σ.1 35) (σ.1 7) (σ.1 6) (σ.1 36) (σ.1 37) (σ.1 5) (σ.1 8) (σ.2.1 14) from RS) (show J_uc (σ.1 35) (σ.1 36) (σ.2.1 10 (σ.2.1 15 (σ.2.1 14 (σ.1 7)))) from UC) (show J_dj (σ.1 35) (σ.1 36) (σ.2.1 54) from DJs) (show J_it (σ.1 35) (σ.1 7) (σ.1 6) (σ.1 37) (σ.2.1 14) (σ.2.1 15) (σ.2.1 16) (σ.2.1 19) from IPs) (show J_hu (σ.1 35) (σ.1 13) (σ.1 7) from HUs) (show J_ft (σ.1 35) (σ.1 24) (σ.1 7) (σ.1 13) (σ.1 14) (σ.2.1 13) (σ.2.1 14) (σ.2.1 15) (σ.2.1 16) (σ.2.1 27) (σ.2.1 28) (σ.2.1 29) (σ.2.1 30) (σ.2.1 31) (σ.2.1 32) from FRs) (show J_ss (σ.1 35) (σ.1 24) (σ.1 21) (σ.1 23) (σ.1 22) (σ.1 27) (σ.1 26) (σ.1 25) (σ.1 16) (σ.2.1 49) (σ.2.1 51) from SPs) (show (σ.1 15) ≤ (σ.1 16) ∧ σ.2.1 36 (σ.1 15) ≤ (σ.1 16) from by (first | assumption | omega | (simp only [st_s] <;> omega) | fail)) (show (σ.1 9) ≤ (σ.1 7) from by (first | assumption | omega | (simp only [st_s] <;> omega) | fail)), ?_⟩
    intro x5 τ6 r_x5 hn_τ6 hf_τ6 hq
    obtain ⟨hT, q4_1, q4_2, q4_3, q4_4, q4_5, q4_6, q4_7, q4_8, q4_9, q4_10, q4_11, q4_12, q4_13, q4_14, q4_15, q4_16, q4_17, q4_18, q4_19, q4_20, q4_21, q4_22, q4_23, q4_24, q4_25, q4_26, q4_27, q4_28⟩ := hq
    replace q4_1 : 0 ≤ x5 ∧ x5 ≤ 19 := q4_1
    replace q4_2 : J_ht (τ6.1 3) (τ6.2.1 2) (τ6.2.1 3) (τ6.2.1 5) (τ6.2.1 6) := q4_2
    replace q4_3 : J_mn (τ6.1 3) (τ6.1 5) ((τ6.1 7) + 1) (τ6.2.1 4) := q4_3
    replace q4_4 : J_rks (τ6.1 5) (τ6.1 4) (τ6.2.1 10) (τ6.2.1 11) := q4_4
    replace q4_5 : J_vs (τ6.1 8) (τ6.1 5) (τ6.2.1 20) := q4_5
    replace q4_6 : J_vs (τ6.1 6) (τ6.1 5) (τ6.2.1 15) := q4_6
    replace q4_7 : J_va (τ6.1 8) 1000 (τ6.2.1 18) (τ6.2.1 20) := q4_7
    replace q4_8 : J_mk (τ6.1 11) (τ6.1 8) (τ6.1 9) (τ6.1 10) (τ6.2.1 25) := q4_8
    replace q4_9 : J_sc (τ6.1 7) (τ6.1 9) (τ6.2.1 13) (τ6.2.1 14) (τ6.2.1 15) (τ6.2.1 16) (τ6.2.1 22) (τ6.2.1 19) := q4_9
    replace q4_10 : J_ff (τ6.1 5) (τ6.1 7) (τ6.2.1 9) (τ6.2.1 13) (τ6.2.1 14) (τ6.2.1 15) := q4_10
    replace q4_11 : ∀ s : Int, τ6.2.1 26 s ≤ (τ6.1 12) := q4_11
    replace q4_12 : J_all (τ6.1 7) (τ6.1 6) (τ6.1 13) (τ6.1 14) (τ6.1 15) (τ6.2.1 13) (τ6.2.1 14) (τ6.2.1 15) (τ6.2.1 16) (τ6.2.1 10) (τ6.2.1 27) (τ6.2.1 28) (τ6.2.1 29) (τ6.2.1 30) (τ6.2.1 31) (τ6.2.1 32) (τ6.2.1 33) (τ6.2.1 34) (τ6.2.1 35) (τ6.2.1 36) (τ6.2.1 37) := q4_12
    replace q4_13 : J_bp (τ6.2.1 44) (τ6.2.1 45) := q4_13
    replace q4_14 : J_nl (τ6.1 3) (τ6.2.1 2) (τ6.2.1 3) (τ6.2.1 4) := q4_14
    replace q4_15 : x5 = 0 → J_rs (τ6.1 35) (τ6.1 7) (τ6.1 6) (τ6.1 36) (τ6.1 37) (τ6.1 5) (τ6.1 8) (τ6.2.1 14) := q4_15
    replace q4_16 : x5 = 0 → J_uc (τ6.1 35) (τ6.1 36) (τ6.2.1 10 (τ6.2.1 15 (τ6.2.1 14 (τ6.1 7)))) := q4_16
    replace q4_17 : x5 = 0 → J_dj (τ6.1 35) (τ6.1 36) (τ6.2.1 54) := q4_17
    replace q4_18 : x5 = 0 → J_it (τ6.1 35) (τ6.1 7) (τ6.1 6) (τ6.1 37) (τ6.2.1 14) (τ6.2.1 15) (τ6.2.1 16) (τ6.2.1 19) := q4_18
    replace q4_19 : x5 = 0 → J_hu (τ6.1 35) (τ6.1 13) (τ6.1 7) := q4_19
    replace q4_20 : x5 = 0 → J_ft (τ6.1 35) (τ6.1 24) (τ6.1 7) (τ6.1 13) (τ6.1 14) (τ6.2.1 13) (τ6.2.1 14) (τ6.2.1 15) (τ6.2.1 16) (τ6.2.1 27) (τ6.2.1 28) (τ6.2.1 29) (τ6.2.1 30) (τ6.2.1 31) (τ6.2.1 32) := q4_20
    replace q4_21 : x5 = 0 → J_ss (τ6.1 35) (τ6.1 24) (τ6.1 21) (τ6.1 23) (τ6.1 22) (τ6.1 27) (τ6.1 26) (τ6.1 25) (τ6.1 16) (τ6.2.1 49) (τ6.2.1 51) := q4_21
    replace q4_22 : x5 = 0 → (τ6.1 15) ≤ (τ6.1 16) ∧ τ6.2.1 36 (τ6.1 15) ≤ (τ6.1 16) := q4_22
    replace q4_23 : x5 = 0 → (τ6.1 9) ≤ (τ6.1 7) := q4_23
    replace q4_24 : j_rr ((σ.1 5)) (σ.2.1 10) (τ6.2.1 10) := q4_24
    replace q4_25 : j_eq (σ.2.1 36 (σ.1 15)) (σ.2.1 37) (τ6.2.1 37) := q4_25
    replace q4_26 : (τ6.1 12) ≤ (σ.1 12) + 1 := q4_26
    replace q4_27 : c_Y σ τ6 := q4_27
    replace q4_28 : c_ag σ τ6 := q4_28
    replace ag : c_ag σ τ6 := ag_t ag q4_28 rfl
    have w3_τ6 : τ6.1 3 = σ.1 3 := hf_τ6.1 3 (by decide)
    have w4_τ6 : τ6.1 4 = σ.1 4 := hf_τ6.1 4 (by decide)
    have w5_τ6 : τ6.1 5 = σ.1 5 := hf_τ6.1 5 (by decide)
    have w6_τ6 : τ6.1 6 = σ.1 6 := hf_τ6.1 6 (by decide)
    have w7_τ6 : τ6.1 7 = σ.1 7 := hf_τ6.1 7 (by decide)
    have w8_τ6 : τ6.1 8 = σ.1 8 := hf_τ6.1 8 (by decide)
    have w9_τ6 : τ6.1 9 = σ.1 9 := hf_τ6.1 9 (by decide)
    have w10_τ6 : τ6.1 10 = σ.1 10 := hf_τ6.1 10 (by decide)
    have w12_τ6 : τ6.1 12 = σ.1 12 := hf_τ6.1 12 (by decide)
    have w13_τ6 : τ6.1 13 = σ.1 13 := hf_τ6.1 13 (by decide)
    have w14_τ6 : τ6.1 14 = σ.1 14 := hf_τ6.1 14 (by decide)
    have w15_τ6 : τ6.1 15 = σ.1 15 := hf_τ6.1 15 (by decide)
    have w16_τ6 : τ6.1 16 = σ.1 16 := hf_τ6.1 16 (by decide)
    have w21_τ6 : τ6.1 21 = σ.1 21 := hf_τ6.1 21 (by decide)
    have w22_τ6 : τ6.1 22 = σ.1 22 := hf_τ6.1 22 (by decide)
    have w23_τ6 : τ6.1 23 = σ.1 23 := hf_τ6.1 23 (by decide)
    have w24_τ6 : τ6.1 24 = σ.1 24 := hf_τ6.1 24 (by decide)
    have w25_τ6 : τ6.1 25 = σ.1 25 := hf_τ6.1 25 (by decide)
    have w26_τ6 : τ6.1 26 = σ.1 26 := hf_τ6.1 26 (by decide)
    have w27_τ6 : τ6.1 27 = σ.1 27 := hf_τ6.1 27 (by decide)
    have w35_τ6 : τ6.1 35 = σ.1 35 := hf_τ6.1 35 (by decide)
    have w36_τ6 : τ6.1 36 = σ.1 36 := hf_τ6.1 36 (by decide)
    have w37_τ6 : τ6.1 37 = σ.1 37 := hf_τ6.1 37 (by decide)
    have g2_τ6 : τ6.2.1 2 = σ.2.1 2 := hf_τ6.2.1 2 (by decide)
    have g3_τ6 : τ6.2.1 3 = σ.2.1 3 := hf_τ6.2.1 3 (by decide)
    have g4_τ6 : τ6.2.1 4 = σ.2.1 4 := hf_τ6.2.1 4 (by decide)
    have g5_τ6 : τ6.2.1 5 = σ.2.1 5 := hf_τ6.2.1 5 (by decide)
    have g6_τ6 : τ6.2.1 6 = σ.2.1 6 := hf_τ6.2.1 6 (by decide)
    have g9_τ6 : τ6.2.1 9 = σ.2.1 9 := hf_τ6.2.1 9 (by decide)
    have g10_τ6 : τ6.2.1 10 = σ.2.1 10 := hf_τ6.2.1 10 (by decide)
    have g11_τ6 : τ6.2.1 11 = σ.2.1 11 := hf_τ6.2.1 11 (by decide)
    have g13_τ6 : τ6.2.1 13 = σ.2.1 13 := hf_τ6.2.1 13 (by decide)
    have g14_τ6 : τ6.2.1 14 = σ.2.1 14 := hf_τ6.2.1 14 (by decide)
    have g15_τ6 : τ6.2.1 15 = σ.2.1 15 := hf_τ6.2.1 15 (by decide)
    have g16_τ6 : τ6.2.1 16 = σ.2.1 16 := hf_τ6.2.1 16 (by decide)
    have g18_τ6 : τ6.2.1 18 = σ.2.1 18 := hf_τ6.2.1 18 (by decide)
    have g19_τ6 : τ6.2.1 19 = σ.2.1 19 := hf_τ6.2.1 19 (by decide)
    have g20_τ6 : τ6.2.1 20 = σ.2.1 20 := hf_τ6.2.1 20 (by decide)
    have g22_τ6 : τ6.2.1 22 = σ.2.1 22 := hf_τ6.2.1 22 (by decide)
    have g26_τ6 : τ6.2.1 26 = σ.2.1 26 := hf_τ6.2.1 26 (by decide)
    have g27_τ6 : τ6.2.1 27 = σ.2.1 27 := hf_τ6.2.1 27 (by decide)
    have g28_τ6 : τ6.2.1 28 = σ.2.1 28 := hf_τ6.2.1 28 (by decide)
    have g29_τ6 : τ6.2.1 29 = σ.2.1 29 := hf_τ6.2.1 29 (by decide)
    have g30_τ6 : τ6.2.1 30 = σ.2.1 30 := hf_τ6.2.1 30 (by decide)
    have g31_τ6 : τ6.2.1 31 = σ.2.1 31 := hf_τ6.2.1 31 (by decide)
    have g32_τ6 : τ6.2.1 32 = σ.2.1 32 := hf_τ6.2.1 32 (by decide)
    have g33_τ6 : τ6.2.1 33 = σ.2.1 33 := hf_τ6.2.1 33 (by decide)
    have g34_τ6 : τ6.2.1 34 = σ.2.1 34 := hf_τ6.2.1 34 (by decide)
    have g35_τ6 : τ6.2.1 35 = σ.2.1 35 := hf_τ6.2.1 35 (by decide)
    have g36_τ6 : τ6.2.1 36 = σ.2.1 36 := hf_τ6.2.1 36 (by decide)
    have g37_τ6 : τ6.2.1 37 = σ.2.1 37 := hf_τ6.2.1 37 (by decide)
    have g44_τ6 : τ6.2.1 44 = σ.2.1 44 := hf_τ6.2.1 44 (by decide)
    have g45_τ6 : τ6.2.1 45 = σ.2.1 45 := hf_τ6.2.1 45 (by decide)
    have g49_τ6 : τ6.2.1 49 = σ.2.1 49 := hf_τ6.2.1 49 (by decide)
    have g51_τ6 : τ6.2.1 51 = σ.2.1 51 := hf_τ6.2.1 51 (by decide)
    have g54_τ6 : τ6.2.1 54 = σ.2.1 54 := hf_τ6.2.1 54 (by decide)
    have W3 : τ6.1 3 = σ.1 3 := by first | exact w3_τ6.trans W3 | omega
    have W4 : τ6.1 4 = σ.1 4 := by first | exact w4_τ6.trans W4 | omega
    have W5 : τ6.1 5 = σ.1 5 := by first | exact w5_τ6.trans W5 | omega
    have W6 : τ6.1 6 = σ.1 6 := by first | exact w6_τ6.trans W6 | omega
    have W7 : τ6.1 7 = σ.1 7 := by first | exact w7_τ6.trans W7 | omega
    have W15 : τ6.1 15 = σ.1 15 := by first | exact w15_τ6.trans W15 | omega
    have W16 : τ6.1 16 = σ.1 16 := by first | exact w16_τ6.trans W16 | omega
    have G2 : τ6.2.1 2 = σ.2.1 2 := (g2_τ6).trans G2
    have G3 : τ6.2.1 3 = σ.2.1 3 := (g3_τ6).trans G3
    have G4 : τ6.2.1 4 = σ.2.1 4 := (g4_τ6).trans G4
    have G5 : τ6.2.1 5 = σ.2.1 5 := (g5_τ6).trans G5
    have G6 : τ6.2.1 6 = σ.2.1 6 := (g6_τ6).trans G6
    have G9 : τ6.2.1 9 = σ.2.1 9 := (g9_τ6).trans G9
    have G10 : τ6.2.1 10 = σ.2.1 10 := (g10_τ6).trans G10
    have G11 : τ6.2.1 11 = σ.2.1 11 := (g11_τ6).trans G11
    have G13 : τ6.2.1 13 = σ.2.1 13 := (g13_τ6).trans G13
    have G14 : τ6.2.1 14 = σ.2.1 14 := (g14_τ6).trans G14
    have G15 : τ6.2.1 15 = σ.2.1 15 := (g15_τ6).trans G15
    have G16 : τ6.2.1 16 = σ.2.1 16 := (g16_τ6).trans G16
    have G20 : τ6.2.1 20 = σ.2.1 20 := (g20_τ6).trans G20
    have G22 : τ6.2.1 22 = σ.2.1 22 := (g22_τ6).trans G22
    have G33 : τ6.2.1 33 = σ.2.1 33 := (g33_τ6).trans G33
    have G34 : τ6.2.1 34 = σ.2.1 34 := (g34_τ6).trans G34
    have G35 : τ6.2.1 35 = σ.2.1 35 := (g35_τ6).trans G35
    have G36 : τ6.2.1 36 = σ.2.1 36 := (g36_τ6).trans G36
    have G37 : τ6.2.1 37 = σ.2.1 37 := (g37_τ6).trans G37
    have G44 : τ6.2.1 44 = σ.2.1 44 := (g44_τ6).trans G44
    have G45 : τ6.2.1 45 = σ.2.1 45 := (g45_τ6).trans G45
    have G49 : τ6.2.1 49 = σ.2.1 49 := (g49_τ6).trans G49
    have G51 : τ6.2.1 51 = σ.2.1 51 := (g51_τ6).trans G51
    have G54 : τ6.2.1 54 = σ.2.1 54 := (g54_τ6).trans G54
    have y14_7_τ6 : τ6.2.1 14 (τ6.1 7) = (σ.2.1 14) (σ.1 7) := by rw [g14_τ6, w7_τ6]
    have y36_15_τ6 : τ6.2.1 36 (τ6.1 15) = (σ.2.1 36) (σ.1 15) := by rw [g36_τ6, w15_τ6]
    have HT : J_ht (τ6.1 3) (τ6.2.1 2) (τ6.2.1 3) (τ6.2.1 5) (τ6.2.1 6) := q4_2
    have NL : J_nl (τ6.1 3) (τ6.2.1 2) (τ6.2.1 3) (τ6.2.1 4) := q4_14
    have MN : J_mn (τ6.1 3) (τ6.1 5) ((τ6.1 7) + 1) (τ6.2.1 4) := q4_3
    have VA : J_va (τ6.1 8) 1000 (τ6.2.1 18) (τ6.2.1 20) := q4_7
    have SC : J_sc (τ6.1 7) (τ6.1 9) (τ6.2.1 13) (τ6.2.1 14) (τ6.2.1 15) (τ6.2.1 16) (τ6.2.1 22) (τ6.2.1 19) := q4_9
    have MK : J_mk (τ6.1 11) (τ6.1 8) (τ6.1 9) (τ6.1 10) (τ6.2.1 25) := q4_8
    have FF : J_ff (τ6.1 5) (τ6.1 7) (τ6.2.1 9) (τ6.2.1 13) (τ6.2.1 14) (τ6.2.1 15) := q4_10
    have MT : ∀ s : Int, τ6.2.1 26 s ≤ (τ6.1 12) := q4_11
    have VS : J_vs (τ6.1 8) (τ6.1 5) (τ6.2.1 20) := q4_5
    have TX : J_vs (τ6.1 6) (τ6.1 5) (τ6.2.1 15) := q4_6
    have RKS : J_rks (τ6.1 5) (τ6.1 4) (τ6.2.1 10) (τ6.2.1 11) := q4_4
    have CJ : J_all (τ6.1 7) (τ6.1 6) (τ6.1 13) (τ6.1 14) (τ6.1 15) (τ6.2.1 13) (τ6.2.1 14) (τ6.2.1 15) (τ6.2.1 16) (τ6.2.1 10) (τ6.2.1 27) (τ6.2.1 28) (τ6.2.1 29) (τ6.2.1 30) (τ6.2.1 31) (τ6.2.1 32) (τ6.2.1 33) (τ6.2.1 34) (τ6.2.1 35) (τ6.2.1 36) (τ6.2.1 37) := q4_12
    have BP : J_bp (τ6.2.1 44) (τ6.2.1 45) := q4_13
    have CH : j_eq (σ.2.1 36 (σ.1 15)) (σ.2.1 37) (τ6.2.1 37) := by rw [show (j_eq (σ.2.1 36 (σ.1 15)) (σ.2.1 37) (τ6.2.1 37)) = (j_eq (σ.2.1 36 (σ.1 15)) (σ.2.1 37) (σ.2.1 37)) from by rw [g37_τ6]]; exact CH
    have RS : J_rs (τ6.1 35) (τ6.1 7) (τ6.1 6) (τ6.1 36) (τ6.1 37) (τ6.1 5) (τ6.1 8) (τ6.2.1 14) := by rw [show (J_rs (τ6.1 35) (τ6.1 7) (τ6.1 6) (τ6.1 36) (τ6.1 37) (τ6.1 5) (τ6.1 8) (τ6.2.1 14)) = (J_rs (σ.1 35) (σ.1 7) (σ.1 6) (σ.1 36) (σ.1 37) (σ.1 5) (σ.1 8) (σ.2.1 14)) from by rw [w5_τ6, w6_τ6, w7_τ6, w8_τ6, w35_τ6, w36_τ6, w37_τ6, g14_τ6]]; exact RS
    have UC : J_uc (τ6.1 35) (τ6.1 36) (τ6.2.1 10 (τ6.2.1 15 (τ6.2.1 14 (τ6.1 7)))) := by rw [show (J_uc (τ6.1 35) (τ6.1 36) (τ6.2.1 10 (τ6.2.1 15 (τ6.2.1 14 (τ6.1 7))))) = (J_uc (σ.1 35) (σ.1 36) (σ.2.1 10 (σ.2.1 15 (σ.2.1 14 (σ.1 7))))) from by rw [w7_τ6, w35_τ6, w36_τ6, g10_τ6, g14_τ6, g15_τ6]]; exact UC
    have DJs : J_dj (τ6.1 35) (τ6.1 36) (τ6.2.1 54) := by rw [show (J_dj (τ6.1 35) (τ6.1 36) (τ6.2.1 54)) = (J_dj (σ.1 35) (σ.1 36) (σ.2.1 54)) from by rw [w35_τ6, w36_τ6, g54_τ6]]; exact DJs
    have IPs : J_it (τ6.1 35) (τ6.1 7) (τ6.1 6) (τ6.1 37) (τ6.2.1 14) (τ6.2.1 15) (τ6.2.1 16) (τ6.2.1 19) := by rw [show (J_it (τ6.1 35) (τ6.1 7) (τ6.1 6) (τ6.1 37) (τ6.2.1 14) (τ6.2.1 15) (τ6.2.1 16) (τ6.2.1 19)) = (J_it (σ.1 35) (σ.1 7) (σ.1 6) (σ.1 37) (σ.2.1 14) (σ.2.1 15) (σ.2.1 16) (σ.2.1 19)) from by rw [w6_τ6, w7_τ6, w35_τ6, w37_τ6, g14_τ6, g15_τ6, g16_τ6, g19_τ6]]; exact IPs
    have HUs : J_hu (τ6.1 35) (τ6.1 13) (τ6.1 7) := by rw [show (J_hu (τ6.1 35) (τ6.1 13) (τ6.1 7)) = (J_hu (σ.1 35) (σ.1 13) (σ.1 7)) from by rw [w7_τ6, w13_τ6, w35_τ6]]; exact HUs
    have FRs : J_ft (τ6.1 35) (τ6.1 24) (τ6.1 7) (τ6.1 13) (τ6.1 14) (τ6.2.1 13) (τ6.2.1 14) (τ6.2.1 15) (τ6.2.1 16) (τ6.2.1 27) (τ6.2.1 28) (τ6.2.1 29) (τ6.2.1 30) (τ6.2.1 31) (τ6.2.1 32) := by rw [show (J_ft (τ6.1 35) (τ6.1 24) (τ6.1 7) (τ6.1 13) (τ6.1 14) (τ6.2.1 13) (τ6.2.1 14) (τ6.2.1 15) (τ6.2.1 16) (τ6.2.1 27) (τ6.2.1 28) (τ6.2.1 29) (τ6.2.1 30) (τ6.2.1 31) (τ6.2.1 32)) = (J_ft (σ.1 35) (σ.1 24) (σ.1 7) (σ.1 13) (σ.1 14) (σ.2.1 13) (σ.2.1 14) (σ.2.1 15) (σ.2.1 16) (σ.2.1 27) (σ.2.1 28) (σ.2.1 29) (σ.2.1 30) (σ.2.1 31) (σ.2.1 32)) from by rw [w7_τ6, w13_τ6, w14_τ6, w24_τ6, w35_τ6, g13_τ6, g14_τ6, g15_τ6, g16_τ6, g27_τ6, g28_τ6, g29_τ6, g30_τ6, g31_τ6, g32_τ6]]; exact FRs
    have SPs : J_ss (τ6.1 35) (τ6.1 24) (τ6.1 21) (τ6.1 23) (τ6.1 22) (τ6.1 27) (τ6.1 26) (τ6.1 25) (τ6.1 16) (τ6.2.1 49) (τ6.2.1 51) := by rw [show (J_ss (τ6.1 35) (τ6.1 24) (τ6.1 21) (τ6.1 23) (τ6.1 22) (τ6.1 27) (τ6.1 26) (τ6.1 25) (τ6.1 16) (τ6.2.1 49) (τ6.2.1 51)) = (J_ss (σ.1 35) (σ.1 24) (σ.1 21) (σ.1 23) (σ.1 22) (σ.1 27) (σ.1 26) (σ.1 25) (σ.1 16) (σ.2.1 49) (σ.2.1 51)) from by rw [w16_τ6, w21_τ6, w22_τ6, w23_τ6, w24_τ6, w25_τ6, w26_τ6, w27_τ6, w35_τ6, g49_τ6, g51_τ6]]; exact SPs
    have A2 : ∀ j, 0 ≤ τ6.2.1 2 j ∧ τ6.2.1 2 j ≤ 65535 := fun j => hT.2 2 j
    have A3 : ∀ j, 0 ≤ τ6.2.1 3 j ∧ τ6.2.1 3 j ≤ 30000 := fun j => hT.2 3 j
    have A4 : ∀ j, (-1000) ≤ τ6.2.1 4 j ∧ τ6.2.1 4 j ≤ 1499 := fun j => hT.2 4 j
    have A5 : ∀ j, 0 ≤ τ6.2.1 5 j ∧ τ6.2.1 5 j ≤ 2500 := fun j => hT.2 5 j
    have A6 : ∀ j, 0 ≤ τ6.2.1 6 j ∧ τ6.2.1 6 j ≤ 2500 := fun j => hT.2 6 j
    have A9 : ∀ j, (-1) ≤ τ6.2.1 9 j ∧ τ6.2.1 9 j ≤ 1499 := fun j => hT.2 9 j
    have A10 : ∀ j, (-1) ≤ τ6.2.1 10 j ∧ τ6.2.1 10 j ≤ 99 := fun j => hT.2 10 j
    have A11 : ∀ j, 0 ≤ τ6.2.1 11 j ∧ τ6.2.1 11 j ≤ 999 := fun j => hT.2 11 j
    have A13 : ∀ j, 0 ≤ τ6.2.1 13 j ∧ τ6.2.1 13 j ≤ 4 := fun j => hT.2 13 j
    have A14 : ∀ j, 0 ≤ τ6.2.1 14 j ∧ τ6.2.1 14 j ≤ 30000 := fun j => hT.2 14 j
    have A15 : ∀ j, 0 ≤ τ6.2.1 15 j ∧ τ6.2.1 15 j ≤ 999 := fun j => hT.2 15 j
    have A16 : ∀ j, (-1) ≤ τ6.2.1 16 j ∧ τ6.2.1 16 j ≤ 1499 := fun j => hT.2 16 j
    have A18 : ∀ j, 0 ≤ τ6.2.1 18 j ∧ τ6.2.1 18 j ≤ 1 := fun j => hT.2 18 j
    have A19 : ∀ j, (-1) ≤ τ6.2.1 19 j ∧ τ6.2.1 19 j ≤ 1499 := fun j => hT.2 19 j
    have A20 : ∀ j, 0 ≤ τ6.2.1 20 j ∧ τ6.2.1 20 j ≤ 999 := fun j => hT.2 20 j
    have A22 : ∀ j, 0 ≤ τ6.2.1 22 j ∧ τ6.2.1 22 j ≤ 1499 := fun j => hT.2 22 j
    have A26 : ∀ j, (-2147483648) ≤ τ6.2.1 26 j ∧ τ6.2.1 26 j ≤ 2147483647 := fun j => hT.2 26 j
    have A27 : ∀ j, 0 ≤ τ6.2.1 27 j ∧ τ6.2.1 27 j ≤ 90000 := fun j => hT.2 27 j
    have A28 : ∀ j, 0 ≤ τ6.2.1 28 j ∧ τ6.2.1 28 j ≤ 60 := fun j => hT.2 28 j
    have A29 : ∀ j, 0 ≤ τ6.2.1 29 j ∧ τ6.2.1 29 j ≤ 1499 := fun j => hT.2 29 j
    have A30 : ∀ j, 0 ≤ τ6.2.1 30 j ∧ τ6.2.1 30 j ≤ 20000 := fun j => hT.2 30 j
    have A31 : ∀ j, 0 ≤ τ6.2.1 31 j ∧ τ6.2.1 31 j ≤ 20000 := fun j => hT.2 31 j
    have A32 : ∀ j, 0 ≤ τ6.2.1 32 j ∧ τ6.2.1 32 j ≤ 999999 := fun j => hT.2 32 j
    have A33 : ∀ j, 0 ≤ τ6.2.1 33 j ∧ τ6.2.1 33 j ≤ 20000 := fun j => hT.2 33 j
    have A34 : ∀ j, 0 ≤ τ6.2.1 34 j ∧ τ6.2.1 34 j ≤ 20000 := fun j => hT.2 34 j
    have A35 : ∀ j, 0 ≤ τ6.2.1 35 j ∧ τ6.2.1 35 j ≤ 1499 := fun j => hT.2 35 j
    have A36 : ∀ j, 0 ≤ τ6.2.1 36 j ∧ τ6.2.1 36 j ≤ 20000 := fun j => hT.2 36 j
    have A37 : ∀ j, 0 ≤ τ6.2.1 37 j ∧ τ6.2.1 37 j ≤ 19999 := fun j => hT.2 37 j
    have A44 : ∀ j, 0 ≤ τ6.2.1 44 j ∧ τ6.2.1 44 j ≤ 42000 := fun j => hT.2 44 j
    have A45 : ∀ j, 0 ≤ τ6.2.1 45 j ∧ τ6.2.1 45 j ≤ 1000 := fun j => hT.2 45 j
    have A49 : ∀ j, (-300) ≤ τ6.2.1 49 j ∧ τ6.2.1 49 j ≤ 67035 := fun j => hT.2 49 j
    have A51 : ∀ j, 0 ≤ τ6.2.1 51 j ∧ τ6.2.1 51 j ≤ 1499 := fun j => hT.2 51 j
    have A54 : ∀ j, 0 ≤ τ6.2.1 54 j ∧ τ6.2.1 54 j ≤ 999 := fun j => hT.2 54 j
    have v3 : 0 ≤ τ6.1 3 ∧ τ6.1 3 ≤ 2500 := hT.1 3
    have v4 : 0 ≤ τ6.1 4 ∧ τ6.1 4 ≤ 100 := hT.1 4
    have v5 : 0 ≤ τ6.1 5 ∧ τ6.1 5 ≤ 1000 := hT.1 5
    have v6 : 0 ≤ τ6.1 6 ∧ τ6.1 6 ≤ 30000 := hT.1 6
    have v7 : 0 ≤ τ6.1 7 ∧ τ6.1 7 ≤ 1500 := hT.1 7
    have v8 : 0 ≤ τ6.1 8 ∧ τ6.1 8 ≤ 1000 := hT.1 8
    have v9 : 0 ≤ τ6.1 9 ∧ τ6.1 9 ≤ 1500 := hT.1 9
    have v10 : 0 ≤ τ6.1 10 ∧ τ6.1 10 ≤ 1000 := hT.1 10
    have v11 : 0 ≤ τ6.1 11 ∧ τ6.1 11 ≤ 50 := hT.1 11
    have v12 : (-2147483648) ≤ τ6.1 12 ∧ τ6.1 12 ≤ 2147483647 := hT.1 12
    have v13 : 0 ≤ τ6.1 13 ∧ τ6.1 13 ≤ 90000 := hT.1 13
    have v14 : 0 ≤ τ6.1 14 ∧ τ6.1 14 ≤ 20000 := hT.1 14
    have v15 : 0 ≤ τ6.1 15 ∧ τ6.1 15 ≤ 20000 := hT.1 15
    have v16 : 0 ≤ τ6.1 16 ∧ τ6.1 16 ≤ 20000 := hT.1 16
    have v21 : 0 ≤ τ6.1 21 ∧ τ6.1 21 ≤ 20000 := hT.1 21
    have v22 : 0 ≤ τ6.1 22 ∧ τ6.1 22 ≤ 300 := hT.1 22
    have v23 : 0 ≤ τ6.1 23 ∧ τ6.1 23 ≤ 300 := hT.1 23
    have v24 : 0 ≤ τ6.1 24 ∧ τ6.1 24 ≤ 1499 := hT.1 24
    have v25 : 0 ≤ τ6.1 25 ∧ τ6.1 25 ≤ 3 := hT.1 25
    have v26 : 0 ≤ τ6.1 26 ∧ τ6.1 26 ≤ 5000010 := hT.1 26
    have v27 : 0 ≤ τ6.1 27 ∧ τ6.1 27 ≤ 1 := hT.1 27
    have v35 : 0 ≤ τ6.1 35 ∧ τ6.1 35 ≤ 7 := hT.1 35
    have v36 : 0 ≤ τ6.1 36 ∧ τ6.1 36 ≤ 1001 := hT.1 36
    have v37 : 0 ≤ τ6.1 37 ∧ τ6.1 37 ≤ 4 := hT.1 37
    have a14_7 : 0 ≤ τ6.2.1 14 (τ6.1 7) ∧ τ6.2.1 14 (τ6.1 7) ≤ 30000 := hT.2 14 _
    have a36_15 : 0 ≤ τ6.2.1 36 (τ6.1 15) ∧ τ6.2.1 36 (τ6.1 15) ≤ 20000 := hT.2 36 _
    have av13 : σ.1 13 ≤ τ6.1 13 := ag.1 13 (by decide)
    have av14 : σ.1 14 ≤ τ6.1 14 := ag.1 14 (by decide)
    exact ⟨hT, (show 0 ≤ x5 ∧ x5 ≤ 19 from by (first | assumption | omega | (simp only [st_s] <;> omega) | fail)), (show J_ht (τ6.1 3) (τ6.2.1 2) (τ6.2.1 3) (τ6.2.1 5) (τ6.2.1 6) from HT), (show J_mn (τ6.1 3) (τ6.1 5) ((τ6.1 7) + 1) (τ6.2.1 4) from MN), (show J_rks (τ6.1 5) (τ6.1 4) (τ6.2.1 10) (τ6.2.1 11) from RKS), (show J_vs (τ6.1 8) (τ6.1 5) (τ6.2.1 20) from VS), (show J_vs (τ6.1 6) (τ6.1 5) (τ6.2.1 15) from TX), (show J_va (τ6.1 8) 1000 (τ6.2.1 18) (τ6.2.1 20) from VA), (show J_mk (τ6.1 11) (τ6.1 8) (τ6.1 9) (τ6.1 10) (τ6.2.1 25) from MK), (show J_sc (τ6.1 7) (τ6.1 9) (τ6.2.1 13) (τ6.2.1 14) (τ6.2.1 15) (τ6.2.1 16) (τ6.2.1 22) (τ6.2.1 19) from SC), (show J_ff (τ6.1 5) (τ6.1 7) (τ6.2.1 9) (τ6.2.1 13) (τ6.2.1 14) (τ6.2.1 15) from FF), (show ∀ s : Int, τ6.2.1 26 s ≤ (τ6.1 12) from MT), (show J_all (τ6.1 7) (τ6.1 6) (τ6.1 13) (τ6.1 14) (τ6.1 15) (τ6.2.1 13) (τ6.2.1 14) (τ6.2.1 15) (τ6.2.1 16) (τ6.2.1 10) (τ6.2.1 27) (τ6.2.1 28) (τ6.2.1 29) (τ6.2.1 30) (τ6.2.1 31) (τ6.2.1 32) (τ6.2.1 33) (τ6.2.1 34) (τ6.2.1 35) (τ6.2.1 36) (τ6.2.1 37) from CJ), (show J_bp (τ6.2.1 44) (τ6.2.1 45) from BP), (show J_nl (τ6.1 3) (τ6.2.1 2) (τ6.2.1 3) (τ6.2.1 4) from NL), (show x5 = 0 → J_rs (τ6.1 35) (τ6.1 7) (τ6.1 6) (τ6.1 36) (τ6.1 37) (τ6.1 5) (τ6.1 8) (τ6.2.1 14) from by (first | exact fun z => absurd z (by decide) | exact q1_15 | exact q4_15 | exact q7_15 | (intro z; have w := q15_2 z; have rs := J_rs_0 p14 (by omega); unfold J_rs; rw [G14, W7]; omega) | (intro z; have rs := J_rs_0 p14 (by omega); have r1 := J_rs_1 p14 (by omega); unfold J_rs; rw [G14, W7]; omega) | (first | exact fun z => absurd z (by decide) | exact fun _ => RS | (intro z; have rs := p14; unfold J_rs at rs ⊢; omega) | (intro z; have rs := p14; unfold J_rs at rs ⊢; rw [G14, W7]; omega)) | fail)), (show x5 = 0 → J_uc (τ6.1 35) (τ6.1 36) (τ6.2.1 10 (τ6.2.1 15 (τ6.2.1 14 (τ6.1 7)))) from by (first | exact fun z => absurd z (by decide) | exact q1_16 | exact q4_16 | exact q7_16 | (intro z y y2; exfalso; omega) | (intro z y; have w := q15_2 z; exfalso; omega) | (first | exact fun z => absurd z (by decide) | (intro z y; exfalso; omega) | exact fun _ => UC | exact fun _ => uc | (intro z y y2; exact uc (by omega) (by omega)) | (intro z y y2; exfalso; omega) | (intro z y y2; rw [G10, G14, G15, W7]; exact uc (by omega) (by omega))) | fail)), (show x5 = 0 → J_dj (τ6.1 35) (τ6.1 36) (τ6.2.1 54) from by (first | exact fun z => absurd z (by decide) | exact q1_17 | exact q4_17 | exact q7_17 | (intro z y; rw [show τ17.1 36 = 0 from (q15_2 z).1]; exact j_in0 _ _) | (first | exact fun z => absurd z (by decide) | (intro z y; exfalso; omega) | exact fun _ => DJs | exact fun _ => dj) | fail)), (show x5 = 0 → J_it (τ6.1 35) (τ6.1 7) (τ6.1 6) (τ6.1 37) (τ6.2.1 14) (τ6.2.1 15) (τ6.2.1 16) (τ6.2.1 19) from by (first | exact fun z => absurd z (by decide) | exact q1_18 | exact q4_18 | exact q7_18 | (intro z y; have w := q15_2 z; exfalso; omega) | (intro z y; have rs := J_rs_0 p14 (by omega); exact J_ip0 (by rw [W6, G14, W7]; omega)) | (first | exact fun z => absurd z (by decide) | (intro z y; exfalso; omega) | exact fun _ => IPs | exact fun _ => ipx | (intro z y; exact ipx (by omega)) | (intro z y; rw [W7, W6, W37, G14, G15, G16, G19]; exact ipx (by omega))) | fail)), (show x5 = 0 → J_hu (τ6.1 35) (τ6.1 13) (τ6.1 7) from by (first | exact fun z => absurd z (by decide) | exact q1_19 | exact q4_19 | exact q7_19 | (intro z; have hu := hux; unfold J_hu at hu ⊢; omega) | (first | exact fun z => absurd z (by decide) | exact fun _ => HUs | (intro z; have hu := hux; unfold J_hu at hu ⊢; omega)) | fail)), (show x5 = 0 → J_ft (τ6.1 35) (τ6.1 24) (τ6.1 7) (τ6.1 13) (τ6.1 14) (τ6.2.1 13) (τ6.2.1 14) (τ6.2.1 15) (τ6.2.1 16) (τ6.2.1 27) (τ6.2.1 28) (τ6.2.1 29) (τ6.2.1 30) (τ6.2.1 31) (τ6.2.1 32) from by (first | exact fun z => absurd z (by decide) | exact q1_20 | exact q4_20 | exact q7_20 | (intro z y; have w := q15_2 z; exfalso; omega) | (intro z y; exfalso; omega) | (first | exact fun z => absurd z (by decide) | (intro z y; exfalso; omega) | exact fun _ => FRs | exact fun _ => frx | (intro z y; exact frx (by omega)) | (intro z y; have w := frx (by omega); rw [W7, W13, W14, W24, G13, G14, G15, G16, G27, G28, G29, G30, G31, G32]; exact w)) | fail)), (show x5 = 0 → J_ss (τ6.1 35) (τ6.1 24) (τ6.1 21) (τ6.1 23) (τ6.1 22) (τ6.1 27) (τ6.1 26) (τ6.1 25) (τ6.1 16) (τ6.2.1 49) (τ6.2.1 51) from by (first | exact fun z => absurd z (by decide) | exact q1_21 | exact q4_21 | exact q7_21 | (intro z y; have w := q15_2 z; exfalso; omega) | (intro z y; exfalso; omega) | (first | exact fun z => absurd z (by decide) | (intro z y; exfalso; omega) | exact fun _ => SPs | exact fun _ => spx | (intro z y; exact spx (by omega))) | fail)), (show x5 = 0 → (τ6.1 15) ≤ (τ6.1 16) ∧ τ6.2.1 36 (τ6.1 15) ≤ (τ6.1 16) from by (first | exact fun z => absurd z (by decide) | exact q1_22 | exact q4_22 | exact q7_22 | (intro z; first | exact sux | omega) | fail)), (show x5 = 0 → (τ6.1 9) ≤ (τ6.1 7) from by (first | exact fun z => absurd z (by decide) | exact q1_23 | exact q4_23 | exact q7_23 | (intro z; omega) | fail)), (show j_rr ((σ.1 5)) (σ.2.1 10) (τ6.2.1 10) from by (first | exact j_rr0 _ _ | exact q1_24 | exact q4_24 | exact q7_24 | (rw [G10]; exact j_rr0 _ _) | fail)), (show j_eq (σ.2.1 36 (σ.1 15)) (σ.2.1 37) (τ6.2.1 37) from CH), (show (τ6.1 12) ≤ (σ.1 12) + 1 from by (first | assumption | omega | (simp only [st_s] <;> omega) | fail)), (show c_Y σ τ6 from by (first | exact c_Y0 _ | exact c_Y_g W4 G11 G20 G22 G25 | exact q1_27 | exact q4_27 | exact q7_27 | exact c_Y_g (by omega) (by rw [g11_τ4]) (by rw [g20_τ4]) (by rw [g22_τ4]) (by rw [g25_τ4]) | exact c_Y_g (by omega) (by rw [g11_τ13]) (by rw [g20_τ13]) (by rw [g22_τ13]) (by rw [g25_τ13]) | exact c_Y_g (by omega) (by rw [g11_τ17]) (by rw [g20_τ17]) (by rw [g22_τ17]) (by rw [g25_τ17]) | fail)), ag⟩
  ·
    refine ⟨_, K2_X7_closeScope hT (show J_ht (σ.1 3) (σ.2.1 2) (σ.2.1 3) (σ.2.1 5) (σ.2.1 6) from HT) (show J_mn (σ.1 3) (σ.1 5) ((σ.1 7) + 1) (σ.2.1 4) from MN) (show J_rks (σ.1 5) (σ.1 4) (σ.2.1 10) (σ.2.1 11) from RKS) (show J_vs (σ.1 8) (σ.1 5) (σ.2.1 20) from VS) (show J_vs (σ.1 6) (σ.1 5) (σ.2.1 15) from TX) (show J_va (σ.1 8) 1000 (σ.2.1 18) (σ.2.1 20) from VA) (show J_mk (σ.1 11) (σ.1 8) (σ.1 9) (σ.1 10) (σ.2.1 25) from MK) (show J_sc (σ.1 7) (σ.1 9) (σ.2.1 13) (σ.2.1 14) (σ.2.1 15) (σ.2.1 16) (σ.2.1 22) (σ.2.1 19) from SC) (show J_ff (σ.1 5) (σ.1 7) (σ.2.1 9) (σ.2.1 13) (σ.2.1 14) (σ.2.1 15) from FF) (show ∀ s : Int, σ.2.1 26 s ≤ (σ.1 12) from MT) (show J_all (σ.1 7) (σ.1 6) (σ.1 13) (σ.1 14) (σ.1 15) (σ.2.1 13) (σ.2.1 14) (σ.2.1 15) (σ.2.1 16) (σ.2.1 10) (σ.2.1 27) (σ.2.1 28) (σ.2.1 29) (σ.2.1 30) (σ.2.1 31) (σ.2.1 32) (σ.2.1 33) (σ.2.1 34) (σ.2.1 35) (σ.2.1 36) (σ.2.1 37) from CJ) (show J_bp (σ.2.1 44) (σ.2.1 45) from BP) (show J_nl (σ.1 3) (σ.2.1 2) (σ.2.1 3) (σ.2.1 4) from NL) (show J_rs (σ.1 35) (σ.1 7) (σ.1 6) (σ.1 36) (σ.1 37) (σ.1 5) (σ.1 8) (σ.2.1 14) from RS) (show J_uc (σ.1 35) (σ.1 36) (σ.2.1 10 (σ.2.1 15 (σ.2.1 14 (σ.1 7)))) from UC) (show J_dj (σ.1 35) (σ.1 36) (σ.2.1 54) from DJs) (show J_it (σ.1 35) (σ.1 7) (σ.1 6) (σ.1 37) (σ.2.1 14) (σ.2.1 15) (σ.2.1 16) (σ.2.1 19) from IPs) (show J_hu (σ.1 35) (σ.1 13) (σ.1 7) from HUs) (show J_ft (σ.1 35) (σ.1 24) (σ.1 7) (σ.1 13) (σ.1 14) (σ.2.1 13) (σ.2.1 14) (σ.2.1 15) (σ.2.1 16) (σ.2.1 27) (σ.2.1 28) (σ.2.1 29) (σ.2.1 30) (σ.2.1 31) (σ.2.1 32) from FRs) (show J_ss (σ.1 35) (σ.1 24) (σ.1 21) (σ.1 23) (σ.1 22) (σ.1 27) (σ.1 26) (σ.1 25) (σ.1 16) (σ.2.1 49) (σ.2.1 51) from SPs) (show (σ.1 15) ≤ (σ.1 16) ∧ σ.2.1 36 (σ.1 15) ≤ (σ.1 16) from by (first | assumption | omega | (simp only [st_s] <;> omega) | fail)) (show (σ.1 9) ≤ (σ.1 7) from by (first | assumption | omega | (simp only [st_s] <;> omega) | fail)), ?_⟩
    intro x8 τ9 r_x8 hn_τ9 hf_τ9 hq
    obtain ⟨hT, q7_1, q7_2, q7_3, q7_4, q7_5, q7_6, q7_7, q7_8, q7_9, q7_10, q7_11, q7_12, q7_13, q7_14, q7_15, q7_16, q7_17, q7_18, q7_19, q7_20, q7_21, q7_22, q7_23, q7_24, q7_25, q7_26, q7_27, q7_28⟩ := hq
    replace q7_1 : 0 ≤ x8 ∧ x8 ≤ 19 := q7_1
    replace q7_2 : J_ht (τ9.1 3) (τ9.2.1 2) (τ9.2.1 3) (τ9.2.1 5) (τ9.2.1 6) := q7_2
    replace q7_3 : J_mn (τ9.1 3) (τ9.1 5) ((τ9.1 7) + 1) (τ9.2.1 4) := q7_3
    replace q7_4 : J_rks (τ9.1 5) (τ9.1 4) (τ9.2.1 10) (τ9.2.1 11) := q7_4
    replace q7_5 : J_vs (τ9.1 8) (τ9.1 5) (τ9.2.1 20) := q7_5
    replace q7_6 : J_vs (τ9.1 6) (τ9.1 5) (τ9.2.1 15) := q7_6
    replace q7_7 : J_va (τ9.1 8) 1000 (τ9.2.1 18) (τ9.2.1 20) := q7_7
    replace q7_8 : J_mk (τ9.1 11) (τ9.1 8) (τ9.1 9) (τ9.1 10) (τ9.2.1 25) := q7_8
    replace q7_9 : J_sc (τ9.1 7) (τ9.1 9) (τ9.2.1 13) (τ9.2.1 14) (τ9.2.1 15) (τ9.2.1 16) (τ9.2.1 22) (τ9.2.1 19) := q7_9
    replace q7_10 : J_ff (τ9.1 5) (τ9.1 7) (τ9.2.1 9) (τ9.2.1 13) (τ9.2.1 14) (τ9.2.1 15) := q7_10
    replace q7_11 : ∀ s : Int, τ9.2.1 26 s ≤ (τ9.1 12) := q7_11
    replace q7_12 : J_all (τ9.1 7) (τ9.1 6) (τ9.1 13) (τ9.1 14) (τ9.1 15) (τ9.2.1 13) (τ9.2.1 14) (τ9.2.1 15) (τ9.2.1 16) (τ9.2.1 10) (τ9.2.1 27) (τ9.2.1 28) (τ9.2.1 29) (τ9.2.1 30) (τ9.2.1 31) (τ9.2.1 32) (τ9.2.1 33) (τ9.2.1 34) (τ9.2.1 35) (τ9.2.1 36) (τ9.2.1 37) := q7_12
    replace q7_13 : J_bp (τ9.2.1 44) (τ9.2.1 45) := q7_13
    replace q7_14 : J_nl (τ9.1 3) (τ9.2.1 2) (τ9.2.1 3) (τ9.2.1 4) := q7_14
    replace q7_15 : x8 = 0 → J_rs (τ9.1 35) (τ9.1 7) (τ9.1 6) (τ9.1 36) (τ9.1 37) (τ9.1 5) (τ9.1 8) (τ9.2.1 14) := q7_15
    replace q7_16 : x8 = 0 → J_uc (τ9.1 35) (τ9.1 36) (τ9.2.1 10 (τ9.2.1 15 (τ9.2.1 14 (τ9.1 7)))) := q7_16
    replace q7_17 : x8 = 0 → J_dj (τ9.1 35) (τ9.1 36) (τ9.2.1 54) := q7_17
    replace q7_18 : x8 = 0 → J_it (τ9.1 35) (τ9.1 7) (τ9.1 6) (τ9.1 37) (τ9.2.1 14) (τ9.2.1 15) (τ9.2.1 16) (τ9.2.1 19) := q7_18
    replace q7_19 : x8 = 0 → J_hu (τ9.1 35) (τ9.1 13) (τ9.1 7) := q7_19
    replace q7_20 : x8 = 0 → J_ft (τ9.1 35) (τ9.1 24) (τ9.1 7) (τ9.1 13) (τ9.1 14) (τ9.2.1 13) (τ9.2.1 14) (τ9.2.1 15) (τ9.2.1 16) (τ9.2.1 27) (τ9.2.1 28) (τ9.2.1 29) (τ9.2.1 30) (τ9.2.1 31) (τ9.2.1 32) := q7_20
    replace q7_21 : x8 = 0 → J_ss (τ9.1 35) (τ9.1 24) (τ9.1 21) (τ9.1 23) (τ9.1 22) (τ9.1 27) (τ9.1 26) (τ9.1 25) (τ9.1 16) (τ9.2.1 49) (τ9.2.1 51) := q7_21
    replace q7_22 : x8 = 0 → (τ9.1 15) ≤ (τ9.1 16) ∧ τ9.2.1 36 (τ9.1 15) ≤ (τ9.1 16) := q7_22
    replace q7_23 : x8 = 0 → (τ9.1 9) ≤ (τ9.1 7) := q7_23
    replace q7_24 : j_rr ((σ.1 5)) (σ.2.1 10) (τ9.2.1 10) := q7_24
    replace q7_25 : j_eq (σ.2.1 36 (σ.1 15)) (σ.2.1 37) (τ9.2.1 37) := q7_25
    replace q7_26 : (τ9.1 12) ≤ (σ.1 12) + 1 := q7_26
    replace q7_27 : c_Y σ τ9 := q7_27
    replace q7_28 : c_ag σ τ9 := q7_28
    replace ag : c_ag σ τ9 := ag_t ag q7_28 rfl
    have w3_τ9 : τ9.1 3 = σ.1 3 := hf_τ9.1 3 (by decide)
    have w4_τ9 : τ9.1 4 = σ.1 4 := hf_τ9.1 4 (by decide)
    have w5_τ9 : τ9.1 5 = σ.1 5 := hf_τ9.1 5 (by decide)
    have w6_τ9 : τ9.1 6 = σ.1 6 := hf_τ9.1 6 (by decide)
    have w7_τ9 : τ9.1 7 = σ.1 7 := hf_τ9.1 7 (by decide)
    have w12_τ9 : τ9.1 12 = σ.1 12 := hf_τ9.1 12 (by decide)
    have w13_τ9 : τ9.1 13 = σ.1 13 := hf_τ9.1 13 (by decide)
    have w14_τ9 : τ9.1 14 = σ.1 14 := hf_τ9.1 14 (by decide)
    have w15_τ9 : τ9.1 15 = σ.1 15 := hf_τ9.1 15 (by decide)
    have w16_τ9 : τ9.1 16 = σ.1 16 := hf_τ9.1 16 (by decide)
    have w21_τ9 : τ9.1 21 = σ.1 21 := hf_τ9.1 21 (by decide)
    have w22_τ9 : τ9.1 22 = σ.1 22 := hf_τ9.1 22 (by decide)
    have w23_τ9 : τ9.1 23 = σ.1 23 := hf_τ9.1 23 (by decide)
    have w24_τ9 : τ9.1 24 = σ.1 24 := hf_τ9.1 24 (by decide)
    have w25_τ9 : τ9.1 25 = σ.1 25 := hf_τ9.1 25 (by decide)
    have w26_τ9 : τ9.1 26 = σ.1 26 := hf_τ9.1 26 (by decide)
    have w27_τ9 : τ9.1 27 = σ.1 27 := hf_τ9.1 27 (by decide)
    have w35_τ9 : τ9.1 35 = σ.1 35 := hf_τ9.1 35 (by decide)
    have w36_τ9 : τ9.1 36 = σ.1 36 := hf_τ9.1 36 (by decide)
    have w37_τ9 : τ9.1 37 = σ.1 37 := hf_τ9.1 37 (by decide)
    have g2_τ9 : τ9.2.1 2 = σ.2.1 2 := hf_τ9.2.1 2 (by decide)
    have g3_τ9 : τ9.2.1 3 = σ.2.1 3 := hf_τ9.2.1 3 (by decide)
    have g4_τ9 : τ9.2.1 4 = σ.2.1 4 := hf_τ9.2.1 4 (by decide)
    have g5_τ9 : τ9.2.1 5 = σ.2.1 5 := hf_τ9.2.1 5 (by decide)
    have g6_τ9 : τ9.2.1 6 = σ.2.1 6 := hf_τ9.2.1 6 (by decide)
    have g9_τ9 : τ9.2.1 9 = σ.2.1 9 := hf_τ9.2.1 9 (by decide)
    have g10_τ9 : τ9.2.1 10 = σ.2.1 10 := hf_τ9.2.1 10 (by decide)
    have g11_τ9 : τ9.2.1 11 = σ.2.1 11 := hf_τ9.2.1 11 (by decide)
    have g13_τ9 : τ9.2.1 13 = σ.2.1 13 := hf_τ9.2.1 13 (by decide)
    have g14_τ9 : τ9.2.1 14 = σ.2.1 14 := hf_τ9.2.1 14 (by decide)
    have g15_τ9 : τ9.2.1 15 = σ.2.1 15 := hf_τ9.2.1 15 (by decide)
    have g16_τ9 : τ9.2.1 16 = σ.2.1 16 := hf_τ9.2.1 16 (by decide)
    have g20_τ9 : τ9.2.1 20 = σ.2.1 20 := hf_τ9.2.1 20 (by decide)
    have g22_τ9 : τ9.2.1 22 = σ.2.1 22 := hf_τ9.2.1 22 (by decide)
    have g25_τ9 : τ9.2.1 25 = σ.2.1 25 := hf_τ9.2.1 25 (by decide)
    have g26_τ9 : τ9.2.1 26 = σ.2.1 26 := hf_τ9.2.1 26 (by decide)
    have g27_τ9 : τ9.2.1 27 = σ.2.1 27 := hf_τ9.2.1 27 (by decide)
    have g28_τ9 : τ9.2.1 28 = σ.2.1 28 := hf_τ9.2.1 28 (by decide)
    have g29_τ9 : τ9.2.1 29 = σ.2.1 29 := hf_τ9.2.1 29 (by decide)
    have g30_τ9 : τ9.2.1 30 = σ.2.1 30 := hf_τ9.2.1 30 (by decide)
    have g31_τ9 : τ9.2.1 31 = σ.2.1 31 := hf_τ9.2.1 31 (by decide)
    have g32_τ9 : τ9.2.1 32 = σ.2.1 32 := hf_τ9.2.1 32 (by decide)
    have g33_τ9 : τ9.2.1 33 = σ.2.1 33 := hf_τ9.2.1 33 (by decide)
    have g34_τ9 : τ9.2.1 34 = σ.2.1 34 := hf_τ9.2.1 34 (by decide)
    have g35_τ9 : τ9.2.1 35 = σ.2.1 35 := hf_τ9.2.1 35 (by decide)
    have g36_τ9 : τ9.2.1 36 = σ.2.1 36 := hf_τ9.2.1 36 (by decide)
    have g37_τ9 : τ9.2.1 37 = σ.2.1 37 := hf_τ9.2.1 37 (by decide)
    have g44_τ9 : τ9.2.1 44 = σ.2.1 44 := hf_τ9.2.1 44 (by decide)
    have g45_τ9 : τ9.2.1 45 = σ.2.1 45 := hf_τ9.2.1 45 (by decide)
    have g49_τ9 : τ9.2.1 49 = σ.2.1 49 := hf_τ9.2.1 49 (by decide)
    have g51_τ9 : τ9.2.1 51 = σ.2.1 51 := hf_τ9.2.1 51 (by decide)
    have g54_τ9 : τ9.2.1 54 = σ.2.1 54 := hf_τ9.2.1 54 (by decide)
    have W3 : τ9.1 3 = σ.1 3 := by first | exact w3_τ9.trans W3 | omega
    have W4 : τ9.1 4 = σ.1 4 := by first | exact w4_τ9.trans W4 | omega
    have W5 : τ9.1 5 = σ.1 5 := by first | exact w5_τ9.trans W5 | omega
    have W6 : τ9.1 6 = σ.1 6 := by first | exact w6_τ9.trans W6 | omega
    have W7 : τ9.1 7 = σ.1 7 := by first | exact w7_τ9.trans W7 | omega
    have W15 : τ9.1 15 = σ.1 15 := by first | exact w15_τ9.trans W15 | omega
    have W16 : τ9.1 16 = σ.1 16 := by first | exact w16_τ9.trans W16 | omega
    have G2 : τ9.2.1 2 = σ.2.1 2 := (g2_τ9).trans G2
    have G3 : τ9.2.1 3 = σ.2.1 3 := (g3_τ9).trans G3
    have G4 : τ9.2.1 4 = σ.2.1 4 := (g4_τ9).trans G4
    have G5 : τ9.2.1 5 = σ.2.1 5 := (g5_τ9).trans G5
    have G6 : τ9.2.1 6 = σ.2.1 6 := (g6_τ9).trans G6
    have G9 : τ9.2.1 9 = σ.2.1 9 := (g9_τ9).trans G9
    have G10 : τ9.2.1 10 = σ.2.1 10 := (g10_τ9).trans G10
    have G11 : τ9.2.1 11 = σ.2.1 11 := (g11_τ9).trans G11
    have G13 : τ9.2.1 13 = σ.2.1 13 := (g13_τ9).trans G13
    have G14 : τ9.2.1 14 = σ.2.1 14 := (g14_τ9).trans G14
    have G15 : τ9.2.1 15 = σ.2.1 15 := (g15_τ9).trans G15
    have G16 : τ9.2.1 16 = σ.2.1 16 := (g16_τ9).trans G16
    have G20 : τ9.2.1 20 = σ.2.1 20 := (g20_τ9).trans G20
    have G22 : τ9.2.1 22 = σ.2.1 22 := (g22_τ9).trans G22
    have G33 : τ9.2.1 33 = σ.2.1 33 := (g33_τ9).trans G33
    have G34 : τ9.2.1 34 = σ.2.1 34 := (g34_τ9).trans G34
    have G35 : τ9.2.1 35 = σ.2.1 35 := (g35_τ9).trans G35
    have G36 : τ9.2.1 36 = σ.2.1 36 := (g36_τ9).trans G36
    have G37 : τ9.2.1 37 = σ.2.1 37 := (g37_τ9).trans G37
    have G44 : τ9.2.1 44 = σ.2.1 44 := (g44_τ9).trans G44
    have G45 : τ9.2.1 45 = σ.2.1 45 := (g45_τ9).trans G45
    have G49 : τ9.2.1 49 = σ.2.1 49 := (g49_τ9).trans G49
    have G51 : τ9.2.1 51 = σ.2.1 51 := (g51_τ9).trans G51
    have G54 : τ9.2.1 54 = σ.2.1 54 := (g54_τ9).trans G54
    have y14_7_τ9 : τ9.2.1 14 (τ9.1 7) = (σ.2.1 14) (σ.1 7) := by rw [g14_τ9, w7_τ9]
    have y36_15_τ9 : τ9.2.1 36 (τ9.1 15) = (σ.2.1 36) (σ.1 15) := by rw [g36_τ9, w15_τ9]
    have HT : J_ht (τ9.1 3) (τ9.2.1 2) (τ9.2.1 3) (τ9.2.1 5) (τ9.2.1 6) := q7_2
    have NL : J_nl (τ9.1 3) (τ9.2.1 2) (τ9.2.1 3) (τ9.2.1 4) := q7_14
    have MN : J_mn (τ9.1 3) (τ9.1 5) ((τ9.1 7) + 1) (τ9.2.1 4) := q7_3
    have VA : J_va (τ9.1 8) 1000 (τ9.2.1 18) (τ9.2.1 20) := q7_7
    have SC : J_sc (τ9.1 7) (τ9.1 9) (τ9.2.1 13) (τ9.2.1 14) (τ9.2.1 15) (τ9.2.1 16) (τ9.2.1 22) (τ9.2.1 19) := q7_9
    have MK : J_mk (τ9.1 11) (τ9.1 8) (τ9.1 9) (τ9.1 10) (τ9.2.1 25) := q7_8
    have FF : J_ff (τ9.1 5) (τ9.1 7) (τ9.2.1 9) (τ9.2.1 13) (τ9.2.1 14) (τ9.2.1 15) := q7_10
    have MT : ∀ s : Int, τ9.2.1 26 s ≤ (τ9.1 12) := q7_11
    have VS : J_vs (τ9.1 8) (τ9.1 5) (τ9.2.1 20) := q7_5
    have TX : J_vs (τ9.1 6) (τ9.1 5) (τ9.2.1 15) := q7_6
    have RKS : J_rks (τ9.1 5) (τ9.1 4) (τ9.2.1 10) (τ9.2.1 11) := q7_4
    have CJ : J_all (τ9.1 7) (τ9.1 6) (τ9.1 13) (τ9.1 14) (τ9.1 15) (τ9.2.1 13) (τ9.2.1 14) (τ9.2.1 15) (τ9.2.1 16) (τ9.2.1 10) (τ9.2.1 27) (τ9.2.1 28) (τ9.2.1 29) (τ9.2.1 30) (τ9.2.1 31) (τ9.2.1 32) (τ9.2.1 33) (τ9.2.1 34) (τ9.2.1 35) (τ9.2.1 36) (τ9.2.1 37) := q7_12
    have BP : J_bp (τ9.2.1 44) (τ9.2.1 45) := q7_13
    have CH : j_eq (σ.2.1 36 (σ.1 15)) (σ.2.1 37) (τ9.2.1 37) := by rw [show (j_eq (σ.2.1 36 (σ.1 15)) (σ.2.1 37) (τ9.2.1 37)) = (j_eq (σ.2.1 36 (σ.1 15)) (σ.2.1 37) (σ.2.1 37)) from by rw [g37_τ9]]; exact CH
    have UC : J_uc (τ9.1 35) (τ9.1 36) (τ9.2.1 10 (τ9.2.1 15 (τ9.2.1 14 (τ9.1 7)))) := by rw [show (J_uc (τ9.1 35) (τ9.1 36) (τ9.2.1 10 (τ9.2.1 15 (τ9.2.1 14 (τ9.1 7))))) = (J_uc (σ.1 35) (σ.1 36) (σ.2.1 10 (σ.2.1 15 (σ.2.1 14 (σ.1 7))))) from by rw [w7_τ9, w35_τ9, w36_τ9, g10_τ9, g14_τ9, g15_τ9]]; exact UC
    have DJs : J_dj (τ9.1 35) (τ9.1 36) (τ9.2.1 54) := by rw [show (J_dj (τ9.1 35) (τ9.1 36) (τ9.2.1 54)) = (J_dj (σ.1 35) (σ.1 36) (σ.2.1 54)) from by rw [w35_τ9, w36_τ9, g54_τ9]]; exact DJs
    have HUs : J_hu (τ9.1 35) (τ9.1 13) (τ9.1 7) := by rw [show (J_hu (τ9.1 35) (τ9.1 13) (τ9.1 7)) = (J_hu (σ.1 35) (σ.1 13) (σ.1 7)) from by rw [w7_τ9, w13_τ9, w35_τ9]]; exact HUs
    have FRs : J_ft (τ9.1 35) (τ9.1 24) (τ9.1 7) (τ9.1 13) (τ9.1 14) (τ9.2.1 13) (τ9.2.1 14) (τ9.2.1 15) (τ9.2.1 16) (τ9.2.1 27) (τ9.2.1 28) (τ9.2.1 29) (τ9.2.1 30) (τ9.2.1 31) (τ9.2.1 32) := by rw [show (J_ft (τ9.1 35) (τ9.1 24) (τ9.1 7) (τ9.1 13) (τ9.1 14) (τ9.2.1 13) (τ9.2.1 14) (τ9.2.1 15) (τ9.2.1 16) (τ9.2.1 27) (τ9.2.1 28) (τ9.2.1 29) (τ9.2.1 30) (τ9.2.1 31) (τ9.2.1 32)) = (J_ft (σ.1 35) (σ.1 24) (σ.1 7) (σ.1 13) (σ.1 14) (σ.2.1 13) (σ.2.1 14) (σ.2.1 15) (σ.2.1 16) (σ.2.1 27) (σ.2.1 28) (σ.2.1 29) (σ.2.1 30) (σ.2.1 31) (σ.2.1 32)) from by rw [w7_τ9, w13_τ9, w14_τ9, w24_τ9, w35_τ9, g13_τ9, g14_τ9, g15_τ9, g16_τ9, g27_τ9, g28_τ9, g29_τ9, g30_τ9, g31_τ9, g32_τ9]]; exact FRs
    have SPs : J_ss (τ9.1 35) (τ9.1 24) (τ9.1 21) (τ9.1 23) (τ9.1 22) (τ9.1 27) (τ9.1 26) (τ9.1 25) (τ9.1 16) (τ9.2.1 49) (τ9.2.1 51) := by rw [show (J_ss (τ9.1 35) (τ9.1 24) (τ9.1 21) (τ9.1 23) (τ9.1 22) (τ9.1 27) (τ9.1 26) (τ9.1 25) (τ9.1 16) (τ9.2.1 49) (τ9.2.1 51)) = (J_ss (σ.1 35) (σ.1 24) (σ.1 21) (σ.1 23) (σ.1 22) (σ.1 27) (σ.1 26) (σ.1 25) (σ.1 16) (σ.2.1 49) (σ.2.1 51)) from by rw [w16_τ9, w21_τ9, w22_τ9, w23_τ9, w24_τ9, w25_τ9, w26_τ9, w27_τ9, w35_τ9, g49_τ9, g51_τ9]]; exact SPs
    have A2 : ∀ j, 0 ≤ τ9.2.1 2 j ∧ τ9.2.1 2 j ≤ 65535 := fun j => hT.2 2 j
    have A3 : ∀ j, 0 ≤ τ9.2.1 3 j ∧ τ9.2.1 3 j ≤ 30000 := fun j => hT.2 3 j
    have A4 : ∀ j, (-1000) ≤ τ9.2.1 4 j ∧ τ9.2.1 4 j ≤ 1499 := fun j => hT.2 4 j
    have A5 : ∀ j, 0 ≤ τ9.2.1 5 j ∧ τ9.2.1 5 j ≤ 2500 := fun j => hT.2 5 j
    have A6 : ∀ j, 0 ≤ τ9.2.1 6 j ∧ τ9.2.1 6 j ≤ 2500 := fun j => hT.2 6 j
    have A9 : ∀ j, (-1) ≤ τ9.2.1 9 j ∧ τ9.2.1 9 j ≤ 1499 := fun j => hT.2 9 j
    have A10 : ∀ j, (-1) ≤ τ9.2.1 10 j ∧ τ9.2.1 10 j ≤ 99 := fun j => hT.2 10 j
    have A11 : ∀ j, 0 ≤ τ9.2.1 11 j ∧ τ9.2.1 11 j ≤ 999 := fun j => hT.2 11 j
    have A13 : ∀ j, 0 ≤ τ9.2.1 13 j ∧ τ9.2.1 13 j ≤ 4 := fun j => hT.2 13 j
    have A14 : ∀ j, 0 ≤ τ9.2.1 14 j ∧ τ9.2.1 14 j ≤ 30000 := fun j => hT.2 14 j
    have A15 : ∀ j, 0 ≤ τ9.2.1 15 j ∧ τ9.2.1 15 j ≤ 999 := fun j => hT.2 15 j
    have A16 : ∀ j, (-1) ≤ τ9.2.1 16 j ∧ τ9.2.1 16 j ≤ 1499 := fun j => hT.2 16 j
    have A18 : ∀ j, 0 ≤ τ9.2.1 18 j ∧ τ9.2.1 18 j ≤ 1 := fun j => hT.2 18 j
    have A19 : ∀ j, (-1) ≤ τ9.2.1 19 j ∧ τ9.2.1 19 j ≤ 1499 := fun j => hT.2 19 j
    have A20 : ∀ j, 0 ≤ τ9.2.1 20 j ∧ τ9.2.1 20 j ≤ 999 := fun j => hT.2 20 j
    have A22 : ∀ j, 0 ≤ τ9.2.1 22 j ∧ τ9.2.1 22 j ≤ 1499 := fun j => hT.2 22 j
    have A26 : ∀ j, (-2147483648) ≤ τ9.2.1 26 j ∧ τ9.2.1 26 j ≤ 2147483647 := fun j => hT.2 26 j
    have A27 : ∀ j, 0 ≤ τ9.2.1 27 j ∧ τ9.2.1 27 j ≤ 90000 := fun j => hT.2 27 j
    have A28 : ∀ j, 0 ≤ τ9.2.1 28 j ∧ τ9.2.1 28 j ≤ 60 := fun j => hT.2 28 j
    have A29 : ∀ j, 0 ≤ τ9.2.1 29 j ∧ τ9.2.1 29 j ≤ 1499 := fun j => hT.2 29 j
    have A30 : ∀ j, 0 ≤ τ9.2.1 30 j ∧ τ9.2.1 30 j ≤ 20000 := fun j => hT.2 30 j
    have A31 : ∀ j, 0 ≤ τ9.2.1 31 j ∧ τ9.2.1 31 j ≤ 20000 := fun j => hT.2 31 j
    have A32 : ∀ j, 0 ≤ τ9.2.1 32 j ∧ τ9.2.1 32 j ≤ 999999 := fun j => hT.2 32 j
    have A33 : ∀ j, 0 ≤ τ9.2.1 33 j ∧ τ9.2.1 33 j ≤ 20000 := fun j => hT.2 33 j
    have A34 : ∀ j, 0 ≤ τ9.2.1 34 j ∧ τ9.2.1 34 j ≤ 20000 := fun j => hT.2 34 j
    have A35 : ∀ j, 0 ≤ τ9.2.1 35 j ∧ τ9.2.1 35 j ≤ 1499 := fun j => hT.2 35 j
    have A36 : ∀ j, 0 ≤ τ9.2.1 36 j ∧ τ9.2.1 36 j ≤ 20000 := fun j => hT.2 36 j
    have A37 : ∀ j, 0 ≤ τ9.2.1 37 j ∧ τ9.2.1 37 j ≤ 19999 := fun j => hT.2 37 j
    have A44 : ∀ j, 0 ≤ τ9.2.1 44 j ∧ τ9.2.1 44 j ≤ 42000 := fun j => hT.2 44 j
    have A45 : ∀ j, 0 ≤ τ9.2.1 45 j ∧ τ9.2.1 45 j ≤ 1000 := fun j => hT.2 45 j
    have A49 : ∀ j, (-300) ≤ τ9.2.1 49 j ∧ τ9.2.1 49 j ≤ 67035 := fun j => hT.2 49 j
    have A51 : ∀ j, 0 ≤ τ9.2.1 51 j ∧ τ9.2.1 51 j ≤ 1499 := fun j => hT.2 51 j
    have A54 : ∀ j, 0 ≤ τ9.2.1 54 j ∧ τ9.2.1 54 j ≤ 999 := fun j => hT.2 54 j
    have v3 : 0 ≤ τ9.1 3 ∧ τ9.1 3 ≤ 2500 := hT.1 3
    have v4 : 0 ≤ τ9.1 4 ∧ τ9.1 4 ≤ 100 := hT.1 4
    have v5 : 0 ≤ τ9.1 5 ∧ τ9.1 5 ≤ 1000 := hT.1 5
    have v6 : 0 ≤ τ9.1 6 ∧ τ9.1 6 ≤ 30000 := hT.1 6
    have v7 : 0 ≤ τ9.1 7 ∧ τ9.1 7 ≤ 1500 := hT.1 7
    have v8 : 0 ≤ τ9.1 8 ∧ τ9.1 8 ≤ 1000 := hT.1 8
    have v9 : 0 ≤ τ9.1 9 ∧ τ9.1 9 ≤ 1500 := hT.1 9
    have v10 : 0 ≤ τ9.1 10 ∧ τ9.1 10 ≤ 1000 := hT.1 10
    have v11 : 0 ≤ τ9.1 11 ∧ τ9.1 11 ≤ 50 := hT.1 11
    have v12 : (-2147483648) ≤ τ9.1 12 ∧ τ9.1 12 ≤ 2147483647 := hT.1 12
    have v13 : 0 ≤ τ9.1 13 ∧ τ9.1 13 ≤ 90000 := hT.1 13
    have v14 : 0 ≤ τ9.1 14 ∧ τ9.1 14 ≤ 20000 := hT.1 14
    have v15 : 0 ≤ τ9.1 15 ∧ τ9.1 15 ≤ 20000 := hT.1 15
    have v16 : 0 ≤ τ9.1 16 ∧ τ9.1 16 ≤ 20000 := hT.1 16
    have v21 : 0 ≤ τ9.1 21 ∧ τ9.1 21 ≤ 20000 := hT.1 21
    have v22 : 0 ≤ τ9.1 22 ∧ τ9.1 22 ≤ 300 := hT.1 22
    have v23 : 0 ≤ τ9.1 23 ∧ τ9.1 23 ≤ 300 := hT.1 23
    have v24 : 0 ≤ τ9.1 24 ∧ τ9.1 24 ≤ 1499 := hT.1 24
    have v25 : 0 ≤ τ9.1 25 ∧ τ9.1 25 ≤ 3 := hT.1 25
    have v26 : 0 ≤ τ9.1 26 ∧ τ9.1 26 ≤ 5000010 := hT.1 26
    have v27 : 0 ≤ τ9.1 27 ∧ τ9.1 27 ≤ 1 := hT.1 27
    have v35 : 0 ≤ τ9.1 35 ∧ τ9.1 35 ≤ 7 := hT.1 35
    have v36 : 0 ≤ τ9.1 36 ∧ τ9.1 36 ≤ 1001 := hT.1 36
    have v37 : 0 ≤ τ9.1 37 ∧ τ9.1 37 ≤ 4 := hT.1 37
    have a14_7 : 0 ≤ τ9.2.1 14 (τ9.1 7) ∧ τ9.2.1 14 (τ9.1 7) ≤ 30000 := hT.2 14 _
    have a36_15 : 0 ≤ τ9.2.1 36 (τ9.1 15) ∧ τ9.2.1 36 (τ9.1 15) ≤ 20000 := hT.2 36 _
    have av13 : σ.1 13 ≤ τ9.1 13 := ag.1 13 (by decide)
    have av14 : σ.1 14 ≤ τ9.1 14 := ag.1 14 (by decide)
    exact ⟨hT, (show 0 ≤ x8 ∧ x8 ≤ 19 from by (first | assumption | omega | (simp only [st_s] <;> omega) | fail)), (show J_ht (τ9.1 3) (τ9.2.1 2) (τ9.2.1 3) (τ9.2.1 5) (τ9.2.1 6) from HT), (show J_mn (τ9.1 3) (τ9.1 5) ((τ9.1 7) + 1) (τ9.2.1 4) from MN), (show J_rks (τ9.1 5) (τ9.1 4) (τ9.2.1 10) (τ9.2.1 11) from RKS), (show J_vs (τ9.1 8) (τ9.1 5) (τ9.2.1 20) from VS), (show J_vs (τ9.1 6) (τ9.1 5) (τ9.2.1 15) from TX), (show J_va (τ9.1 8) 1000 (τ9.2.1 18) (τ9.2.1 20) from VA), (show J_mk (τ9.1 11) (τ9.1 8) (τ9.1 9) (τ9.1 10) (τ9.2.1 25) from MK), (show J_sc (τ9.1 7) (τ9.1 9) (τ9.2.1 13) (τ9.2.1 14) (τ9.2.1 15) (τ9.2.1 16) (τ9.2.1 22) (τ9.2.1 19) from SC), (show J_ff (τ9.1 5) (τ9.1 7) (τ9.2.1 9) (τ9.2.1 13) (τ9.2.1 14) (τ9.2.1 15) from FF), (show ∀ s : Int, τ9.2.1 26 s ≤ (τ9.1 12) from MT), (show J_all (τ9.1 7) (τ9.1 6) (τ9.1 13) (τ9.1 14) (τ9.1 15) (τ9.2.1 13) (τ9.2.1 14) (τ9.2.1 15) (τ9.2.1 16) (τ9.2.1 10) (τ9.2.1 27) (τ9.2.1 28) (τ9.2.1 29) (τ9.2.1 30) (τ9.2.1 31) (τ9.2.1 32) (τ9.2.1 33) (τ9.2.1 34) (τ9.2.1 35) (τ9.2.1 36) (τ9.2.1 37) from CJ), (show J_bp (τ9.2.1 44) (τ9.2.1 45) from BP), (show J_nl (τ9.1 3) (τ9.2.1 2) (τ9.2.1 3) (τ9.2.1 4) from NL), (show x8 = 0 → J_rs (τ9.1 35) (τ9.1 7) (τ9.1 6) (τ9.1 36) (τ9.1 37) (τ9.1 5) (τ9.1 8) (τ9.2.1 14) from by (first | exact fun z => absurd z (by decide) | exact q1_15 | exact q4_15 | exact q7_15 | (intro z; have w := q15_2 z; have rs := J_rs_0 p14 (by omega); unfold J_rs; rw [G14, W7]; omega) | (intro z; have rs := J_rs_0 p14 (by omega); have r1 := J_rs_1 p14 (by omega); unfold J_rs; rw [G14, W7]; omega) | (first | exact fun z => absurd z (by decide) | exact fun _ => RS | (intro z; have rs := p14; unfold J_rs at rs ⊢; omega) | (intro z; have rs := p14; unfold J_rs at rs ⊢; rw [G14, W7]; omega)) | fail)), (show x8 = 0 → J_uc (τ9.1 35) (τ9.1 36) (τ9.2.1 10 (τ9.2.1 15 (τ9.2.1 14 (τ9.1 7)))) from by (first | exact fun z => absurd z (by decide) | exact q1_16 | exact q4_16 | exact q7_16 | (intro z y y2; exfalso; omega) | (intro z y; have w := q15_2 z; exfalso; omega) | (first | exact fun z => absurd z (by decide) | (intro z y; exfalso; omega) | exact fun _ => UC | exact fun _ => uc | (intro z y y2; exact uc (by omega) (by omega)) | (intro z y y2; exfalso; omega) | (intro z y y2; rw [G10, G14, G15, W7]; exact uc (by omega) (by omega))) | fail)), (show x8 = 0 → J_dj (τ9.1 35) (τ9.1 36) (τ9.2.1 54) from by (first | exact fun z => absurd z (by decide) | exact q1_17 | exact q4_17 | exact q7_17 | (intro z y; rw [show τ17.1 36 = 0 from (q15_2 z).1]; exact j_in0 _ _) | (first | exact fun z => absurd z (by decide) | (intro z y; exfalso; omega) | exact fun _ => DJs | exact fun _ => dj) | fail)), (show x8 = 0 → J_it (τ9.1 35) (τ9.1 7) (τ9.1 6) (τ9.1 37) (τ9.2.1 14) (τ9.2.1 15) (τ9.2.1 16) (τ9.2.1 19) from by (first | exact fun z => absurd z (by decide) | exact q1_18 | exact q4_18 | exact q7_18 | (intro z y; have w := q15_2 z; exfalso; omega) | (intro z y; have rs := J_rs_0 p14 (by omega); exact J_ip0 (by rw [W6, G14, W7]; omega)) | (first | exact fun z => absurd z (by decide) | (intro z y; exfalso; omega) | exact fun _ => IPs | exact fun _ => ipx | (intro z y; exact ipx (by omega)) | (intro z y; rw [W7, W6, W37, G14, G15, G16, G19]; exact ipx (by omega))) | fail)), (show x8 = 0 → J_hu (τ9.1 35) (τ9.1 13) (τ9.1 7) from by (first | exact fun z => absurd z (by decide) | exact q1_19 | exact q4_19 | exact q7_19 | (intro z; have hu := hux; unfold J_hu at hu ⊢; omega) | (first | exact fun z => absurd z (by decide) | exact fun _ => HUs | (intro z; have hu := hux; unfold J_hu at hu ⊢; omega)) | fail)), (show x8 = 0 → J_ft (τ9.1 35) (τ9.1 24) (τ9.1 7) (τ9.1 13) (τ9.1 14) (τ9.2.1 13) (τ9.2.1 14) (τ9.2.1 15) (τ9.2.1 16) (τ9.2.1 27) (τ9.2.1 28) (τ9.2.1 29) (τ9.2.1 30) (τ9.2.1 31) (τ9.2.1 32) from by (first | exact fun z => absurd z (by decide) | exact q1_20 | exact q4_20 | exact q7_20 | (intro z y; have w := q15_2 z; exfalso; omega) | (intro z y; exfalso; omega) | (first | exact fun z => absurd z (by decide) | (intro z y; exfalso; omega) | exact fun _ => FRs | exact fun _ => frx | (intro z y; exact frx (by omega)) | (intro z y; have w := frx (by omega); rw [W7, W13, W14, W24, G13, G14, G15, G16, G27, G28, G29, G30, G31, G32]; exact w)) | fail)), (show x8 = 0 → J_ss (τ9.1 35) (τ9.1 24) (τ9.1 21) (τ9.1 23) (τ9.1 22) (τ9.1 27) (τ9.1 26) (τ9.1 25) (τ9.1 16) (τ9.2.1 49) (τ9.2.1 51) from by (first | exact fun z => absurd z (by decide) | exact q1_21 | exact q4_21 | exact q7_21 | (intro z y; have w := q15_2 z; exfalso; omega) | (intro z y; exfalso; omega) | (first | exact fun z => absurd z (by decide) | (intro z y; exfalso; omega) | exact fun _ => SPs | exact fun _ => spx | (intro z y; exact spx (by omega))) | fail)), (show x8 = 0 → (τ9.1 15) ≤ (τ9.1 16) ∧ τ9.2.1 36 (τ9.1 15) ≤ (τ9.1 16) from by (first | exact fun z => absurd z (by decide) | exact q1_22 | exact q4_22 | exact q7_22 | (intro z; first | exact sux | omega) | fail)), (show x8 = 0 → (τ9.1 9) ≤ (τ9.1 7) from by (first | exact fun z => absurd z (by decide) | exact q1_23 | exact q4_23 | exact q7_23 | (intro z; omega) | fail)), (show j_rr ((σ.1 5)) (σ.2.1 10) (τ9.2.1 10) from by (first | exact j_rr0 _ _ | exact q1_24 | exact q4_24 | exact q7_24 | (rw [G10]; exact j_rr0 _ _) | fail)), (show j_eq (σ.2.1 36 (σ.1 15)) (σ.2.1 37) (τ9.2.1 37) from CH), (show (τ9.1 12) ≤ (σ.1 12) + 1 from by (first | assumption | omega | (simp only [st_s] <;> omega) | fail)), (show c_Y σ τ9 from by (first | exact c_Y0 _ | exact c_Y_g W4 G11 G20 G22 G25 | exact q1_27 | exact q4_27 | exact q7_27 | exact c_Y_g (by omega) (by rw [g11_τ4]) (by rw [g20_τ4]) (by rw [g22_τ4]) (by rw [g25_τ4]) | exact c_Y_g (by omega) (by rw [g11_τ13]) (by rw [g20_τ13]) (by rw [g22_τ13]) (by rw [g25_τ13]) | exact c_Y_g (by omega) (by rw [g11_τ17]) (by rw [g20_τ17]) (by rw [g22_τ17]) (by rw [g25_τ17]) | fail)), ag⟩
  ·
    exact ⟨hT, (show 0 ≤ 3 ∧ 3 ≤ 19 from by (first | assumption | omega | (simp only [st_s] <;> omega) | fail)), (show J_ht (σ.1 3) (σ.2.1 2) (σ.2.1 3) (σ.2.1 5) (σ.2.1 6) from HT), (show J_mn (σ.1 3) (σ.1 5) ((σ.1 7) + 1) (σ.2.1 4) from MN), (show J_rks (σ.1 5) (σ.1 4) (σ.2.1 10) (σ.2.1 11) from RKS), (show J_vs (σ.1 8) (σ.1 5) (σ.2.1 20) from VS), (show J_vs (σ.1 6) (σ.1 5) (σ.2.1 15) from TX), (show J_va (σ.1 8) 1000 (σ.2.1 18) (σ.2.1 20) from VA), (show J_mk (σ.1 11) (σ.1 8) (σ.1 9) (σ.1 10) (σ.2.1 25) from MK), (show J_sc (σ.1 7) (σ.1 9) (σ.2.1 13) (σ.2.1 14) (σ.2.1 15) (σ.2.1 16) (σ.2.1 22) (σ.2.1 19) from SC), (show J_ff (σ.1 5) (σ.1 7) (σ.2.1 9) (σ.2.1 13) (σ.2.1 14) (σ.2.1 15) from FF), (show ∀ s : Int, σ.2.1 26 s ≤ (σ.1 12) from MT), (show J_all (σ.1 7) (σ.1 6) (σ.1 13) (σ.1 14) (σ.1 15) (σ.2.1 13) (σ.2.1 14) (σ.2.1 15) (σ.2.1 16) (σ.2.1 10) (σ.2.1 27) (σ.2.1 28) (σ.2.1 29) (σ.2.1 30) (σ.2.1 31) (σ.2.1 32) (σ.2.1 33) (σ.2.1 34) (σ.2.1 35) (σ.2.1 36) (σ.2.1 37) from CJ), (show J_bp (σ.2.1 44) (σ.2.1 45) from BP), (show J_nl (σ.1 3) (σ.2.1 2) (σ.2.1 3) (σ.2.1 4) from NL), (show 3 = 0 → J_rs (σ.1 35) (σ.1 7) (σ.1 6) (σ.1 36) (σ.1 37) (σ.1 5) (σ.1 8) (σ.2.1 14) from by (first | exact fun z => absurd z (by decide) | exact q1_15 | exact q4_15 | exact q7_15 | (intro z; have w := q15_2 z; have rs := J_rs_0 p14 (by omega); unfold J_rs; rw [G14, W7]; omega) | (intro z; have rs := J_rs_0 p14 (by omega); have r1 := J_rs_1 p14 (by omega); unfold J_rs; rw [G14, W7]; omega) | (first | exact fun z => absurd z (by decide) | exact fun _ => RS | (intro z; have rs := p14; unfold J_rs at rs ⊢; omega) | (intro z; have rs := p14; unfold J_rs at rs ⊢; rw [G14, W7]; omega)) | fail)), (show 3 = 0 → J_uc (σ.1 35) (σ.1 36) (σ.2.1 10 (σ.2.1 15 (σ.2.1 14 (σ.1 7)))) from by (first | exact fun z => absurd z (by decide) | exact q1_16 | exact q4_16 | exact q7_16 | (intro z y y2; exfalso; omega) | (intro z y; have w := q15_2 z; exfalso; omega) | (first | exact fun z => absurd z (by decide) | (intro z y; exfalso; omega) | exact fun _ => UC | exact fun _ => uc | (intro z y y2; exact uc (by omega) (by omega)) | (intro z y y2; exfalso; omega) | (intro z y y2; rw [G10, G14, G15, W7]; exact uc (by omega) (by omega))) | fail)), (show 3 = 0 → J_dj (σ.1 35) (σ.1 36) (σ.2.1 54) from by (first | exact fun z => absurd z (by decide) | exact q1_17 | exact q4_17 | exact q7_17 | (intro z y; rw [show τ17.1 36 = 0 from (q15_2 z).1]; exact j_in0 _ _) | (first | exact fun z => absurd z (by decide) | (intro z y; exfalso; omega) | exact fun _ => DJs | exact fun _ => dj) | fail)), (show 3 = 0 → J_it (σ.1 35) (σ.1 7) (σ.1 6) (σ.1 37) (σ.2.1 14) (σ.2.1 15) (σ.2.1 16) (σ.2.1 19) from by (first | exact fun z => absurd z (by decide) | exact q1_18 | exact q4_18 | exact q7_18 | (intro z y; have w := q15_2 z; exfalso; omega) | (intro z y; have rs := J_rs_0 p14 (by omega); exact J_ip0 (by rw [W6, G14, W7]; omega)) | (first | exact fun z => absurd z (by decide) | (intro z y; exfalso; omega) | exact fun _ => IPs | exact fun _ => ipx | (intro z y; exact ipx (by omega)) | (intro z y; rw [W7, W6, W37, G14, G15, G16, G19]; exact ipx (by omega))) | fail)), (show 3 = 0 → J_hu (σ.1 35) (σ.1 13) (σ.1 7) from by (first | exact fun z => absurd z (by decide) | exact q1_19 | exact q4_19 | exact q7_19 | (intro z; have hu := hux; unfold J_hu at hu ⊢; omega) | (first | exact fun z => absurd z (by decide) | exact fun _ => HUs | (intro z; have hu := hux; unfold J_hu at hu ⊢; omega)) | fail)), (show 3 = 0 → J_ft (σ.1 35) (σ.1 24) (σ.1 7) (σ.1 13) (σ.1 14) (σ.2.1 13) (σ.2.1 14) (σ.2.1 15) (σ.2.1 16) (σ.2.1 27) (σ.2.1 28) (σ.2.1 29) (σ.2.1 30) (σ.2.1 31) (σ.2.1 32) from by (first | exact fun z => absurd z (by decide) | exact q1_20 | exact q4_20 | exact q7_20 | (intro z y; have w := q15_2 z; exfalso; omega) | (intro z y; exfalso; omega) | (first | exact fun z => absurd z (by decide) | (intro z y; exfalso; omega) | exact fun _ => FRs | exact fun _ => frx | (intro z y; exact frx (by omega)) | (intro z y; have w := frx (by omega); rw [W7, W13, W14, W24, G13, G14, G15, G16, G27, G28, G29, G30, G31, G32]; exact w)) | fail)), (show 3 = 0 → J_ss (σ.1 35) (σ.1 24) (σ.1 21) (σ.1 23) (σ.1 22) (σ.1 27) (σ.1 26) (σ.1 25) (σ.1 16) (σ.2.1 49) (σ.2.1 51) from by (first | exact fun z => absurd z (by decide) | exact q1_21 | exact q4_21 | exact q7_21 | (intro z y; have w := q15_2 z; exfalso; omega) | (intro z y; exfalso; omega) | (first | exact fun z => absurd z (by decide) | (intro z y; exfalso; omega) | exact fun _ => SPs | exact fun _ => spx | (intro z y; exact spx (by omega))) | fail)), (show 3 = 0 → (σ.1 15) ≤ (σ.1 16) ∧ σ.2.1 36 (σ.1 15) ≤ (σ.1 16) from by (first | exact fun z => absurd z (by decide) | exact q1_22 | exact q4_22 | exact q7_22 | (intro z; first | exact sux | omega) | fail)), (show 3 = 0 → (σ.1 9) ≤ (σ.1 7) from by (first | exact fun z => absurd z (by decide) | exact q1_23 | exact q4_23 | exact q7_23 | (intro z; omega) | fail)), (show j_rr ((σ.1 5)) (σ.2.1 10) (σ.2.1 10) from by (first | exact j_rr0 _ _ | exact q1_24 | exact q4_24 | exact q7_24 | (rw [G10]; exact j_rr0 _ _) | fail)), (show j_eq (σ.2.1 36 (σ.1 15)) (σ.2.1 37) (σ.2.1 37) from CH), (show (σ.1 12) ≤ (σ.1 12) + 1 from by (first | assumption | omega | (simp only [st_s] <;> omega) | fail)), (show c_Y σ σ from by (first | exact c_Y0 _ | exact c_Y_g W4 G11 G20 G22 G25 | exact q1_27 | exact q4_27 | exact q7_27 | exact c_Y_g (by omega) (by rw [g11_τ4]) (by rw [g20_τ4]) (by rw [g22_τ4]) (by rw [g25_τ4]) | exact c_Y_g (by omega) (by rw [g11_τ13]) (by rw [g20_τ13]) (by rw [g22_τ13]) (by rw [g25_τ13]) | exact c_Y_g (by omega) (by rw [g11_τ17]) (by rw [g20_τ17]) (by rw [g22_τ17]) (by rw [g25_τ17]) | fail)), ag⟩
