-- pure: the class's reader takes a symbol
set_option maxHeartbeats 1000000 in
theorem K_X7_takeSymbol {n1 : Int} {σ : S0} (hT : c_T σ) (p1 : -1 ≤ n1) (p2 : n1 < 1000) (p3 : n1 < (σ.1 5)) (p4 : (σ.1 7) < 1500) (p5 : σ.2.1 14 (σ.1 7) + (σ.1 36) = (σ.1 6)) (p6 : ∀ s : Int, 0 ≤ s → s < (σ.1 5) → 0 ≤ σ.2.1 9 s → σ.2.1 14 (σ.2.1 9 s) < 30000) (p7 : J_vs (σ.1 6) (σ.1 5) (σ.2.1 15)) (p8 : J_rks (σ.1 5) (σ.1 4) (σ.2.1 10) (σ.2.1 11)) (p9 : 1 ≤ (σ.1 36) → 0 ≤ σ.2.1 10 (σ.2.1 15 (σ.2.1 14 (σ.1 7)))) (p10 : (σ.1 37) = 0 → (σ.1 36) ≤ 2) (p11 : (σ.1 36) ≤ 300) (p12 : J_ip (σ.1 7) (σ.1 6) (σ.1 37) (σ.2.1 14) (σ.2.1 15) (σ.2.1 16) (σ.2.1 19)) : W_X7_takeSymbol n1 σ (fun (x : Int) (τ : S0) => (c_T τ) ∧ (0 ≤ x ∧ x ≤ 19) ∧ (J_vs (τ.1 6) (τ.1 5) (τ.2.1 15)) ∧ (J_rks (τ.1 5) (τ.1 4) (τ.2.1 10) (τ.2.1 11)) ∧ (j_rr ((σ.1 5)) (σ.2.1 10) (τ.2.1 10)) ∧ (x = 0 → (τ.1 36) = (σ.1 36) + 1 ∧ (τ.1 6) = (σ.1 6) + 1 ∧ τ.2.1 14 ((τ.1 7) + 1) = (τ.1 6)) ∧ (x = 0 → 0 ≤ τ.2.1 10 (τ.2.1 15 (τ.2.1 14 (τ.1 7)))) ∧ (x = 0 → (σ.1 37) = 0 → (τ.1 36) ≤ 2) ∧ (x = 0 → (τ.1 36) ≤ 300) ∧ (x = 0 → J_ip (τ.1 7) (τ.1 6) (τ.1 37) (τ.2.1 14) (τ.2.1 15) (τ.2.1 16) (τ.2.1 19)) ∧ (c_Y σ τ) ∧ (c_ag σ τ)) := by
  have A8 : ∀ j, 0 ≤ σ.2.1 8 j ∧ σ.2.1 8 j ≤ 1 := fun j => hT.2 8 j
  have A9 : ∀ j, (-1) ≤ σ.2.1 9 j ∧ σ.2.1 9 j ≤ 1499 := fun j => hT.2 9 j
  have A10 : ∀ j, (-1) ≤ σ.2.1 10 j ∧ σ.2.1 10 j ≤ 99 := fun j => hT.2 10 j
  have A11 : ∀ j, 0 ≤ σ.2.1 11 j ∧ σ.2.1 11 j ≤ 999 := fun j => hT.2 11 j
  have A14 : ∀ j, 0 ≤ σ.2.1 14 j ∧ σ.2.1 14 j ≤ 30000 := fun j => hT.2 14 j
  have A15 : ∀ j, 0 ≤ σ.2.1 15 j ∧ σ.2.1 15 j ≤ 999 := fun j => hT.2 15 j
  have A16 : ∀ j, (-1) ≤ σ.2.1 16 j ∧ σ.2.1 16 j ≤ 1499 := fun j => hT.2 16 j
  have A19 : ∀ j, (-1) ≤ σ.2.1 19 j ∧ σ.2.1 19 j ≤ 1499 := fun j => hT.2 19 j
  have A20 : ∀ j, 0 ≤ σ.2.1 20 j ∧ σ.2.1 20 j ≤ 999 := fun j => hT.2 20 j
  have A22 : ∀ j, 0 ≤ σ.2.1 22 j ∧ σ.2.1 22 j ≤ 1499 := fun j => hT.2 22 j
  have v3 : 0 ≤ σ.1 3 ∧ σ.1 3 ≤ 2500 := hT.1 3
  have v4 : 0 ≤ σ.1 4 ∧ σ.1 4 ≤ 100 := hT.1 4
  have v5 : 0 ≤ σ.1 5 ∧ σ.1 5 ≤ 1000 := hT.1 5
  have v6 : 0 ≤ σ.1 6 ∧ σ.1 6 ≤ 30000 := hT.1 6
  have v7 : 0 ≤ σ.1 7 ∧ σ.1 7 ≤ 1500 := hT.1 7
  have v13 : 0 ≤ σ.1 13 ∧ σ.1 13 ≤ 90000 := hT.1 13
  have v14 : 0 ≤ σ.1 14 ∧ σ.1 14 ≤ 20000 := hT.1 14
  have v15 : 0 ≤ σ.1 15 ∧ σ.1 15 ≤ 20000 := hT.1 15
  have v16 : 0 ≤ σ.1 16 ∧ σ.1 16 ≤ 20000 := hT.1 16
  have v36 : 0 ≤ σ.1 36 ∧ σ.1 36 ≤ 1001 := hT.1 36
  have v37 : 0 ≤ σ.1 37 ∧ σ.1 37 ≤ 4 := hT.1 37
  have a14_7 : 0 ≤ σ.2.1 14 (σ.1 7) ∧ σ.2.1 14 (σ.1 7) ≤ 30000 := hT.2 14 _
  have W3 : σ.1 3 = σ.1 3 := rfl
  have W5 : σ.1 5 = σ.1 5 := rfl
  have W7 : σ.1 7 = σ.1 7 := rfl
  have W13 : σ.1 13 = σ.1 13 := rfl
  have W14 : σ.1 14 = σ.1 14 := rfl
  have W15 : σ.1 15 = σ.1 15 := rfl
  have W16 : σ.1 16 = σ.1 16 := rfl
  have W37 : σ.1 37 = σ.1 37 := rfl
  have G8 : σ.2.1 8 = σ.2.1 8 := rfl
  have G9 : σ.2.1 9 = σ.2.1 9 := rfl
  have G19 : σ.2.1 19 = σ.2.1 19 := rfl
  have G20 : σ.2.1 20 = σ.2.1 20 := rfl
  have G22 : σ.2.1 22 = σ.2.1 22 := rfl
  have G25 : σ.2.1 25 = σ.2.1 25 := rfl
  have ag : c_ag σ σ := ag_0 σ
  intro P17 P121 P151 h17 h121 h151
  have TX : J_vs (σ.1 6) (σ.1 5) (σ.2.1 15) := p7
  have RKS : J_rks (σ.1 5) (σ.1 4) (σ.2.1 10) (σ.2.1 11) := p8
  have IP : J_ip (σ.1 7) (σ.1 6) (σ.1 37) (σ.2.1 14) (σ.2.1 15) (σ.2.1 16) (σ.2.1 19) := p12
  have IP_0 := IP
  have RKS_0 := RKS
  have TX_0 := TX
  refine ⟨fun c1 => ?_, fun c1 => ?_⟩
  ·
    refine h17 _ _ ?_
    refine ⟨fun c3 => ?_, fun c3 => ?_⟩
    ·
      exact ⟨hT, (show 0 ≤ 5 ∧ 5 ≤ 19 from by (first | omega | (simp only [st_s] <;> omega) | assumption | omega | fail)), (show J_vs (σ.1 6) (σ.1 5) (σ.2.1 15) from TX), (show J_rks (σ.1 5) (σ.1 4) (σ.2.1 10) (σ.2.1 11) from RKS), (show j_rr ((σ.1 5)) (σ.2.1 10) (σ.2.1 10) from by (first | exact j_rr0 _ _ | exact q20_4 | (rw [g10_τ19]; exact j_rr0 _ _) | (rw [g10_τ29, g10_τ_121]; exact j_rr0 _ _) | fail)), (show 5 = 0 → (σ.1 36) = (σ.1 36) + 1 ∧ (σ.1 6) = (σ.1 6) + 1 ∧ σ.2.1 14 ((σ.1 7) + 1) = (σ.1 6) from by (first | (intro z; exfalso; omega) | (intro z; have w := q20_5 z; exact ⟨by omega, by omega, w.2.1⟩) | (intro z; have w := q17_3 z; exact ⟨by omega, by omega, w.2⟩) | (intro _; refine ⟨by omega, by omega, ?_⟩; rw [q27_2, w7_τ29, st_s, q27_1]) | fail)), (show 5 = 0 → 0 ≤ σ.2.1 10 (σ.2.1 15 (σ.2.1 14 (σ.1 7))) from by (first | (intro z; exfalso; omega) | (intro z; exact (q20_5 z).2.2) | (intro z; have a1 := ag.2 (14, 7, 1) (by decide) (σ.1 7) (by show σ.1 7 < σ.1 7 + 1; omega); have a2 := ag.2 (15, 6, 0) (by decide) (σ.2.1 14 (σ.1 7)) (by show σ.2.1 14 (σ.1 7) < σ.1 6 + 0; omega); rw [show τ19.1 7 = σ.1 7 from by omega, show τ19.2.1 14 (σ.1 7) = σ.2.1 14 (σ.1 7) from a1, show τ19.2.1 15 (σ.2.1 14 (σ.1 7)) = σ.2.1 15 (σ.2.1 14 (σ.1 7)) from a2, g10_τ19]; exact p9 (by omega)) | (intro z; have a1 := ag.2 (14, 7, 1) (by decide) (σ.1 7) (by show σ.1 7 < σ.1 7 + 1; omega); have a2 := ag.2 (15, 6, 0) (by decide) (σ.2.1 14 (σ.1 7)) (by show σ.2.1 14 (σ.1 7) < σ.1 6 + 0; omega); rw [show τ29.1 7 = σ.1 7 from by omega, show τ29.2.1 14 (σ.1 7) = σ.2.1 14 (σ.1 7) from a1, show τ29.2.1 15 (σ.2.1 14 (σ.1 7)) = σ.2.1 15 (σ.2.1 14 (σ.1 7)) from a2, g10_τ29, g10_τ_121]; exact p9 (by omega)) | fail)), (show 5 = 0 → (σ.1 37) = 0 → (σ.1 36) ≤ 2 from by (intro z; omega)), (show 5 = 0 → (σ.1 36) ≤ 300 from by (intro z; omega)), (show 5 = 0 → J_ip (σ.1 7) (σ.1 6) (σ.1 37) (σ.2.1 14) (σ.2.1 15) (σ.2.1 16) (σ.2.1 19) from by (first | (intro z; exfalso; omega) | (intro z; exact q20_6 z) | (intro z; exact q17_4 z) | (intro _; exact IPn) | fail)), (show c_Y σ σ from by (first | exact c_Y0 _ | exact q20_7 | exact c_Y_g (by omega) (by rw [g11_τ19]) (by rw [g20_τ19]) (by rw [g22_τ19]) (by rw [g25_τ19]) | exact c_Y_g (by omega) (by rw [g11_τ29, g11_τ_121]) (by rw [g20_τ29, g20_τ_121]) (by rw [g22_τ29, g22_τ_121]) (by rw [g25_τ29, g25_τ_121]) | fail)), ag⟩
    ·
      refine ⟨fun c4 => ?_, fun c4 => ?_⟩
      ·
        refine ⟨(⟨by (first | omega | (simp only [st_s] <;> omega) | assumption | omega | fail), by (first | omega | (simp only [st_s] <;> omega) | assumption | omega | fail)⟩ : rg (σ.1 36 + 1)), ?_⟩
        replace ag := ag_v (i := 36) (x := (σ.1 36 + 1)) ag (Or.inl rfl)
        replace hT := cT_v (i := 36) hT (show 0 ≤ (σ.1 36 + 1) ∧ (σ.1 36 + 1) ≤ 1001 from by (first | omega | (simp only [st_s] <;> omega) | assumption | omega | fail))
        refine ⟨fun c6 => ?_, fun c6 => ?_⟩
        ·
          refine ⟨fun c7 => ?_, fun c7 => ?_⟩
          ·
            refine ⟨_, K_X9_isKnown hT (show -1 ≤ n1 from by (first | omega | (simp only [st_s] <;> omega) | assumption | omega | fail)) (show n1 < 1000 from by (first | omega | (simp only [st_s] <;> omega) | assumption | omega | fail)), ?_⟩
            intro x9 r_x9 hq
            obtain ⟨q8_1, q8_2, q8_3, q8_4⟩ := hq
            replace q8_1 : 0 ≤ x9 ∧ x9 ≤ 1 := q8_1
            replace q8_2 : ¬ x9 = 0 → 0 ≤ n1 := q8_2
            replace q8_3 : ¬ x9 = 0 → σ.2.1 8 n1 = 0 ∨ ¬ σ.2.1 18 n1 = 0 := q8_3
            replace q8_4 : 0 ≤ n1 → (σ.2.1 8 n1 = 0 ∨ ¬ σ.2.1 18 n1 = 0) → ¬ x9 = 0 := q8_4
            refine ⟨fun c11 => ?_, fun c11 => ?_⟩
            ·
              refine ⟨(show 0 ≤ n1 ∧ n1 < 1000 from by (first | omega | (simp only [st_s] <;> omega) | assumption | omega | fail)), ?_⟩
              intro x13 r_x13 e_x13
              have b_x13 : 0 ≤ x13 ∧ x13 ≤ 1 := by rw [e_x13]; exact hT.2 8 _
              refine ⟨fun c14 => ?_, fun c14 => ?_⟩
              ·
                obtain ⟨τ_121, e_τ_121⟩ : ∃ z : S0, z = s_v σ 36 (σ.1 36 + 1) := ⟨_, rfl⟩
                rw [← e_τ_121]
                replace hT : c_T τ_121 := by rw [e_τ_121]; exact hT
                replace ag : c_ag σ τ_121 := by rw [e_τ_121]; exact ag
                have w3_τ_121 : τ_121.1 3 = σ.1 3 := by rw [e_τ_121]; rfl
                have w4_τ_121 : τ_121.1 4 = σ.1 4 := by rw [e_τ_121]; rfl
                have w5_τ_121 : τ_121.1 5 = σ.1 5 := by rw [e_τ_121]; rfl
                have w6_τ_121 : τ_121.1 6 = σ.1 6 := by rw [e_τ_121]; rfl
                have w7_τ_121 : τ_121.1 7 = σ.1 7 := by rw [e_τ_121]; rfl
                have w13_τ_121 : τ_121.1 13 = σ.1 13 := by rw [e_τ_121]; rfl
                have w14_τ_121 : τ_121.1 14 = σ.1 14 := by rw [e_τ_121]; rfl
                have w15_τ_121 : τ_121.1 15 = σ.1 15 := by rw [e_τ_121]; rfl
                have w16_τ_121 : τ_121.1 16 = σ.1 16 := by rw [e_τ_121]; rfl
                have w36_τ_121 : τ_121.1 36 = (σ.1 36 + 1) := by rw [e_τ_121]; rfl
                have w37_τ_121 : τ_121.1 37 = σ.1 37 := by rw [e_τ_121]; rfl
                have g8_τ_121 : τ_121.2.1 8 = σ.2.1 8 := by rw [e_τ_121]; rfl
                have g9_τ_121 : τ_121.2.1 9 = σ.2.1 9 := by rw [e_τ_121]; rfl
                have g10_τ_121 : τ_121.2.1 10 = σ.2.1 10 := by rw [e_τ_121]; rfl
                have g11_τ_121 : τ_121.2.1 11 = σ.2.1 11 := by rw [e_τ_121]; rfl
                have g14_τ_121 : τ_121.2.1 14 = σ.2.1 14 := by rw [e_τ_121]; rfl
                have g15_τ_121 : τ_121.2.1 15 = σ.2.1 15 := by rw [e_τ_121]; rfl
                have g16_τ_121 : τ_121.2.1 16 = σ.2.1 16 := by rw [e_τ_121]; rfl
                have g19_τ_121 : τ_121.2.1 19 = σ.2.1 19 := by rw [e_τ_121]; rfl
                have g20_τ_121 : τ_121.2.1 20 = σ.2.1 20 := by rw [e_τ_121]; rfl
                have g22_τ_121 : τ_121.2.1 22 = σ.2.1 22 := by rw [e_τ_121]; rfl
                have g25_τ_121 : τ_121.2.1 25 = σ.2.1 25 := by rw [e_τ_121]; rfl
                have W3 : τ_121.1 3 = σ.1 3 := by first | exact w3_τ_121.trans W3 | omega
                have W5 : τ_121.1 5 = σ.1 5 := by first | exact w5_τ_121.trans W5 | omega
                have W7 : τ_121.1 7 = σ.1 7 := by first | exact w7_τ_121.trans W7 | omega
                have W13 : τ_121.1 13 = σ.1 13 := by first | exact w13_τ_121.trans W13 | omega
                have W14 : τ_121.1 14 = σ.1 14 := by first | exact w14_τ_121.trans W14 | omega
                have W15 : τ_121.1 15 = σ.1 15 := by first | exact w15_τ_121.trans W15 | omega
                have W16 : τ_121.1 16 = σ.1 16 := by first | exact w16_τ_121.trans W16 | omega
                have W37 : τ_121.1 37 = σ.1 37 := by first | exact w37_τ_121.trans W37 | omega
                have G8 : τ_121.2.1 8 = σ.2.1 8 := (g8_τ_121).trans G8
                have G9 : τ_121.2.1 9 = σ.2.1 9 := (g9_τ_121).trans G9
                have G19 : τ_121.2.1 19 = σ.2.1 19 := (g19_τ_121).trans G19
                have G20 : τ_121.2.1 20 = σ.2.1 20 := (g20_τ_121).trans G20
                have G22 : τ_121.2.1 22 = σ.2.1 22 := (g22_τ_121).trans G22
                have G25 : τ_121.2.1 25 = σ.2.1 25 := (g25_τ_121).trans G25
                have y14_7_τ_121 : τ_121.2.1 14 (τ_121.1 7) = (σ.2.1 14) (σ.1 7) := by rw [g14_τ_121, w7_τ_121]
                have TX : J_vs (τ_121.1 6) (τ_121.1 5) (τ_121.2.1 15) := by rw [show (J_vs (τ_121.1 6) (τ_121.1 5) (τ_121.2.1 15)) = (J_vs (σ.1 6) (σ.1 5) (σ.2.1 15)) from by rw [w5_τ_121, w6_τ_121, g15_τ_121]]; exact TX
                have RKS : J_rks (τ_121.1 5) (τ_121.1 4) (τ_121.2.1 10) (τ_121.2.1 11) := by rw [show (J_rks (τ_121.1 5) (τ_121.1 4) (τ_121.2.1 10) (τ_121.2.1 11)) = (J_rks (σ.1 5) (σ.1 4) (σ.2.1 10) (σ.2.1 11)) from by rw [w4_τ_121, w5_τ_121, g10_τ_121, g11_τ_121]]; exact RKS
                have IP : J_ip (τ_121.1 7) (τ_121.1 6) (τ_121.1 37) (τ_121.2.1 14) (τ_121.2.1 15) (τ_121.2.1 16) (τ_121.2.1 19) := by rw [show (J_ip (τ_121.1 7) (τ_121.1 6) (τ_121.1 37) (τ_121.2.1 14) (τ_121.2.1 15) (τ_121.2.1 16) (τ_121.2.1 19)) = (J_ip (σ.1 7) (σ.1 6) (σ.1 37) (σ.2.1 14) (σ.2.1 15) (σ.2.1 16) (σ.2.1 19)) from by rw [w6_τ_121, w7_τ_121, w37_τ_121, g14_τ_121, g15_τ_121, g16_τ_121, g19_τ_121]]; exact IP
                have A8 : ∀ j, 0 ≤ τ_121.2.1 8 j ∧ τ_121.2.1 8 j ≤ 1 := fun j => hT.2 8 j
                have A9 : ∀ j, (-1) ≤ τ_121.2.1 9 j ∧ τ_121.2.1 9 j ≤ 1499 := fun j => hT.2 9 j
                have A10 : ∀ j, (-1) ≤ τ_121.2.1 10 j ∧ τ_121.2.1 10 j ≤ 99 := fun j => hT.2 10 j
                have A11 : ∀ j, 0 ≤ τ_121.2.1 11 j ∧ τ_121.2.1 11 j ≤ 999 := fun j => hT.2 11 j
                have A14 : ∀ j, 0 ≤ τ_121.2.1 14 j ∧ τ_121.2.1 14 j ≤ 30000 := fun j => hT.2 14 j
                have A15 : ∀ j, 0 ≤ τ_121.2.1 15 j ∧ τ_121.2.1 15 j ≤ 999 := fun j => hT.2 15 j
                have A16 : ∀ j, (-1) ≤ τ_121.2.1 16 j ∧ τ_121.2.1 16 j ≤ 1499 := fun j => hT.2 16 j
                have A19 : ∀ j, (-1) ≤ τ_121.2.1 19 j ∧ τ_121.2.1 19 j ≤ 1499 := fun j => hT.2 19 j
                have A20 : ∀ j, 0 ≤ τ_121.2.1 20 j ∧ τ_121.2.1 20 j ≤ 999 := fun j => hT.2 20 j
                have A22 : ∀ j, 0 ≤ τ_121.2.1 22 j ∧ τ_121.2.1 22 j ≤ 1499 := fun j => hT.2 22 j
                have v3 : 0 ≤ τ_121.1 3 ∧ τ_121.1 3 ≤ 2500 := hT.1 3
                have v4 : 0 ≤ τ_121.1 4 ∧ τ_121.1 4 ≤ 100 := hT.1 4
                have v5 : 0 ≤ τ_121.1 5 ∧ τ_121.1 5 ≤ 1000 := hT.1 5
                have v6 : 0 ≤ τ_121.1 6 ∧ τ_121.1 6 ≤ 30000 := hT.1 6
                have v7 : 0 ≤ τ_121.1 7 ∧ τ_121.1 7 ≤ 1500 := hT.1 7
                have v13 : 0 ≤ τ_121.1 13 ∧ τ_121.1 13 ≤ 90000 := hT.1 13
                have v14 : 0 ≤ τ_121.1 14 ∧ τ_121.1 14 ≤ 20000 := hT.1 14
                have v15 : 0 ≤ τ_121.1 15 ∧ τ_121.1 15 ≤ 20000 := hT.1 15
                have v16 : 0 ≤ τ_121.1 16 ∧ τ_121.1 16 ≤ 20000 := hT.1 16
                have v36 : 0 ≤ τ_121.1 36 ∧ τ_121.1 36 ≤ 1001 := hT.1 36
                have v37 : 0 ≤ τ_121.1 37 ∧ τ_121.1 37 ≤ 4 := hT.1 37
                have a14_7 : 0 ≤ τ_121.2.1 14 (τ_121.1 7) ∧ τ_121.2.1 14 (τ_121.1 7) ≤ 30000 := hT.2 14 _
                have av6 : σ.1 6 ≤ τ_121.1 6 := ag.1 6 (by decide)
                refine h121 _ _ ?_
                refine ⟨(show 0 ≤ n1 ∧ n1 < 1000 from by (first | omega | (simp only [st_s] <;> omega) | assumption | omega | fail)), ?_⟩
                intro x24 r_x24 e_x24
                have b_x24 : 0 ≤ x24 ∧ x24 ≤ 1 := by rw [e_x24]; exact hT.2 8 _
                have e24b : x24 = x13 := by rw [e_x24, g8_τ_121, e_x13]
                refine ⟨fun c25 => ?_, fun c25 => ?_⟩
                ·
                  refine h151 _ _ _ ?_
                  refine ⟨_, K2_X3_append hT (show 0 ≤ n1 from by (first | omega | (simp only [st_s] <;> omega) | assumption | omega | fail)) (show n1 < 1000 from by (first | omega | (simp only [st_s] <;> omega) | assumption | omega | fail)) (show -1 ≤ (-1 : Int) from by (first | omega | (simp only [st_s] <;> omega) | assumption | omega | fail)) (show (-1 : Int) < 1500 from by (first | omega | (simp only [st_s] <;> omega) | assumption | omega | fail)) (show (τ_121.1 6) < 30000 from by (first | omega | (simp only [st_s] <;> omega) | assumption | omega | fail)) (show (τ_121.1 7) < 1500 from by (first | omega | (simp only [st_s] <;> omega) | assumption | omega | fail)), ?_⟩
                  intro τ29 hn_τ29 hf_τ29 hq
                  obtain ⟨hT, q27_1, q27_2, q27_3, q27_4, q27_5⟩ := hq
                  replace q27_1 : (τ29.1 6) = (τ_121.1 6) + 1 := q27_1
                  replace q27_2 : τ29.2.1 14 = st (τ_121.2.1 14) ((τ_121.1 7) + 1) ((τ_121.1 6) + 1) := q27_2
                  replace q27_3 : τ29.2.1 15 = st (τ_121.2.1 15) (τ_121.1 6) n1 := q27_3
                  replace q27_4 : τ29.2.1 16 = st (τ_121.2.1 16) (τ_121.1 6) (-1 : Int) := q27_4
                  replace q27_5 : c_ag τ_121 τ29 := q27_5
                  replace ag : c_ag σ τ29 := ag_t ag q27_5 rfl
                  have w3_τ29 : τ29.1 3 = τ_121.1 3 := hf_τ29.1 3 (by decide)
                  have w4_τ29 : τ29.1 4 = τ_121.1 4 := hf_τ29.1 4 (by decide)
                  have w5_τ29 : τ29.1 5 = τ_121.1 5 := hf_τ29.1 5 (by decide)
                  have w7_τ29 : τ29.1 7 = τ_121.1 7 := hf_τ29.1 7 (by decide)
                  have w13_τ29 : τ29.1 13 = τ_121.1 13 := hf_τ29.1 13 (by decide)
                  have w14_τ29 : τ29.1 14 = τ_121.1 14 := hf_τ29.1 14 (by decide)
                  have w15_τ29 : τ29.1 15 = τ_121.1 15 := hf_τ29.1 15 (by decide)
                  have w16_τ29 : τ29.1 16 = τ_121.1 16 := hf_τ29.1 16 (by decide)
                  have w36_τ29 : τ29.1 36 = τ_121.1 36 := hf_τ29.1 36 (by decide)
                  have w37_τ29 : τ29.1 37 = τ_121.1 37 := hf_τ29.1 37 (by decide)
                  have g8_τ29 : τ29.2.1 8 = τ_121.2.1 8 := hf_τ29.2.1 8 (by decide)
                  have g9_τ29 : τ29.2.1 9 = τ_121.2.1 9 := hf_τ29.2.1 9 (by decide)
                  have g10_τ29 : τ29.2.1 10 = τ_121.2.1 10 := hf_τ29.2.1 10 (by decide)
                  have g11_τ29 : τ29.2.1 11 = τ_121.2.1 11 := hf_τ29.2.1 11 (by decide)
                  have g19_τ29 : τ29.2.1 19 = τ_121.2.1 19 := hf_τ29.2.1 19 (by decide)
                  have g20_τ29 : τ29.2.1 20 = τ_121.2.1 20 := hf_τ29.2.1 20 (by decide)
                  have g22_τ29 : τ29.2.1 22 = τ_121.2.1 22 := hf_τ29.2.1 22 (by decide)
                  have g25_τ29 : τ29.2.1 25 = τ_121.2.1 25 := hf_τ29.2.1 25 (by decide)
                  have W3 : τ29.1 3 = σ.1 3 := by first | exact w3_τ29.trans W3 | omega
                  have W5 : τ29.1 5 = σ.1 5 := by first | exact w5_τ29.trans W5 | omega
                  have W7 : τ29.1 7 = σ.1 7 := by first | exact w7_τ29.trans W7 | omega
                  have W13 : τ29.1 13 = σ.1 13 := by first | exact w13_τ29.trans W13 | omega
                  have W14 : τ29.1 14 = σ.1 14 := by first | exact w14_τ29.trans W14 | omega
                  have W15 : τ29.1 15 = σ.1 15 := by first | exact w15_τ29.trans W15 | omega
                  have W16 : τ29.1 16 = σ.1 16 := by first | exact w16_τ29.trans W16 | omega
                  have W37 : τ29.1 37 = σ.1 37 := by first | exact w37_τ29.trans W37 | omega
                  have G8 : τ29.2.1 8 = σ.2.1 8 := (g8_τ29).trans G8
                  have G9 : τ29.2.1 9 = σ.2.1 9 := (g9_τ29).trans G9
                  have G19 : τ29.2.1 19 = σ.2.1 19 := (g19_τ29).trans G19
                  have G20 : τ29.2.1 20 = σ.2.1 20 := (g20_τ29).trans G20
                  have G22 : τ29.2.1 22 = σ.2.1 22 := (g22_τ29).trans G22
                  have G25 : τ29.2.1 25 = σ.2.1 25 := (g25_τ29).trans G25
                  have RKS : J_rks (τ29.1 5) (τ29.1 4) (τ29.2.1 10) (τ29.2.1 11) := by rw [show (J_rks (τ29.1 5) (τ29.1 4) (τ29.2.1 10) (τ29.2.1 11)) = (J_rks (τ_121.1 5) (τ_121.1 4) (τ_121.2.1 10) (τ_121.2.1 11)) from by rw [w4_τ29, w5_τ29, g10_τ29, g11_τ29]]; exact RKS
                  have A8 : ∀ j, 0 ≤ τ29.2.1 8 j ∧ τ29.2.1 8 j ≤ 1 := fun j => hT.2 8 j
                  have A9 : ∀ j, (-1) ≤ τ29.2.1 9 j ∧ τ29.2.1 9 j ≤ 1499 := fun j => hT.2 9 j
                  have A10 : ∀ j, (-1) ≤ τ29.2.1 10 j ∧ τ29.2.1 10 j ≤ 99 := fun j => hT.2 10 j
                  have A11 : ∀ j, 0 ≤ τ29.2.1 11 j ∧ τ29.2.1 11 j ≤ 999 := fun j => hT.2 11 j
                  have A14 : ∀ j, 0 ≤ τ29.2.1 14 j ∧ τ29.2.1 14 j ≤ 30000 := fun j => hT.2 14 j
                  have A15 : ∀ j, 0 ≤ τ29.2.1 15 j ∧ τ29.2.1 15 j ≤ 999 := fun j => hT.2 15 j
                  have A16 : ∀ j, (-1) ≤ τ29.2.1 16 j ∧ τ29.2.1 16 j ≤ 1499 := fun j => hT.2 16 j
                  have A19 : ∀ j, (-1) ≤ τ29.2.1 19 j ∧ τ29.2.1 19 j ≤ 1499 := fun j => hT.2 19 j
                  have A20 : ∀ j, 0 ≤ τ29.2.1 20 j ∧ τ29.2.1 20 j ≤ 999 := fun j => hT.2 20 j
                  have A22 : ∀ j, 0 ≤ τ29.2.1 22 j ∧ τ29.2.1 22 j ≤ 1499 := fun j => hT.2 22 j
                  have v3 : 0 ≤ τ29.1 3 ∧ τ29.1 3 ≤ 2500 := hT.1 3
                  have v4 : 0 ≤ τ29.1 4 ∧ τ29.1 4 ≤ 100 := hT.1 4
                  have v5 : 0 ≤ τ29.1 5 ∧ τ29.1 5 ≤ 1000 := hT.1 5
                  have v6 : 0 ≤ τ29.1 6 ∧ τ29.1 6 ≤ 30000 := hT.1 6
                  have v7 : 0 ≤ τ29.1 7 ∧ τ29.1 7 ≤ 1500 := hT.1 7
                  have v13 : 0 ≤ τ29.1 13 ∧ τ29.1 13 ≤ 90000 := hT.1 13
                  have v14 : 0 ≤ τ29.1 14 ∧ τ29.1 14 ≤ 20000 := hT.1 14
                  have v15 : 0 ≤ τ29.1 15 ∧ τ29.1 15 ≤ 20000 := hT.1 15
                  have v16 : 0 ≤ τ29.1 16 ∧ τ29.1 16 ≤ 20000 := hT.1 16
                  have v36 : 0 ≤ τ29.1 36 ∧ τ29.1 36 ≤ 1001 := hT.1 36
                  have v37 : 0 ≤ τ29.1 37 ∧ τ29.1 37 ≤ 4 := hT.1 37
                  have a14_7 : 0 ≤ τ29.2.1 14 (τ29.1 7) ∧ τ29.2.1 14 (τ29.1 7) ≤ 30000 := hT.2 14 _
                  have av6 : σ.1 6 ≤ τ29.1 6 := ag.1 6 (by decide)
                  have TX : J_vs (τ29.1 6) (τ29.1 5) (τ29.2.1 15) := by rw [q27_1, q27_3, w5_τ29]; exact J_vs_a TX (Int.le_refl _) (by omega)
                  have IPn : J_ip (τ29.1 7) (τ29.1 6) (τ29.1 37) (τ29.2.1 14) (τ29.2.1 15) (τ29.2.1 16) (τ29.2.1 19) := by rw [q27_1, q27_2, q27_3, q27_4, w7_τ29, w37_τ29, g19_τ29, w6_τ_121, w7_τ_121, w37_τ_121, g14_τ_121, g15_τ_121, g16_τ_121, g19_τ_121]; exact J_ip_a IP_0 (st_n _ _ (by omega)) (by first | exact Or.inl rfl | (refine Or.inr (Or.inl ⟨?_, ?_⟩); omega; rw [e_x26, g19_τ_121])) (fun z => by exfalso; omega) (fun z => by first | rfl | (exfalso; omega))
                  exact ⟨hT, (show 0 ≤ 0 ∧ 0 ≤ 19 from by (first | omega | (simp only [st_s] <;> omega) | assumption | omega | fail)), (show J_vs (τ29.1 6) (τ29.1 5) (τ29.2.1 15) from TX), (show J_rks (τ29.1 5) (τ29.1 4) (τ29.2.1 10) (τ29.2.1 11) from RKS), (show j_rr ((σ.1 5)) (σ.2.1 10) (τ29.2.1 10) from by (first | exact j_rr0 _ _ | exact q20_4 | (rw [g10_τ19]; exact j_rr0 _ _) | (rw [g10_τ29, g10_τ_121]; exact j_rr0 _ _) | fail)), (show 0 = 0 → (τ29.1 36) = (σ.1 36) + 1 ∧ (τ29.1 6) = (σ.1 6) + 1 ∧ τ29.2.1 14 ((τ29.1 7) + 1) = (τ29.1 6) from by (first | (intro z; exfalso; omega) | (intro z; have w := q20_5 z; exact ⟨by omega, by omega, w.2.1⟩) | (intro z; have w := q17_3 z; exact ⟨by omega, by omega, w.2⟩) | (intro _; refine ⟨by omega, by omega, ?_⟩; rw [q27_2, w7_τ29, st_s, q27_1]) | fail)), (show 0 = 0 → 0 ≤ τ29.2.1 10 (τ29.2.1 15 (τ29.2.1 14 (τ29.1 7))) from by (first | (intro z; exfalso; omega) | (intro z; exact (q20_5 z).2.2) | (intro z; have a1 := ag.2 (14, 7, 1) (by decide) (σ.1 7) (by show σ.1 7 < σ.1 7 + 1; omega); have a2 := ag.2 (15, 6, 0) (by decide) (σ.2.1 14 (σ.1 7)) (by show σ.2.1 14 (σ.1 7) < σ.1 6 + 0; omega); rw [show τ19.1 7 = σ.1 7 from by omega, show τ19.2.1 14 (σ.1 7) = σ.2.1 14 (σ.1 7) from a1, show τ19.2.1 15 (σ.2.1 14 (σ.1 7)) = σ.2.1 15 (σ.2.1 14 (σ.1 7)) from a2, g10_τ19]; exact p9 (by omega)) | (intro z; have a1 := ag.2 (14, 7, 1) (by decide) (σ.1 7) (by show σ.1 7 < σ.1 7 + 1; omega); have a2 := ag.2 (15, 6, 0) (by decide) (σ.2.1 14 (σ.1 7)) (by show σ.2.1 14 (σ.1 7) < σ.1 6 + 0; omega); rw [show τ29.1 7 = σ.1 7 from by omega, show τ29.2.1 14 (σ.1 7) = σ.2.1 14 (σ.1 7) from a1, show τ29.2.1 15 (σ.2.1 14 (σ.1 7)) = σ.2.1 15 (σ.2.1 14 (σ.1 7)) from a2, g10_τ29, g10_τ_121]; exact p9 (by omega)) | fail)), (show 0 = 0 → (σ.1 37) = 0 → (τ29.1 36) ≤ 2 from by (intro z; omega)), (show 0 = 0 → (τ29.1 36) ≤ 300 from by (intro z; omega)), (show 0 = 0 → J_ip (τ29.1 7) (τ29.1 6) (τ29.1 37) (τ29.2.1 14) (τ29.2.1 15) (τ29.2.1 16) (τ29.2.1 19) from by (first | (intro z; exfalso; omega) | (intro z; exact q20_6 z) | (intro z; exact q17_4 z) | (intro _; exact IPn) | fail)), (show c_Y σ τ29 from by (first | exact c_Y0 _ | exact q20_7 | exact c_Y_g (by omega) (by rw [g11_τ19]) (by rw [g20_τ19]) (by rw [g22_τ19]) (by rw [g25_τ19]) | exact c_Y_g (by omega) (by rw [g11_τ29, g11_τ_121]) (by rw [g20_τ29, g20_τ_121]) (by rw [g22_τ29, g22_τ_121]) (by rw [g25_τ29, g25_τ_121]) | fail)), ag⟩
                ·
                  intro x26 r_x26 e_x26
                  have b_x26 : (-1) ≤ x26 ∧ x26 ≤ 1499 := by rw [e_x26]; exact hT.2 19 _
                  first | (have e26b : x26 = x15 := by rw [e_x26, g19_τ_121, e_x15]) | skip
                  refine h151 _ _ _ ?_
                  refine ⟨_, K2_X3_append hT (show 0 ≤ n1 from by (first | omega | (simp only [st_s] <;> omega) | assumption | omega | fail)) (show n1 < 1000 from by (first | omega | (simp only [st_s] <;> omega) | assumption | omega | fail)) (show -1 ≤ x26 from by (first | omega | (simp only [st_s] <;> omega) | assumption | omega | fail)) (show x26 < 1500 from by (first | omega | (simp only [st_s] <;> omega) | assumption | omega | fail)) (show (τ_121.1 6) < 30000 from by (first | omega | (simp only [st_s] <;> omega) | assumption | omega | fail)) (show (τ_121.1 7) < 1500 from by (first | omega | (simp only [st_s] <;> omega) | assumption | omega | fail)), ?_⟩
                  intro τ29 hn_τ29 hf_τ29 hq
                  obtain ⟨hT, q27_1, q27_2, q27_3, q27_4, q27_5⟩ := hq
                  replace q27_1 : (τ29.1 6) = (τ_121.1 6) + 1 := q27_1
                  replace q27_2 : τ29.2.1 14 = st (τ_121.2.1 14) ((τ_121.1 7) + 1) ((τ_121.1 6) + 1) := q27_2
                  replace q27_3 : τ29.2.1 15 = st (τ_121.2.1 15) (τ_121.1 6) n1 := q27_3
                  replace q27_4 : τ29.2.1 16 = st (τ_121.2.1 16) (τ_121.1 6) x26 := q27_4
                  replace q27_5 : c_ag τ_121 τ29 := q27_5
                  replace ag : c_ag σ τ29 := ag_t ag q27_5 rfl
                  have w3_τ29 : τ29.1 3 = τ_121.1 3 := hf_τ29.1 3 (by decide)
                  have w4_τ29 : τ29.1 4 = τ_121.1 4 := hf_τ29.1 4 (by decide)
                  have w5_τ29 : τ29.1 5 = τ_121.1 5 := hf_τ29.1 5 (by decide)
                  have w7_τ29 : τ29.1 7 = τ_121.1 7 := hf_τ29.1 7 (by decide)
                  have w13_τ29 : τ29.1 13 = τ_121.1 13 := hf_τ29.1 13 (by decide)
                  have w14_τ29 : τ29.1 14 = τ_121.1 14 := hf_τ29.1 14 (by decide)
                  have w15_τ29 : τ29.1 15 = τ_121.1 15 := hf_τ29.1 15 (by decide)
                  have w16_τ29 : τ29.1 16 = τ_121.1 16 := hf_τ29.1 16 (by decide)
                  have w36_τ29 : τ29.1 36 = τ_121.1 36 := hf_τ29.1 36 (by decide)
                  have w37_τ29 : τ29.1 37 = τ_121.1 37 := hf_τ29.1 37 (by decide)
                  have g8_τ29 : τ29.2.1 8 = τ_121.2.1 8 := hf_τ29.2.1 8 (by decide)
                  have g9_τ29 : τ29.2.1 9 = τ_121.2.1 9 := hf_τ29.2.1 9 (by decide)
                  have g10_τ29 : τ29.2.1 10 = τ_121.2.1 10 := hf_τ29.2.1 10 (by decide)
                  have g11_τ29 : τ29.2.1 11 = τ_121.2.1 11 := hf_τ29.2.1 11 (by decide)
                  have g19_τ29 : τ29.2.1 19 = τ_121.2.1 19 := hf_τ29.2.1 19 (by decide)
                  have g20_τ29 : τ29.2.1 20 = τ_121.2.1 20 := hf_τ29.2.1 20 (by decide)
                  have g22_τ29 : τ29.2.1 22 = τ_121.2.1 22 := hf_τ29.2.1 22 (by decide)
                  have g25_τ29 : τ29.2.1 25 = τ_121.2.1 25 := hf_τ29.2.1 25 (by decide)
                  have W3 : τ29.1 3 = σ.1 3 := by first | exact w3_τ29.trans W3 | omega
                  have W5 : τ29.1 5 = σ.1 5 := by first | exact w5_τ29.trans W5 | omega
                  have W7 : τ29.1 7 = σ.1 7 := by first | exact w7_τ29.trans W7 | omega
                  have W13 : τ29.1 13 = σ.1 13 := by first | exact w13_τ29.trans W13 | omega
                  have W14 : τ29.1 14 = σ.1 14 := by first | exact w14_τ29.trans W14 | omega
                  have W15 : τ29.1 15 = σ.1 15 := by first | exact w15_τ29.trans W15 | omega
                  have W16 : τ29.1 16 = σ.1 16 := by first | exact w16_τ29.trans W16 | omega
                  have W37 : τ29.1 37 = σ.1 37 := by first | exact w37_τ29.trans W37 | omega
                  have G8 : τ29.2.1 8 = σ.2.1 8 := (g8_τ29).trans G8
                  have G9 : τ29.2.1 9 = σ.2.1 9 := (g9_τ29).trans G9
                  have G19 : τ29.2.1 19 = σ.2.1 19 := (g19_τ29).trans G19
                  have G20 : τ29.2.1 20 = σ.2.1 20 := (g20_τ29).trans G20
                  have G22 : τ29.2.1 22 = σ.2.1 22 := (g22_τ29).trans G22
                  have G25 : τ29.2.1 25 = σ.2.1 25 := (g25_τ29).trans G25
                  have RKS : J_rks (τ29.1 5) (τ29.1 4) (τ29.2.1 10) (τ29.2.1 11) := by rw [show (J_rks (τ29.1 5) (τ29.1 4) (τ29.2.1 10) (τ29.2.1 11)) = (J_rks (τ_121.1 5) (τ_121.1 4) (τ_121.2.1 10) (τ_121.2.1 11)) from by rw [w4_τ29, w5_τ29, g10_τ29, g11_τ29]]; exact RKS
                  have A8 : ∀ j, 0 ≤ τ29.2.1 8 j ∧ τ29.2.1 8 j ≤ 1 := fun j => hT.2 8 j
                  have A9 : ∀ j, (-1) ≤ τ29.2.1 9 j ∧ τ29.2.1 9 j ≤ 1499 := fun j => hT.2 9 j
                  have A10 : ∀ j, (-1) ≤ τ29.2.1 10 j ∧ τ29.2.1 10 j ≤ 99 := fun j => hT.2 10 j
                  have A11 : ∀ j, 0 ≤ τ29.2.1 11 j ∧ τ29.2.1 11 j ≤ 999 := fun j => hT.2 11 j
                  have A14 : ∀ j, 0 ≤ τ29.2.1 14 j ∧ τ29.2.1 14 j ≤ 30000 := fun j => hT.2 14 j
                  have A15 : ∀ j, 0 ≤ τ29.2.1 15 j ∧ τ29.2.1 15 j ≤ 999 := fun j => hT.2 15 j
                  have A16 : ∀ j, (-1) ≤ τ29.2.1 16 j ∧ τ29.2.1 16 j ≤ 1499 := fun j => hT.2 16 j
                  have A19 : ∀ j, (-1) ≤ τ29.2.1 19 j ∧ τ29.2.1 19 j ≤ 1499 := fun j => hT.2 19 j
                  have A20 : ∀ j, 0 ≤ τ29.2.1 20 j ∧ τ29.2.1 20 j ≤ 999 := fun j => hT.2 20 j
                  have A22 : ∀ j, 0 ≤ τ29.2.1 22 j ∧ τ29.2.1 22 j ≤ 1499 := fun j => hT.2 22 j
                  have v3 : 0 ≤ τ29.1 3 ∧ τ29.1 3 ≤ 2500 := hT.1 3
                  have v4 : 0 ≤ τ29.1 4 ∧ τ29.1 4 ≤ 100 := hT.1 4
                  have v5 : 0 ≤ τ29.1 5 ∧ τ29.1 5 ≤ 1000 := hT.1 5
                  have v6 : 0 ≤ τ29.1 6 ∧ τ29.1 6 ≤ 30000 := hT.1 6
                  have v7 : 0 ≤ τ29.1 7 ∧ τ29.1 7 ≤ 1500 := hT.1 7
                  have v13 : 0 ≤ τ29.1 13 ∧ τ29.1 13 ≤ 90000 := hT.1 13
                  have v14 : 0 ≤ τ29.1 14 ∧ τ29.1 14 ≤ 20000 := hT.1 14
                  have v15 : 0 ≤ τ29.1 15 ∧ τ29.1 15 ≤ 20000 := hT.1 15
                  have v16 : 0 ≤ τ29.1 16 ∧ τ29.1 16 ≤ 20000 := hT.1 16
                  have v36 : 0 ≤ τ29.1 36 ∧ τ29.1 36 ≤ 1001 := hT.1 36
                  have v37 : 0 ≤ τ29.1 37 ∧ τ29.1 37 ≤ 4 := hT.1 37
                  have a14_7 : 0 ≤ τ29.2.1 14 (τ29.1 7) ∧ τ29.2.1 14 (τ29.1 7) ≤ 30000 := hT.2 14 _
                  have av6 : σ.1 6 ≤ τ29.1 6 := ag.1 6 (by decide)
                  have TX : J_vs (τ29.1 6) (τ29.1 5) (τ29.2.1 15) := by rw [q27_1, q27_3, w5_τ29]; exact J_vs_a TX (Int.le_refl _) (by omega)
                  have IPn : J_ip (τ29.1 7) (τ29.1 6) (τ29.1 37) (τ29.2.1 14) (τ29.2.1 15) (τ29.2.1 16) (τ29.2.1 19) := by rw [q27_1, q27_2, q27_3, q27_4, w7_τ29, w37_τ29, g19_τ29, w6_τ_121, w7_τ_121, w37_τ_121, g14_τ_121, g15_τ_121, g16_τ_121, g19_τ_121]; exact J_ip_a IP_0 (st_n _ _ (by omega)) (by first | exact Or.inl rfl | (refine Or.inr (Or.inl ⟨?_, ?_⟩); omega; rw [e_x26, g19_τ_121])) (fun z => by exfalso; omega) (fun z => by first | rfl | (exfalso; omega))
                  exact ⟨hT, (show 0 ≤ 0 ∧ 0 ≤ 19 from by (first | omega | (simp only [st_s] <;> omega) | assumption | omega | fail)), (show J_vs (τ29.1 6) (τ29.1 5) (τ29.2.1 15) from TX), (show J_rks (τ29.1 5) (τ29.1 4) (τ29.2.1 10) (τ29.2.1 11) from RKS), (show j_rr ((σ.1 5)) (σ.2.1 10) (τ29.2.1 10) from by (first | exact j_rr0 _ _ | exact q20_4 | (rw [g10_τ19]; exact j_rr0 _ _) | (rw [g10_τ29, g10_τ_121]; exact j_rr0 _ _) | fail)), (show 0 = 0 → (τ29.1 36) = (σ.1 36) + 1 ∧ (τ29.1 6) = (σ.1 6) + 1 ∧ τ29.2.1 14 ((τ29.1 7) + 1) = (τ29.1 6) from by (first | (intro z; exfalso; omega) | (intro z; have w := q20_5 z; exact ⟨by omega, by omega, w.2.1⟩) | (intro z; have w := q17_3 z; exact ⟨by omega, by omega, w.2⟩) | (intro _; refine ⟨by omega, by omega, ?_⟩; rw [q27_2, w7_τ29, st_s, q27_1]) | fail)), (show 0 = 0 → 0 ≤ τ29.2.1 10 (τ29.2.1 15 (τ29.2.1 14 (τ29.1 7))) from by (first | (intro z; exfalso; omega) | (intro z; exact (q20_5 z).2.2) | (intro z; have a1 := ag.2 (14, 7, 1) (by decide) (σ.1 7) (by show σ.1 7 < σ.1 7 + 1; omega); have a2 := ag.2 (15, 6, 0) (by decide) (σ.2.1 14 (σ.1 7)) (by show σ.2.1 14 (σ.1 7) < σ.1 6 + 0; omega); rw [show τ19.1 7 = σ.1 7 from by omega, show τ19.2.1 14 (σ.1 7) = σ.2.1 14 (σ.1 7) from a1, show τ19.2.1 15 (σ.2.1 14 (σ.1 7)) = σ.2.1 15 (σ.2.1 14 (σ.1 7)) from a2, g10_τ19]; exact p9 (by omega)) | (intro z; have a1 := ag.2 (14, 7, 1) (by decide) (σ.1 7) (by show σ.1 7 < σ.1 7 + 1; omega); have a2 := ag.2 (15, 6, 0) (by decide) (σ.2.1 14 (σ.1 7)) (by show σ.2.1 14 (σ.1 7) < σ.1 6 + 0; omega); rw [show τ29.1 7 = σ.1 7 from by omega, show τ29.2.1 14 (σ.1 7) = σ.2.1 14 (σ.1 7) from a1, show τ29.2.1 15 (σ.2.1 14 (σ.1 7)) = σ.2.1 15 (σ.2.1 14 (σ.1 7)) from a2, g10_τ29, g10_τ_121]; exact p9 (by omega)) | fail)), (show 0 = 0 → (σ.1 37) = 0 → (τ29.1 36) ≤ 2 from by (intro z; omega)), (show 0 = 0 → (τ29.1 36) ≤ 300 from by (intro z; omega)), (show 0 = 0 → J_ip (τ29.1 7) (τ29.1 6) (τ29.1 37) (τ29.2.1 14) (τ29.2.1 15) (τ29.2.1 16) (τ29.2.1 19) from by (first | (intro z; exfalso; omega) | (intro z; exact q20_6 z) | (intro z; exact q17_4 z) | (intro _; exact IPn) | fail)), (show c_Y σ τ29 from by (first | exact c_Y0 _ | exact q20_7 | exact c_Y_g (by omega) (by rw [g11_τ19]) (by rw [g20_τ19]) (by rw [g22_τ19]) (by rw [g25_τ19]) | exact c_Y_g (by omega) (by rw [g11_τ29, g11_τ_121]) (by rw [g20_τ29, g20_τ_121]) (by rw [g22_τ29, g22_τ_121]) (by rw [g25_τ29, g25_τ_121]) | fail)), ag⟩
              ·
                intro x15 r_x15 e_x15
                have b_x15 : (-1) ≤ x15 ∧ x15 ≤ 1499 := by rw [e_x15]; exact hT.2 19 _
                refine ⟨fun c16 => ?_, fun c16 => ?_⟩
                ·
                  obtain ⟨τ_121, e_τ_121⟩ : ∃ z : S0, z = s_v σ 36 (σ.1 36 + 1) := ⟨_, rfl⟩
                  rw [← e_τ_121]
                  replace hT : c_T τ_121 := by rw [e_τ_121]; exact hT
                  replace ag : c_ag σ τ_121 := by rw [e_τ_121]; exact ag
                  have w3_τ_121 : τ_121.1 3 = σ.1 3 := by rw [e_τ_121]; rfl
                  have w4_τ_121 : τ_121.1 4 = σ.1 4 := by rw [e_τ_121]; rfl
                  have w5_τ_121 : τ_121.1 5 = σ.1 5 := by rw [e_τ_121]; rfl
                  have w6_τ_121 : τ_121.1 6 = σ.1 6 := by rw [e_τ_121]; rfl
                  have w7_τ_121 : τ_121.1 7 = σ.1 7 := by rw [e_τ_121]; rfl
                  have w13_τ_121 : τ_121.1 13 = σ.1 13 := by rw [e_τ_121]; rfl
                  have w14_τ_121 : τ_121.1 14 = σ.1 14 := by rw [e_τ_121]; rfl
                  have w15_τ_121 : τ_121.1 15 = σ.1 15 := by rw [e_τ_121]; rfl
                  have w16_τ_121 : τ_121.1 16 = σ.1 16 := by rw [e_τ_121]; rfl
                  have w36_τ_121 : τ_121.1 36 = (σ.1 36 + 1) := by rw [e_τ_121]; rfl
                  have w37_τ_121 : τ_121.1 37 = σ.1 37 := by rw [e_τ_121]; rfl
                  have g8_τ_121 : τ_121.2.1 8 = σ.2.1 8 := by rw [e_τ_121]; rfl
                  have g9_τ_121 : τ_121.2.1 9 = σ.2.1 9 := by rw [e_τ_121]; rfl
                  have g10_τ_121 : τ_121.2.1 10 = σ.2.1 10 := by rw [e_τ_121]; rfl
                  have g11_τ_121 : τ_121.2.1 11 = σ.2.1 11 := by rw [e_τ_121]; rfl
                  have g14_τ_121 : τ_121.2.1 14 = σ.2.1 14 := by rw [e_τ_121]; rfl
                  have g15_τ_121 : τ_121.2.1 15 = σ.2.1 15 := by rw [e_τ_121]; rfl
                  have g16_τ_121 : τ_121.2.1 16 = σ.2.1 16 := by rw [e_τ_121]; rfl
                  have g19_τ_121 : τ_121.2.1 19 = σ.2.1 19 := by rw [e_τ_121]; rfl
                  have g20_τ_121 : τ_121.2.1 20 = σ.2.1 20 := by rw [e_τ_121]; rfl
                  have g22_τ_121 : τ_121.2.1 22 = σ.2.1 22 := by rw [e_τ_121]; rfl
                  have g25_τ_121 : τ_121.2.1 25 = σ.2.1 25 := by rw [e_τ_121]; rfl
                  have W3 : τ_121.1 3 = σ.1 3 := by first | exact w3_τ_121.trans W3 | omega
                  have W5 : τ_121.1 5 = σ.1 5 := by first | exact w5_τ_121.trans W5 | omega
                  have W7 : τ_121.1 7 = σ.1 7 := by first | exact w7_τ_121.trans W7 | omega
                  have W13 : τ_121.1 13 = σ.1 13 := by first | exact w13_τ_121.trans W13 | omega
                  have W14 : τ_121.1 14 = σ.1 14 := by first | exact w14_τ_121.trans W14 | omega
                  have W15 : τ_121.1 15 = σ.1 15 := by first | exact w15_τ_121.trans W15 | omega
                  have W16 : τ_121.1 16 = σ.1 16 := by first | exact w16_τ_121.trans W16 | omega
                  have W37 : τ_121.1 37 = σ.1 37 := by first | exact w37_τ_121.trans W37 | omega
                  have G8 : τ_121.2.1 8 = σ.2.1 8 := (g8_τ_121).trans G8
                  have G9 : τ_121.2.1 9 = σ.2.1 9 := (g9_τ_121).trans G9
                  have G19 : τ_121.2.1 19 = σ.2.1 19 := (g19_τ_121).trans G19
                  have G20 : τ_121.2.1 20 = σ.2.1 20 := (g20_τ_121).trans G20
                  have G22 : τ_121.2.1 22 = σ.2.1 22 := (g22_τ_121).trans G22
                  have G25 : τ_121.2.1 25 = σ.2.1 25 := (g25_τ_121).trans G25
                  have y14_7_τ_121 : τ_121.2.1 14 (τ_121.1 7) = (σ.2.1 14) (σ.1 7) := by rw [g14_τ_121, w7_τ_121]
                  have TX : J_vs (τ_121.1 6) (τ_121.1 5) (τ_121.2.1 15) := by rw [show (J_vs (τ_121.1 6) (τ_121.1 5) (τ_121.2.1 15)) = (J_vs (σ.1 6) (σ.1 5) (σ.2.1 15)) from by rw [w5_τ_121, w6_τ_121, g15_τ_121]]; exact TX
                  have RKS : J_rks (τ_121.1 5) (τ_121.1 4) (τ_121.2.1 10) (τ_121.2.1 11) := by rw [show (J_rks (τ_121.1 5) (τ_121.1 4) (τ_121.2.1 10) (τ_121.2.1 11)) = (J_rks (σ.1 5) (σ.1 4) (σ.2.1 10) (σ.2.1 11)) from by rw [w4_τ_121, w5_τ_121, g10_τ_121, g11_τ_121]]; exact RKS
                  have IP : J_ip (τ_121.1 7) (τ_121.1 6) (τ_121.1 37) (τ_121.2.1 14) (τ_121.2.1 15) (τ_121.2.1 16) (τ_121.2.1 19) := by rw [show (J_ip (τ_121.1 7) (τ_121.1 6) (τ_121.1 37) (τ_121.2.1 14) (τ_121.2.1 15) (τ_121.2.1 16) (τ_121.2.1 19)) = (J_ip (σ.1 7) (σ.1 6) (σ.1 37) (σ.2.1 14) (σ.2.1 15) (σ.2.1 16) (σ.2.1 19)) from by rw [w6_τ_121, w7_τ_121, w37_τ_121, g14_τ_121, g15_τ_121, g16_τ_121, g19_τ_121]]; exact IP
                  have A8 : ∀ j, 0 ≤ τ_121.2.1 8 j ∧ τ_121.2.1 8 j ≤ 1 := fun j => hT.2 8 j
                  have A9 : ∀ j, (-1) ≤ τ_121.2.1 9 j ∧ τ_121.2.1 9 j ≤ 1499 := fun j => hT.2 9 j
                  have A10 : ∀ j, (-1) ≤ τ_121.2.1 10 j ∧ τ_121.2.1 10 j ≤ 99 := fun j => hT.2 10 j
                  have A11 : ∀ j, 0 ≤ τ_121.2.1 11 j ∧ τ_121.2.1 11 j ≤ 999 := fun j => hT.2 11 j
                  have A14 : ∀ j, 0 ≤ τ_121.2.1 14 j ∧ τ_121.2.1 14 j ≤ 30000 := fun j => hT.2 14 j
                  have A15 : ∀ j, 0 ≤ τ_121.2.1 15 j ∧ τ_121.2.1 15 j ≤ 999 := fun j => hT.2 15 j
                  have A16 : ∀ j, (-1) ≤ τ_121.2.1 16 j ∧ τ_121.2.1 16 j ≤ 1499 := fun j => hT.2 16 j
                  have A19 : ∀ j, (-1) ≤ τ_121.2.1 19 j ∧ τ_121.2.1 19 j ≤ 1499 := fun j => hT.2 19 j
                  have A20 : ∀ j, 0 ≤ τ_121.2.1 20 j ∧ τ_121.2.1 20 j ≤ 999 := fun j => hT.2 20 j
                  have A22 : ∀ j, 0 ≤ τ_121.2.1 22 j ∧ τ_121.2.1 22 j ≤ 1499 := fun j => hT.2 22 j
                  have v3 : 0 ≤ τ_121.1 3 ∧ τ_121.1 3 ≤ 2500 := hT.1 3
                  have v4 : 0 ≤ τ_121.1 4 ∧ τ_121.1 4 ≤ 100 := hT.1 4
                  have v5 : 0 ≤ τ_121.1 5 ∧ τ_121.1 5 ≤ 1000 := hT.1 5
                  have v6 : 0 ≤ τ_121.1 6 ∧ τ_121.1 6 ≤ 30000 := hT.1 6
                  have v7 : 0 ≤ τ_121.1 7 ∧ τ_121.1 7 ≤ 1500 := hT.1 7
                  have v13 : 0 ≤ τ_121.1 13 ∧ τ_121.1 13 ≤ 90000 := hT.1 13
                  have v14 : 0 ≤ τ_121.1 14 ∧ τ_121.1 14 ≤ 20000 := hT.1 14
                  have v15 : 0 ≤ τ_121.1 15 ∧ τ_121.1 15 ≤ 20000 := hT.1 15
                  have v16 : 0 ≤ τ_121.1 16 ∧ τ_121.1 16 ≤ 20000 := hT.1 16
                  have v36 : 0 ≤ τ_121.1 36 ∧ τ_121.1 36 ≤ 1001 := hT.1 36
                  have v37 : 0 ≤ τ_121.1 37 ∧ τ_121.1 37 ≤ 4 := hT.1 37
                  have a14_7 : 0 ≤ τ_121.2.1 14 (τ_121.1 7) ∧ τ_121.2.1 14 (τ_121.1 7) ≤ 30000 := hT.2 14 _
                  have av6 : σ.1 6 ≤ τ_121.1 6 := ag.1 6 (by decide)
                  refine h121 _ _ ?_
                  refine ⟨(show 0 ≤ n1 ∧ n1 < 1000 from by (first | omega | (simp only [st_s] <;> omega) | assumption | omega | fail)), ?_⟩
                  intro x24 r_x24 e_x24
                  have b_x24 : 0 ≤ x24 ∧ x24 ≤ 1 := by rw [e_x24]; exact hT.2 8 _
                  have e24b : x24 = x13 := by rw [e_x24, g8_τ_121, e_x13]
                  refine ⟨fun c25 => ?_, fun c25 => ?_⟩
                  ·
                    refine h151 _ _ _ ?_
                    refine ⟨_, K2_X3_append hT (show 0 ≤ n1 from by (first | omega | (simp only [st_s] <;> omega) | assumption | omega | fail)) (show n1 < 1000 from by (first | omega | (simp only [st_s] <;> omega) | assumption | omega | fail)) (show -1 ≤ (-1 : Int) from by (first | omega | (simp only [st_s] <;> omega) | assumption | omega | fail)) (show (-1 : Int) < 1500 from by (first | omega | (simp only [st_s] <;> omega) | assumption | omega | fail)) (show (τ_121.1 6) < 30000 from by (first | omega | (simp only [st_s] <;> omega) | assumption | omega | fail)) (show (τ_121.1 7) < 1500 from by (first | omega | (simp only [st_s] <;> omega) | assumption | omega | fail)), ?_⟩
                    intro τ29 hn_τ29 hf_τ29 hq
                    obtain ⟨hT, q27_1, q27_2, q27_3, q27_4, q27_5⟩ := hq
                    replace q27_1 : (τ29.1 6) = (τ_121.1 6) + 1 := q27_1
                    replace q27_2 : τ29.2.1 14 = st (τ_121.2.1 14) ((τ_121.1 7) + 1) ((τ_121.1 6) + 1) := q27_2
                    replace q27_3 : τ29.2.1 15 = st (τ_121.2.1 15) (τ_121.1 6) n1 := q27_3
                    replace q27_4 : τ29.2.1 16 = st (τ_121.2.1 16) (τ_121.1 6) (-1 : Int) := q27_4
                    replace q27_5 : c_ag τ_121 τ29 := q27_5
                    replace ag : c_ag σ τ29 := ag_t ag q27_5 rfl
                    have w3_τ29 : τ29.1 3 = τ_121.1 3 := hf_τ29.1 3 (by decide)
                    have w4_τ29 : τ29.1 4 = τ_121.1 4 := hf_τ29.1 4 (by decide)
                    have w5_τ29 : τ29.1 5 = τ_121.1 5 := hf_τ29.1 5 (by decide)
                    have w7_τ29 : τ29.1 7 = τ_121.1 7 := hf_τ29.1 7 (by decide)
                    have w13_τ29 : τ29.1 13 = τ_121.1 13 := hf_τ29.1 13 (by decide)
                    have w14_τ29 : τ29.1 14 = τ_121.1 14 := hf_τ29.1 14 (by decide)
                    have w15_τ29 : τ29.1 15 = τ_121.1 15 := hf_τ29.1 15 (by decide)
                    have w16_τ29 : τ29.1 16 = τ_121.1 16 := hf_τ29.1 16 (by decide)
                    have w36_τ29 : τ29.1 36 = τ_121.1 36 := hf_τ29.1 36 (by decide)
                    have w37_τ29 : τ29.1 37 = τ_121.1 37 := hf_τ29.1 37 (by decide)
                    have g8_τ29 : τ29.2.1 8 = τ_121.2.1 8 := hf_τ29.2.1 8 (by decide)
                    have g9_τ29 : τ29.2.1 9 = τ_121.2.1 9 := hf_τ29.2.1 9 (by decide)
                    have g10_τ29 : τ29.2.1 10 = τ_121.2.1 10 := hf_τ29.2.1 10 (by decide)
                    have g11_τ29 : τ29.2.1 11 = τ_121.2.1 11 := hf_τ29.2.1 11 (by decide)
                    have g19_τ29 : τ29.2.1 19 = τ_121.2.1 19 := hf_τ29.2.1 19 (by decide)
                    have g20_τ29 : τ29.2.1 20 = τ_121.2.1 20 := hf_τ29.2.1 20 (by decide)
                    have g22_τ29 : τ29.2.1 22 = τ_121.2.1 22 := hf_τ29.2.1 22 (by decide)
                    have g25_τ29 : τ29.2.1 25 = τ_121.2.1 25 := hf_τ29.2.1 25 (by decide)
                    have W3 : τ29.1 3 = σ.1 3 := by first | exact w3_τ29.trans W3 | omega
                    have W5 : τ29.1 5 = σ.1 5 := by first | exact w5_τ29.trans W5 | omega
                    have W7 : τ29.1 7 = σ.1 7 := by first | exact w7_τ29.trans W7 | omega
                    have W13 : τ29.1 13 = σ.1 13 := by first | exact w13_τ29.trans W13 | omega
                    have W14 : τ29.1 14 = σ.1 14 := by first | exact w14_τ29.trans W14 | omega
                    have W15 : τ29.1 15 = σ.1 15 := by first | exact w15_τ29.trans W15 | omega
                    have W16 : τ29.1 16 = σ.1 16 := by first | exact w16_τ29.trans W16 | omega
                    have W37 : τ29.1 37 = σ.1 37 := by first | exact w37_τ29.trans W37 | omega
                    have G8 : τ29.2.1 8 = σ.2.1 8 := (g8_τ29).trans G8
                    have G9 : τ29.2.1 9 = σ.2.1 9 := (g9_τ29).trans G9
                    have G19 : τ29.2.1 19 = σ.2.1 19 := (g19_τ29).trans G19
                    have G20 : τ29.2.1 20 = σ.2.1 20 := (g20_τ29).trans G20
                    have G22 : τ29.2.1 22 = σ.2.1 22 := (g22_τ29).trans G22
                    have G25 : τ29.2.1 25 = σ.2.1 25 := (g25_τ29).trans G25
                    have RKS : J_rks (τ29.1 5) (τ29.1 4) (τ29.2.1 10) (τ29.2.1 11) := by rw [show (J_rks (τ29.1 5) (τ29.1 4) (τ29.2.1 10) (τ29.2.1 11)) = (J_rks (τ_121.1 5) (τ_121.1 4) (τ_121.2.1 10) (τ_121.2.1 11)) from by rw [w4_τ29, w5_τ29, g10_τ29, g11_τ29]]; exact RKS
                    have A8 : ∀ j, 0 ≤ τ29.2.1 8 j ∧ τ29.2.1 8 j ≤ 1 := fun j => hT.2 8 j
                    have A9 : ∀ j, (-1) ≤ τ29.2.1 9 j ∧ τ29.2.1 9 j ≤ 1499 := fun j => hT.2 9 j
                    have A10 : ∀ j, (-1) ≤ τ29.2.1 10 j ∧ τ29.2.1 10 j ≤ 99 := fun j => hT.2 10 j
                    have A11 : ∀ j, 0 ≤ τ29.2.1 11 j ∧ τ29.2.1 11 j ≤ 999 := fun j => hT.2 11 j
                    have A14 : ∀ j, 0 ≤ τ29.2.1 14 j ∧ τ29.2.1 14 j ≤ 30000 := fun j => hT.2 14 j
                    have A15 : ∀ j, 0 ≤ τ29.2.1 15 j ∧ τ29.2.1 15 j ≤ 999 := fun j => hT.2 15 j
                    have A16 : ∀ j, (-1) ≤ τ29.2.1 16 j ∧ τ29.2.1 16 j ≤ 1499 := fun j => hT.2 16 j
                    have A19 : ∀ j, (-1) ≤ τ29.2.1 19 j ∧ τ29.2.1 19 j ≤ 1499 := fun j => hT.2 19 j
                    have A20 : ∀ j, 0 ≤ τ29.2.1 20 j ∧ τ29.2.1 20 j ≤ 999 := fun j => hT.2 20 j
                    have A22 : ∀ j, 0 ≤ τ29.2.1 22 j ∧ τ29.2.1 22 j ≤ 1499 := fun j => hT.2 22 j
                    have v3 : 0 ≤ τ29.1 3 ∧ τ29.1 3 ≤ 2500 := hT.1 3
                    have v4 : 0 ≤ τ29.1 4 ∧ τ29.1 4 ≤ 100 := hT.1 4
                    have v5 : 0 ≤ τ29.1 5 ∧ τ29.1 5 ≤ 1000 := hT.1 5
                    have v6 : 0 ≤ τ29.1 6 ∧ τ29.1 6 ≤ 30000 := hT.1 6
                    have v7 : 0 ≤ τ29.1 7 ∧ τ29.1 7 ≤ 1500 := hT.1 7
                    have v13 : 0 ≤ τ29.1 13 ∧ τ29.1 13 ≤ 90000 := hT.1 13
                    have v14 : 0 ≤ τ29.1 14 ∧ τ29.1 14 ≤ 20000 := hT.1 14
                    have v15 : 0 ≤ τ29.1 15 ∧ τ29.1 15 ≤ 20000 := hT.1 15
                    have v16 : 0 ≤ τ29.1 16 ∧ τ29.1 16 ≤ 20000 := hT.1 16
                    have v36 : 0 ≤ τ29.1 36 ∧ τ29.1 36 ≤ 1001 := hT.1 36
                    have v37 : 0 ≤ τ29.1 37 ∧ τ29.1 37 ≤ 4 := hT.1 37
                    have a14_7 : 0 ≤ τ29.2.1 14 (τ29.1 7) ∧ τ29.2.1 14 (τ29.1 7) ≤ 30000 := hT.2 14 _
                    have av6 : σ.1 6 ≤ τ29.1 6 := ag.1 6 (by decide)
                    have TX : J_vs (τ29.1 6) (τ29.1 5) (τ29.2.1 15) := by rw [q27_1, q27_3, w5_τ29]; exact J_vs_a TX (Int.le_refl _) (by omega)
                    have IPn : J_ip (τ29.1 7) (τ29.1 6) (τ29.1 37) (τ29.2.1 14) (τ29.2.1 15) (τ29.2.1 16) (τ29.2.1 19) := by rw [q27_1, q27_2, q27_3, q27_4, w7_τ29, w37_τ29, g19_τ29, w6_τ_121, w7_τ_121, w37_τ_121, g14_τ_121, g15_τ_121, g16_τ_121, g19_τ_121]; exact J_ip_a IP_0 (st_n _ _ (by omega)) (by first | exact Or.inl rfl | (refine Or.inr (Or.inl ⟨?_, ?_⟩); omega; rw [e_x26, g19_τ_121])) (fun z => by exfalso; omega) (fun z => by first | rfl | (exfalso; omega))
                    exact ⟨hT, (show 0 ≤ 0 ∧ 0 ≤ 19 from by (first | omega | (simp only [st_s] <;> omega) | assumption | omega | fail)), (show J_vs (τ29.1 6) (τ29.1 5) (τ29.2.1 15) from TX), (show J_rks (τ29.1 5) (τ29.1 4) (τ29.2.1 10) (τ29.2.1 11) from RKS), (show j_rr ((σ.1 5)) (σ.2.1 10) (τ29.2.1 10) from by (first | exact j_rr0 _ _ | exact q20_4 | (rw [g10_τ19]; exact j_rr0 _ _) | (rw [g10_τ29, g10_τ_121]; exact j_rr0 _ _) | fail)), (show 0 = 0 → (τ29.1 36) = (σ.1 36) + 1 ∧ (τ29.1 6) = (σ.1 6) + 1 ∧ τ29.2.1 14 ((τ29.1 7) + 1) = (τ29.1 6) from by (first | (intro z; exfalso; omega) | (intro z; have w := q20_5 z; exact ⟨by omega, by omega, w.2.1⟩) | (intro z; have w := q17_3 z; exact ⟨by omega, by omega, w.2⟩) | (intro _; refine ⟨by omega, by omega, ?_⟩; rw [q27_2, w7_τ29, st_s, q27_1]) | fail)), (show 0 = 0 → 0 ≤ τ29.2.1 10 (τ29.2.1 15 (τ29.2.1 14 (τ29.1 7))) from by (first | (intro z; exfalso; omega) | (intro z; exact (q20_5 z).2.2) | (intro z; have a1 := ag.2 (14, 7, 1) (by decide) (σ.1 7) (by show σ.1 7 < σ.1 7 + 1; omega); have a2 := ag.2 (15, 6, 0) (by decide) (σ.2.1 14 (σ.1 7)) (by show σ.2.1 14 (σ.1 7) < σ.1 6 + 0; omega); rw [show τ19.1 7 = σ.1 7 from by omega, show τ19.2.1 14 (σ.1 7) = σ.2.1 14 (σ.1 7) from a1, show τ19.2.1 15 (σ.2.1 14 (σ.1 7)) = σ.2.1 15 (σ.2.1 14 (σ.1 7)) from a2, g10_τ19]; exact p9 (by omega)) | (intro z; have a1 := ag.2 (14, 7, 1) (by decide) (σ.1 7) (by show σ.1 7 < σ.1 7 + 1; omega); have a2 := ag.2 (15, 6, 0) (by decide) (σ.2.1 14 (σ.1 7)) (by show σ.2.1 14 (σ.1 7) < σ.1 6 + 0; omega); rw [show τ29.1 7 = σ.1 7 from by omega, show τ29.2.1 14 (σ.1 7) = σ.2.1 14 (σ.1 7) from a1, show τ29.2.1 15 (σ.2.1 14 (σ.1 7)) = σ.2.1 15 (σ.2.1 14 (σ.1 7)) from a2, g10_τ29, g10_τ_121]; exact p9 (by omega)) | fail)), (show 0 = 0 → (σ.1 37) = 0 → (τ29.1 36) ≤ 2 from by (intro z; omega)), (show 0 = 0 → (τ29.1 36) ≤ 300 from by (intro z; omega)), (show 0 = 0 → J_ip (τ29.1 7) (τ29.1 6) (τ29.1 37) (τ29.2.1 14) (τ29.2.1 15) (τ29.2.1 16) (τ29.2.1 19) from by (first | (intro z; exfalso; omega) | (intro z; exact q20_6 z) | (intro z; exact q17_4 z) | (intro _; exact IPn) | fail)), (show c_Y σ τ29 from by (first | exact c_Y0 _ | exact q20_7 | exact c_Y_g (by omega) (by rw [g11_τ19]) (by rw [g20_τ19]) (by rw [g22_τ19]) (by rw [g25_τ19]) | exact c_Y_g (by omega) (by rw [g11_τ29, g11_τ_121]) (by rw [g20_τ29, g20_τ_121]) (by rw [g22_τ29, g22_τ_121]) (by rw [g25_τ29, g25_τ_121]) | fail)), ag⟩
                  ·
                    intro x26 r_x26 e_x26
                    have b_x26 : (-1) ≤ x26 ∧ x26 ≤ 1499 := by rw [e_x26]; exact hT.2 19 _
                    first | (have e26b : x26 = x15 := by rw [e_x26, g19_τ_121, e_x15]) | skip
                    refine h151 _ _ _ ?_
                    refine ⟨_, K2_X3_append hT (show 0 ≤ n1 from by (first | omega | (simp only [st_s] <;> omega) | assumption | omega | fail)) (show n1 < 1000 from by (first | omega | (simp only [st_s] <;> omega) | assumption | omega | fail)) (show -1 ≤ x26 from by (first | omega | (simp only [st_s] <;> omega) | assumption | omega | fail)) (show x26 < 1500 from by (first | omega | (simp only [st_s] <;> omega) | assumption | omega | fail)) (show (τ_121.1 6) < 30000 from by (first | omega | (simp only [st_s] <;> omega) | assumption | omega | fail)) (show (τ_121.1 7) < 1500 from by (first | omega | (simp only [st_s] <;> omega) | assumption | omega | fail)), ?_⟩
                    intro τ29 hn_τ29 hf_τ29 hq
                    obtain ⟨hT, q27_1, q27_2, q27_3, q27_4, q27_5⟩ := hq
                    replace q27_1 : (τ29.1 6) = (τ_121.1 6) + 1 := q27_1
                    replace q27_2 : τ29.2.1 14 = st (τ_121.2.1 14) ((τ_121.1 7) + 1) ((τ_121.1 6) + 1) := q27_2
                    replace q27_3 : τ29.2.1 15 = st (τ_121.2.1 15) (τ_121.1 6) n1 := q27_3
                    replace q27_4 : τ29.2.1 16 = st (τ_121.2.1 16) (τ_121.1 6) x26 := q27_4
                    replace q27_5 : c_ag τ_121 τ29 := q27_5
                    replace ag : c_ag σ τ29 := ag_t ag q27_5 rfl
                    have w3_τ29 : τ29.1 3 = τ_121.1 3 := hf_τ29.1 3 (by decide)
                    have w4_τ29 : τ29.1 4 = τ_121.1 4 := hf_τ29.1 4 (by decide)
                    have w5_τ29 : τ29.1 5 = τ_121.1 5 := hf_τ29.1 5 (by decide)
                    have w7_τ29 : τ29.1 7 = τ_121.1 7 := hf_τ29.1 7 (by decide)
                    have w13_τ29 : τ29.1 13 = τ_121.1 13 := hf_τ29.1 13 (by decide)
                    have w14_τ29 : τ29.1 14 = τ_121.1 14 := hf_τ29.1 14 (by decide)
                    have w15_τ29 : τ29.1 15 = τ_121.1 15 := hf_τ29.1 15 (by decide)
                    have w16_τ29 : τ29.1 16 = τ_121.1 16 := hf_τ29.1 16 (by decide)
                    have w36_τ29 : τ29.1 36 = τ_121.1 36 := hf_τ29.1 36 (by decide)
                    have w37_τ29 : τ29.1 37 = τ_121.1 37 := hf_τ29.1 37 (by decide)
                    have g8_τ29 : τ29.2.1 8 = τ_121.2.1 8 := hf_τ29.2.1 8 (by decide)
                    have g9_τ29 : τ29.2.1 9 = τ_121.2.1 9 := hf_τ29.2.1 9 (by decide)
                    have g10_τ29 : τ29.2.1 10 = τ_121.2.1 10 := hf_τ29.2.1 10 (by decide)
                    have g11_τ29 : τ29.2.1 11 = τ_121.2.1 11 := hf_τ29.2.1 11 (by decide)
                    have g19_τ29 : τ29.2.1 19 = τ_121.2.1 19 := hf_τ29.2.1 19 (by decide)
                    have g20_τ29 : τ29.2.1 20 = τ_121.2.1 20 := hf_τ29.2.1 20 (by decide)
                    have g22_τ29 : τ29.2.1 22 = τ_121.2.1 22 := hf_τ29.2.1 22 (by decide)
                    have g25_τ29 : τ29.2.1 25 = τ_121.2.1 25 := hf_τ29.2.1 25 (by decide)
                    have W3 : τ29.1 3 = σ.1 3 := by first | exact w3_τ29.trans W3 | omega
                    have W5 : τ29.1 5 = σ.1 5 := by first | exact w5_τ29.trans W5 | omega
                    have W7 : τ29.1 7 = σ.1 7 := by first | exact w7_τ29.trans W7 | omega
                    have W13 : τ29.1 13 = σ.1 13 := by first | exact w13_τ29.trans W13 | omega
                    have W14 : τ29.1 14 = σ.1 14 := by first | exact w14_τ29.trans W14 | omega
                    have W15 : τ29.1 15 = σ.1 15 := by first | exact w15_τ29.trans W15 | omega
                    have W16 : τ29.1 16 = σ.1 16 := by first | exact w16_τ29.trans W16 | omega
                    have W37 : τ29.1 37 = σ.1 37 := by first | exact w37_τ29.trans W37 | omega
                    have G8 : τ29.2.1 8 = σ.2.1 8 := (g8_τ29).trans G8
                    have G9 : τ29.2.1 9 = σ.2.1 9 := (g9_τ29).trans G9
                    have G19 : τ29.2.1 19 = σ.2.1 19 := (g19_τ29).trans G19
                    have G20 : τ29.2.1 20 = σ.2.1 20 := (g20_τ29).trans G20
                    have G22 : τ29.2.1 22 = σ.2.1 22 := (g22_τ29).trans G22
                    have G25 : τ29.2.1 25 = σ.2.1 25 := (g25_τ29).trans G25
                    have RKS : J_rks (τ29.1 5) (τ29.1 4) (τ29.2.1 10) (τ29.2.1 11) := by rw [show (J_rks (τ29.1 5) (τ29.1 4) (τ29.2.1 10) (τ29.2.1 11)) = (J_rks (τ_121.1 5) (τ_121.1 4) (τ_121.2.1 10) (τ_121.2.1 11)) from by rw [w4_τ29, w5_τ29, g10_τ29, g11_τ29]]; exact RKS
                    have A8 : ∀ j, 0 ≤ τ29.2.1 8 j ∧ τ29.2.1 8 j ≤ 1 := fun j => hT.2 8 j
                    have A9 : ∀ j, (-1) ≤ τ29.2.1 9 j ∧ τ29.2.1 9 j ≤ 1499 := fun j => hT.2 9 j
                    have A10 : ∀ j, (-1) ≤ τ29.2.1 10 j ∧ τ29.2.1 10 j ≤ 99 := fun j => hT.2 10 j
                    have A11 : ∀ j, 0 ≤ τ29.2.1 11 j ∧ τ29.2.1 11 j ≤ 999 := fun j => hT.2 11 j
                    have A14 : ∀ j, 0 ≤ τ29.2.1 14 j ∧ τ29.2.1 14 j ≤ 30000 := fun j => hT.2 14 j
                    have A15 : ∀ j, 0 ≤ τ29.2.1 15 j ∧ τ29.2.1 15 j ≤ 999 := fun j => hT.2 15 j
                    have A16 : ∀ j, (-1) ≤ τ29.2.1 16 j ∧ τ29.2.1 16 j ≤ 1499 := fun j => hT.2 16 j
                    have A19 : ∀ j, (-1) ≤ τ29.2.1 19 j ∧ τ29.2.1 19 j ≤ 1499 := fun j => hT.2 19 j
                    have A20 : ∀ j, 0 ≤ τ29.2.1 20 j ∧ τ29.2.1 20 j ≤ 999 := fun j => hT.2 20 j
                    have A22 : ∀ j, 0 ≤ τ29.2.1 22 j ∧ τ29.2.1 22 j ≤ 1499 := fun j => hT.2 22 j
                    have v3 : 0 ≤ τ29.1 3 ∧ τ29.1 3 ≤ 2500 := hT.1 3
                    have v4 : 0 ≤ τ29.1 4 ∧ τ29.1 4 ≤ 100 := hT.1 4
                    have v5 : 0 ≤ τ29.1 5 ∧ τ29.1 5 ≤ 1000 := hT.1 5
                    have v6 : 0 ≤ τ29.1 6 ∧ τ29.1 6 ≤ 30000 := hT.1 6
                    have v7 : 0 ≤ τ29.1 7 ∧ τ29.1 7 ≤ 1500 := hT.1 7
                    have v13 : 0 ≤ τ29.1 13 ∧ τ29.1 13 ≤ 90000 := hT.1 13
                    have v14 : 0 ≤ τ29.1 14 ∧ τ29.1 14 ≤ 20000 := hT.1 14
                    have v15 : 0 ≤ τ29.1 15 ∧ τ29.1 15 ≤ 20000 := hT.1 15
                    have v16 : 0 ≤ τ29.1 16 ∧ τ29.1 16 ≤ 20000 := hT.1 16
                    have v36 : 0 ≤ τ29.1 36 ∧ τ29.1 36 ≤ 1001 := hT.1 36
                    have v37 : 0 ≤ τ29.1 37 ∧ τ29.1 37 ≤ 4 := hT.1 37
                    have a14_7 : 0 ≤ τ29.2.1 14 (τ29.1 7) ∧ τ29.2.1 14 (τ29.1 7) ≤ 30000 := hT.2 14 _
                    have av6 : σ.1 6 ≤ τ29.1 6 := ag.1 6 (by decide)
                    have TX : J_vs (τ29.1 6) (τ29.1 5) (τ29.2.1 15) := by rw [q27_1, q27_3, w5_τ29]; exact J_vs_a TX (Int.le_refl _) (by omega)
                    have IPn : J_ip (τ29.1 7) (τ29.1 6) (τ29.1 37) (τ29.2.1 14) (τ29.2.1 15) (τ29.2.1 16) (τ29.2.1 19) := by rw [q27_1, q27_2, q27_3, q27_4, w7_τ29, w37_τ29, g19_τ29, w6_τ_121, w7_τ_121, w37_τ_121, g14_τ_121, g15_τ_121, g16_τ_121, g19_τ_121]; exact J_ip_a IP_0 (st_n _ _ (by omega)) (by first | exact Or.inl rfl | (refine Or.inr (Or.inl ⟨?_, ?_⟩); omega; rw [e_x26, g19_τ_121])) (fun z => by exfalso; omega) (fun z => by first | rfl | (exfalso; omega))
                    exact ⟨hT, (show 0 ≤ 0 ∧ 0 ≤ 19 from by (first | omega | (simp only [st_s] <;> omega) | assumption | omega | fail)), (show J_vs (τ29.1 6) (τ29.1 5) (τ29.2.1 15) from TX), (show J_rks (τ29.1 5) (τ29.1 4) (τ29.2.1 10) (τ29.2.1 11) from RKS), (show j_rr ((σ.1 5)) (σ.2.1 10) (τ29.2.1 10) from by (first | exact j_rr0 _ _ | exact q20_4 | (rw [g10_τ19]; exact j_rr0 _ _) | (rw [g10_τ29, g10_τ_121]; exact j_rr0 _ _) | fail)), (show 0 = 0 → (τ29.1 36) = (σ.1 36) + 1 ∧ (τ29.1 6) = (σ.1 6) + 1 ∧ τ29.2.1 14 ((τ29.1 7) + 1) = (τ29.1 6) from by (first | (intro z; exfalso; omega) | (intro z; have w := q20_5 z; exact ⟨by omega, by omega, w.2.1⟩) | (intro z; have w := q17_3 z; exact ⟨by omega, by omega, w.2⟩) | (intro _; refine ⟨by omega, by omega, ?_⟩; rw [q27_2, w7_τ29, st_s, q27_1]) | fail)), (show 0 = 0 → 0 ≤ τ29.2.1 10 (τ29.2.1 15 (τ29.2.1 14 (τ29.1 7))) from by (first | (intro z; exfalso; omega) | (intro z; exact (q20_5 z).2.2) | (intro z; have a1 := ag.2 (14, 7, 1) (by decide) (σ.1 7) (by show σ.1 7 < σ.1 7 + 1; omega); have a2 := ag.2 (15, 6, 0) (by decide) (σ.2.1 14 (σ.1 7)) (by show σ.2.1 14 (σ.1 7) < σ.1 6 + 0; omega); rw [show τ19.1 7 = σ.1 7 from by omega, show τ19.2.1 14 (σ.1 7) = σ.2.1 14 (σ.1 7) from a1, show τ19.2.1 15 (σ.2.1 14 (σ.1 7)) = σ.2.1 15 (σ.2.1 14 (σ.1 7)) from a2, g10_τ19]; exact p9 (by omega)) | (intro z; have a1 := ag.2 (14, 7, 1) (by decide) (σ.1 7) (by show σ.1 7 < σ.1 7 + 1; omega); have a2 := ag.2 (15, 6, 0) (by decide) (σ.2.1 14 (σ.1 7)) (by show σ.2.1 14 (σ.1 7) < σ.1 6 + 0; omega); rw [show τ29.1 7 = σ.1 7 from by omega, show τ29.2.1 14 (σ.1 7) = σ.2.1 14 (σ.1 7) from a1, show τ29.2.1 15 (σ.2.1 14 (σ.1 7)) = σ.2.1 15 (σ.2.1 14 (σ.1 7)) from a2, g10_τ29, g10_τ_121]; exact p9 (by omega)) | fail)), (show 0 = 0 → (σ.1 37) = 0 → (τ29.1 36) ≤ 2 from by (intro z; omega)), (show 0 = 0 → (τ29.1 36) ≤ 300 from by (intro z; omega)), (show 0 = 0 → J_ip (τ29.1 7) (τ29.1 6) (τ29.1 37) (τ29.2.1 14) (τ29.2.1 15) (τ29.2.1 16) (τ29.2.1 19) from by (first | (intro z; exfalso; omega) | (intro z; exact q20_6 z) | (intro z; exact q17_4 z) | (intro _; exact IPn) | fail)), (show c_Y σ τ29 from by (first | exact c_Y0 _ | exact q20_7 | exact c_Y_g (by omega) (by rw [g11_τ19]) (by rw [g20_τ19]) (by rw [g22_τ19]) (by rw [g25_τ19]) | exact c_Y_g (by omega) (by rw [g11_τ29, g11_τ_121]) (by rw [g20_τ29, g20_τ_121]) (by rw [g22_τ29, g22_τ_121]) (by rw [g25_τ29, g25_τ_121]) | fail)), ag⟩
                ·
                  exact ⟨hT, (show 0 ≤ 11 ∧ 11 ≤ 19 from by (first | omega | (simp only [st_s] <;> omega) | assumption | omega | fail)), (show J_vs (σ.1 6) (σ.1 5) (σ.2.1 15) from TX), (show J_rks (σ.1 5) (σ.1 4) (σ.2.1 10) (σ.2.1 11) from RKS), (show j_rr ((σ.1 5)) (σ.2.1 10) (σ.2.1 10) from by (first | exact j_rr0 _ _ | exact q20_4 | (rw [g10_τ19]; exact j_rr0 _ _) | (rw [g10_τ29, g10_τ_121]; exact j_rr0 _ _) | fail)), (show 11 = 0 → ((σ.1 36 + 1)) = (σ.1 36) + 1 ∧ (σ.1 6) = (σ.1 6) + 1 ∧ σ.2.1 14 ((σ.1 7) + 1) = (σ.1 6) from by (first | (intro z; exfalso; omega) | (intro z; have w := q20_5 z; exact ⟨by omega, by omega, w.2.1⟩) | (intro z; have w := q17_3 z; exact ⟨by omega, by omega, w.2⟩) | (intro _; refine ⟨by omega, by omega, ?_⟩; rw [q27_2, w7_τ29, st_s, q27_1]) | fail)), (show 11 = 0 → 0 ≤ σ.2.1 10 (σ.2.1 15 (σ.2.1 14 (σ.1 7))) from by (first | (intro z; exfalso; omega) | (intro z; exact (q20_5 z).2.2) | (intro z; have a1 := ag.2 (14, 7, 1) (by decide) (σ.1 7) (by show σ.1 7 < σ.1 7 + 1; omega); have a2 := ag.2 (15, 6, 0) (by decide) (σ.2.1 14 (σ.1 7)) (by show σ.2.1 14 (σ.1 7) < σ.1 6 + 0; omega); rw [show τ19.1 7 = σ.1 7 from by omega, show τ19.2.1 14 (σ.1 7) = σ.2.1 14 (σ.1 7) from a1, show τ19.2.1 15 (σ.2.1 14 (σ.1 7)) = σ.2.1 15 (σ.2.1 14 (σ.1 7)) from a2, g10_τ19]; exact p9 (by omega)) | (intro z; have a1 := ag.2 (14, 7, 1) (by decide) (σ.1 7) (by show σ.1 7 < σ.1 7 + 1; omega); have a2 := ag.2 (15, 6, 0) (by decide) (σ.2.1 14 (σ.1 7)) (by show σ.2.1 14 (σ.1 7) < σ.1 6 + 0; omega); rw [show τ29.1 7 = σ.1 7 from by omega, show τ29.2.1 14 (σ.1 7) = σ.2.1 14 (σ.1 7) from a1, show τ29.2.1 15 (σ.2.1 14 (σ.1 7)) = σ.2.1 15 (σ.2.1 14 (σ.1 7)) from a2, g10_τ29, g10_τ_121]; exact p9 (by omega)) | fail)), (show 11 = 0 → (σ.1 37) = 0 → ((σ.1 36 + 1)) ≤ 2 from by (intro z; omega)), (show 11 = 0 → ((σ.1 36 + 1)) ≤ 300 from by (intro z; omega)), (show 11 = 0 → J_ip (σ.1 7) (σ.1 6) (σ.1 37) (σ.2.1 14) (σ.2.1 15) (σ.2.1 16) (σ.2.1 19) from by (first | (intro z; exfalso; omega) | (intro z; exact q20_6 z) | (intro z; exact q17_4 z) | (intro _; exact IPn) | fail)), (show c_Y σ (s_v σ 36 (σ.1 36 + 1)) from by (first | exact c_Y0 _ | exact q20_7 | exact c_Y_g (by omega) (by rw [g11_τ19]) (by rw [g20_τ19]) (by rw [g22_τ19]) (by rw [g25_τ19]) | exact c_Y_g (by omega) (by rw [g11_τ29, g11_τ_121]) (by rw [g20_τ29, g20_τ_121]) (by rw [g22_τ29, g22_τ_121]) (by rw [g25_τ29, g25_τ_121]) | fail)), ag⟩
            ·
              exact ⟨hT, (show 0 ≤ 9 ∧ 9 ≤ 19 from by (first | omega | (simp only [st_s] <;> omega) | assumption | omega | fail)), (show J_vs (σ.1 6) (σ.1 5) (σ.2.1 15) from TX), (show J_rks (σ.1 5) (σ.1 4) (σ.2.1 10) (σ.2.1 11) from RKS), (show j_rr ((σ.1 5)) (σ.2.1 10) (σ.2.1 10) from by (first | exact j_rr0 _ _ | exact q20_4 | (rw [g10_τ19]; exact j_rr0 _ _) | (rw [g10_τ29, g10_τ_121]; exact j_rr0 _ _) | fail)), (show 9 = 0 → ((σ.1 36 + 1)) = (σ.1 36) + 1 ∧ (σ.1 6) = (σ.1 6) + 1 ∧ σ.2.1 14 ((σ.1 7) + 1) = (σ.1 6) from by (first | (intro z; exfalso; omega) | (intro z; have w := q20_5 z; exact ⟨by omega, by omega, w.2.1⟩) | (intro z; have w := q17_3 z; exact ⟨by omega, by omega, w.2⟩) | (intro _; refine ⟨by omega, by omega, ?_⟩; rw [q27_2, w7_τ29, st_s, q27_1]) | fail)), (show 9 = 0 → 0 ≤ σ.2.1 10 (σ.2.1 15 (σ.2.1 14 (σ.1 7))) from by (first | (intro z; exfalso; omega) | (intro z; exact (q20_5 z).2.2) | (intro z; have a1 := ag.2 (14, 7, 1) (by decide) (σ.1 7) (by show σ.1 7 < σ.1 7 + 1; omega); have a2 := ag.2 (15, 6, 0) (by decide) (σ.2.1 14 (σ.1 7)) (by show σ.2.1 14 (σ.1 7) < σ.1 6 + 0; omega); rw [show τ19.1 7 = σ.1 7 from by omega, show τ19.2.1 14 (σ.1 7) = σ.2.1 14 (σ.1 7) from a1, show τ19.2.1 15 (σ.2.1 14 (σ.1 7)) = σ.2.1 15 (σ.2.1 14 (σ.1 7)) from a2, g10_τ19]; exact p9 (by omega)) | (intro z; have a1 := ag.2 (14, 7, 1) (by decide) (σ.1 7) (by show σ.1 7 < σ.1 7 + 1; omega); have a2 := ag.2 (15, 6, 0) (by decide) (σ.2.1 14 (σ.1 7)) (by show σ.2.1 14 (σ.1 7) < σ.1 6 + 0; omega); rw [show τ29.1 7 = σ.1 7 from by omega, show τ29.2.1 14 (σ.1 7) = σ.2.1 14 (σ.1 7) from a1, show τ29.2.1 15 (σ.2.1 14 (σ.1 7)) = σ.2.1 15 (σ.2.1 14 (σ.1 7)) from a2, g10_τ29, g10_τ_121]; exact p9 (by omega)) | fail)), (show 9 = 0 → (σ.1 37) = 0 → ((σ.1 36 + 1)) ≤ 2 from by (intro z; omega)), (show 9 = 0 → ((σ.1 36 + 1)) ≤ 300 from by (intro z; omega)), (show 9 = 0 → J_ip (σ.1 7) (σ.1 6) (σ.1 37) (σ.2.1 14) (σ.2.1 15) (σ.2.1 16) (σ.2.1 19) from by (first | (intro z; exfalso; omega) | (intro z; exact q20_6 z) | (intro z; exact q17_4 z) | (intro _; exact IPn) | fail)), (show c_Y σ (s_v σ 36 (σ.1 36 + 1)) from by (first | exact c_Y0 _ | exact q20_7 | exact c_Y_g (by omega) (by rw [g11_τ19]) (by rw [g20_τ19]) (by rw [g22_τ19]) (by rw [g25_τ19]) | exact c_Y_g (by omega) (by rw [g11_τ29, g11_τ_121]) (by rw [g20_τ29, g20_τ_121]) (by rw [g22_τ29, g22_τ_121]) (by rw [g25_τ29, g25_τ_121]) | fail)), ag⟩
          ·
            refine ⟨_, K_X7_floatingVariable hT (show -1 ≤ n1 from by (first | omega | (simp only [st_s] <;> omega) | assumption | omega | fail)) (show n1 < 1000 from by (first | omega | (simp only [st_s] <;> omega) | assumption | omega | fail)) (show n1 < (σ.1 5) from by (first | omega | (simp only [st_s] <;> omega) | assumption | omega | fail)) (show (σ.1 6) < 30000 from by (first | omega | (simp only [st_s] <;> omega) | assumption | omega | fail)) (show (σ.1 7) < 1500 from by (first | omega | (simp only [st_s] <;> omega) | assumption | omega | fail)) (show σ.2.1 14 (σ.1 7) < 30000 from by (first | omega | (simp only [st_s] <;> omega) | assumption | omega | fail)) (show ∀ s : Int, 0 ≤ s → s < (σ.1 5) → 0 ≤ σ.2.1 9 s → σ.2.1 14 (σ.2.1 9 s) < 30000 from by exact p6) (show J_vs (σ.1 6) (σ.1 5) (σ.2.1 15) from TX) (show J_ip (σ.1 7) (σ.1 6) (σ.1 37) (σ.2.1 14) (σ.2.1 15) (σ.2.1 16) (σ.2.1 19) from IP) (show (σ.1 37) = 0 from by (first | omega | (simp only [st_s] <;> omega) | assumption | omega | fail)) (show (σ.1 6) = σ.2.1 14 (σ.1 7) + 1 from by omega), ?_⟩
            intro x18 τ19 r_x18 hn_τ19 hf_τ19 hq
            obtain ⟨hT, q17_1, q17_2, q17_3, q17_4, q17_5⟩ := hq
            replace q17_1 : 0 ≤ x18 ∧ x18 ≤ 19 := q17_1
            replace q17_2 : J_vs (τ19.1 6) (τ19.1 5) (τ19.2.1 15) := q17_2
            replace q17_3 : x18 = 0 → (τ19.1 6) = (σ.1 6) + 1 ∧ τ19.2.1 14 ((τ19.1 7) + 1) = (τ19.1 6) := q17_3
            replace q17_4 : x18 = 0 → J_ip (τ19.1 7) (τ19.1 6) (τ19.1 37) (τ19.2.1 14) (τ19.2.1 15) (τ19.2.1 16) (τ19.2.1 19) := q17_4
            replace q17_5 : c_ag (s_v σ 36 (σ.1 36 + 1)) τ19 := q17_5
            replace ag : c_ag σ τ19 := ag_t ag q17_5 rfl
            have w3_τ19 : τ19.1 3 = σ.1 3 := hf_τ19.1 3 (by decide)
            have w4_τ19 : τ19.1 4 = σ.1 4 := hf_τ19.1 4 (by decide)
            have w5_τ19 : τ19.1 5 = σ.1 5 := hf_τ19.1 5 (by decide)
            have w7_τ19 : τ19.1 7 = σ.1 7 := hf_τ19.1 7 (by decide)
            have w13_τ19 : τ19.1 13 = σ.1 13 := hf_τ19.1 13 (by decide)
            have w14_τ19 : τ19.1 14 = σ.1 14 := hf_τ19.1 14 (by decide)
            have w15_τ19 : τ19.1 15 = σ.1 15 := hf_τ19.1 15 (by decide)
            have w16_τ19 : τ19.1 16 = σ.1 16 := hf_τ19.1 16 (by decide)
            have w36_τ19 : τ19.1 36 = (σ.1 36 + 1) := hf_τ19.1 36 (by decide)
            have w37_τ19 : τ19.1 37 = σ.1 37 := hf_τ19.1 37 (by decide)
            have g8_τ19 : τ19.2.1 8 = σ.2.1 8 := hf_τ19.2.1 8 (by decide)
            have g9_τ19 : τ19.2.1 9 = σ.2.1 9 := hf_τ19.2.1 9 (by decide)
            have g10_τ19 : τ19.2.1 10 = σ.2.1 10 := hf_τ19.2.1 10 (by decide)
            have g11_τ19 : τ19.2.1 11 = σ.2.1 11 := hf_τ19.2.1 11 (by decide)
            have g19_τ19 : τ19.2.1 19 = σ.2.1 19 := hf_τ19.2.1 19 (by decide)
            have g20_τ19 : τ19.2.1 20 = σ.2.1 20 := hf_τ19.2.1 20 (by decide)
            have g22_τ19 : τ19.2.1 22 = σ.2.1 22 := hf_τ19.2.1 22 (by decide)
            have g25_τ19 : τ19.2.1 25 = σ.2.1 25 := hf_τ19.2.1 25 (by decide)
            have W3 : τ19.1 3 = σ.1 3 := by first | exact w3_τ19.trans W3 | omega
            have W5 : τ19.1 5 = σ.1 5 := by first | exact w5_τ19.trans W5 | omega
            have W7 : τ19.1 7 = σ.1 7 := by first | exact w7_τ19.trans W7 | omega
            have W13 : τ19.1 13 = σ.1 13 := by first | exact w13_τ19.trans W13 | omega
            have W14 : τ19.1 14 = σ.1 14 := by first | exact w14_τ19.trans W14 | omega
            have W15 : τ19.1 15 = σ.1 15 := by first | exact w15_τ19.trans W15 | omega
            have W16 : τ19.1 16 = σ.1 16 := by first | exact w16_τ19.trans W16 | omega
            have W37 : τ19.1 37 = σ.1 37 := by first | exact w37_τ19.trans W37 | omega
            have G8 : τ19.2.1 8 = σ.2.1 8 := (g8_τ19).trans G8
            have G9 : τ19.2.1 9 = σ.2.1 9 := (g9_τ19).trans G9
            have G19 : τ19.2.1 19 = σ.2.1 19 := (g19_τ19).trans G19
            have G20 : τ19.2.1 20 = σ.2.1 20 := (g20_τ19).trans G20
            have G22 : τ19.2.1 22 = σ.2.1 22 := (g22_τ19).trans G22
            have G25 : τ19.2.1 25 = σ.2.1 25 := (g25_τ19).trans G25
            have TX : J_vs (τ19.1 6) (τ19.1 5) (τ19.2.1 15) := q17_2
            have RKS : J_rks (τ19.1 5) (τ19.1 4) (τ19.2.1 10) (τ19.2.1 11) := by rw [show (J_rks (τ19.1 5) (τ19.1 4) (τ19.2.1 10) (τ19.2.1 11)) = (J_rks (σ.1 5) (σ.1 4) (σ.2.1 10) (σ.2.1 11)) from by rw [w4_τ19, w5_τ19, g10_τ19, g11_τ19]]; exact RKS
            have A8 : ∀ j, 0 ≤ τ19.2.1 8 j ∧ τ19.2.1 8 j ≤ 1 := fun j => hT.2 8 j
            have A9 : ∀ j, (-1) ≤ τ19.2.1 9 j ∧ τ19.2.1 9 j ≤ 1499 := fun j => hT.2 9 j
            have A10 : ∀ j, (-1) ≤ τ19.2.1 10 j ∧ τ19.2.1 10 j ≤ 99 := fun j => hT.2 10 j
            have A11 : ∀ j, 0 ≤ τ19.2.1 11 j ∧ τ19.2.1 11 j ≤ 999 := fun j => hT.2 11 j
            have A14 : ∀ j, 0 ≤ τ19.2.1 14 j ∧ τ19.2.1 14 j ≤ 30000 := fun j => hT.2 14 j
            have A15 : ∀ j, 0 ≤ τ19.2.1 15 j ∧ τ19.2.1 15 j ≤ 999 := fun j => hT.2 15 j
            have A16 : ∀ j, (-1) ≤ τ19.2.1 16 j ∧ τ19.2.1 16 j ≤ 1499 := fun j => hT.2 16 j
            have A19 : ∀ j, (-1) ≤ τ19.2.1 19 j ∧ τ19.2.1 19 j ≤ 1499 := fun j => hT.2 19 j
            have A20 : ∀ j, 0 ≤ τ19.2.1 20 j ∧ τ19.2.1 20 j ≤ 999 := fun j => hT.2 20 j
            have A22 : ∀ j, 0 ≤ τ19.2.1 22 j ∧ τ19.2.1 22 j ≤ 1499 := fun j => hT.2 22 j
            have v3 : 0 ≤ τ19.1 3 ∧ τ19.1 3 ≤ 2500 := hT.1 3
            have v4 : 0 ≤ τ19.1 4 ∧ τ19.1 4 ≤ 100 := hT.1 4
            have v5 : 0 ≤ τ19.1 5 ∧ τ19.1 5 ≤ 1000 := hT.1 5
            have v6 : 0 ≤ τ19.1 6 ∧ τ19.1 6 ≤ 30000 := hT.1 6
            have v7 : 0 ≤ τ19.1 7 ∧ τ19.1 7 ≤ 1500 := hT.1 7
            have v13 : 0 ≤ τ19.1 13 ∧ τ19.1 13 ≤ 90000 := hT.1 13
            have v14 : 0 ≤ τ19.1 14 ∧ τ19.1 14 ≤ 20000 := hT.1 14
            have v15 : 0 ≤ τ19.1 15 ∧ τ19.1 15 ≤ 20000 := hT.1 15
            have v16 : 0 ≤ τ19.1 16 ∧ τ19.1 16 ≤ 20000 := hT.1 16
            have v36 : 0 ≤ τ19.1 36 ∧ τ19.1 36 ≤ 1001 := hT.1 36
            have v37 : 0 ≤ τ19.1 37 ∧ τ19.1 37 ≤ 4 := hT.1 37
            have a14_7 : 0 ≤ τ19.2.1 14 (τ19.1 7) ∧ τ19.2.1 14 (τ19.1 7) ≤ 30000 := hT.2 14 _
            have av6 : σ.1 6 ≤ τ19.1 6 := ag.1 6 (by decide)
            exact ⟨hT, (show 0 ≤ x18 ∧ x18 ≤ 19 from by (first | omega | (simp only [st_s] <;> omega) | assumption | omega | fail)), (show J_vs (τ19.1 6) (τ19.1 5) (τ19.2.1 15) from TX), (show J_rks (τ19.1 5) (τ19.1 4) (τ19.2.1 10) (τ19.2.1 11) from RKS), (show j_rr ((σ.1 5)) (σ.2.1 10) (τ19.2.1 10) from by (first | exact j_rr0 _ _ | exact q20_4 | (rw [g10_τ19]; exact j_rr0 _ _) | (rw [g10_τ29, g10_τ_121]; exact j_rr0 _ _) | fail)), (show x18 = 0 → (τ19.1 36) = (σ.1 36) + 1 ∧ (τ19.1 6) = (σ.1 6) + 1 ∧ τ19.2.1 14 ((τ19.1 7) + 1) = (τ19.1 6) from by (first | (intro z; exfalso; omega) | (intro z; have w := q20_5 z; exact ⟨by omega, by omega, w.2.1⟩) | (intro z; have w := q17_3 z; exact ⟨by omega, by omega, w.2⟩) | (intro _; refine ⟨by omega, by omega, ?_⟩; rw [q27_2, w7_τ29, st_s, q27_1]) | fail)), (show x18 = 0 → 0 ≤ τ19.2.1 10 (τ19.2.1 15 (τ19.2.1 14 (τ19.1 7))) from by (first | (intro z; exfalso; omega) | (intro z; exact (q20_5 z).2.2) | (intro z; have a1 := ag.2 (14, 7, 1) (by decide) (σ.1 7) (by show σ.1 7 < σ.1 7 + 1; omega); have a2 := ag.2 (15, 6, 0) (by decide) (σ.2.1 14 (σ.1 7)) (by show σ.2.1 14 (σ.1 7) < σ.1 6 + 0; omega); rw [show τ19.1 7 = σ.1 7 from by omega, show τ19.2.1 14 (σ.1 7) = σ.2.1 14 (σ.1 7) from a1, show τ19.2.1 15 (σ.2.1 14 (σ.1 7)) = σ.2.1 15 (σ.2.1 14 (σ.1 7)) from a2, g10_τ19]; exact p9 (by omega)) | (intro z; have a1 := ag.2 (14, 7, 1) (by decide) (σ.1 7) (by show σ.1 7 < σ.1 7 + 1; omega); have a2 := ag.2 (15, 6, 0) (by decide) (σ.2.1 14 (σ.1 7)) (by show σ.2.1 14 (σ.1 7) < σ.1 6 + 0; omega); rw [show τ29.1 7 = σ.1 7 from by omega, show τ29.2.1 14 (σ.1 7) = σ.2.1 14 (σ.1 7) from a1, show τ29.2.1 15 (σ.2.1 14 (σ.1 7)) = σ.2.1 15 (σ.2.1 14 (σ.1 7)) from a2, g10_τ29, g10_τ_121]; exact p9 (by omega)) | fail)), (show x18 = 0 → (σ.1 37) = 0 → (τ19.1 36) ≤ 2 from by (intro z; omega)), (show x18 = 0 → (τ19.1 36) ≤ 300 from by (intro z; omega)), (show x18 = 0 → J_ip (τ19.1 7) (τ19.1 6) (τ19.1 37) (τ19.2.1 14) (τ19.2.1 15) (τ19.2.1 16) (τ19.2.1 19) from by (first | (intro z; exfalso; omega) | (intro z; exact q20_6 z) | (intro z; exact q17_4 z) | (intro _; exact IPn) | fail)), (show c_Y σ τ19 from by (first | exact c_Y0 _ | exact q20_7 | exact c_Y_g (by omega) (by rw [g11_τ19]) (by rw [g20_τ19]) (by rw [g22_τ19]) (by rw [g25_τ19]) | exact c_Y_g (by omega) (by rw [g11_τ29, g11_τ_121]) (by rw [g20_τ29, g20_τ_121]) (by rw [g22_τ29, g22_τ_121]) (by rw [g25_τ29, g25_τ_121]) | fail)), ag⟩
        ·
          refine ⟨_, K_X7_firstSymbol hT (show -1 ≤ n1 from by (first | omega | (simp only [st_s] <;> omega) | assumption | omega | fail)) (show n1 < 1000 from by (first | omega | (simp only [st_s] <;> omega) | assumption | omega | fail)) (show n1 < (σ.1 5) from by (first | omega | (simp only [st_s] <;> omega) | assumption | omega | fail)) (show σ.2.1 14 (σ.1 7) = (σ.1 6) from by (first | omega | (simp only [st_s] <;> omega) | assumption | omega | fail)) (show (σ.1 6) < 30000 from by (first | omega | (simp only [st_s] <;> omega) | assumption | omega | fail)) (show (σ.1 7) < 1500 from by (first | omega | (simp only [st_s] <;> omega) | assumption | omega | fail)) (show J_vs (σ.1 6) (σ.1 5) (σ.2.1 15) from TX) (show J_rks (σ.1 5) (σ.1 4) (σ.2.1 10) (σ.2.1 11) from RKS) (show J_ip (σ.1 7) (σ.1 6) (σ.1 37) (σ.2.1 14) (σ.2.1 15) (σ.2.1 16) (σ.2.1 19) from IP), ?_⟩
          intro x21 τ22 r_x21 hn_τ22 hf_τ22 hq
          obtain ⟨hT, q20_1, q20_2, q20_3, q20_4, q20_5, q20_6, q20_7, q20_8⟩ := hq
          replace q20_1 : 0 ≤ x21 ∧ x21 ≤ 19 := q20_1
          replace q20_2 : J_vs (τ22.1 6) (τ22.1 5) (τ22.2.1 15) := q20_2
          replace q20_3 : J_rks (τ22.1 5) (τ22.1 4) (τ22.2.1 10) (τ22.2.1 11) := q20_3
          replace q20_4 : j_rr ((σ.1 5)) (σ.2.1 10) (τ22.2.1 10) := q20_4
          replace q20_5 : x21 = 0 → (τ22.1 6) = (σ.1 6) + 1 ∧ τ22.2.1 14 ((τ22.1 7) + 1) = (τ22.1 6) ∧ 0 ≤ τ22.2.1 10 (τ22.2.1 15 (τ22.2.1 14 (τ22.1 7))) := q20_5
          replace q20_6 : x21 = 0 → J_ip (τ22.1 7) (τ22.1 6) (τ22.1 37) (τ22.2.1 14) (τ22.2.1 15) (τ22.2.1 16) (τ22.2.1 19) := q20_6
          replace q20_7 : c_Y (s_v σ 36 (σ.1 36 + 1)) τ22 := q20_7
          replace q20_8 : c_ag (s_v σ 36 (σ.1 36 + 1)) τ22 := q20_8
          replace ag : c_ag σ τ22 := ag_t ag q20_8 rfl
          have w3_τ22 : τ22.1 3 = σ.1 3 := hf_τ22.1 3 (by decide)
          have w5_τ22 : τ22.1 5 = σ.1 5 := hf_τ22.1 5 (by decide)
          have w7_τ22 : τ22.1 7 = σ.1 7 := hf_τ22.1 7 (by decide)
          have w13_τ22 : τ22.1 13 = σ.1 13 := hf_τ22.1 13 (by decide)
          have w14_τ22 : τ22.1 14 = σ.1 14 := hf_τ22.1 14 (by decide)
          have w15_τ22 : τ22.1 15 = σ.1 15 := hf_τ22.1 15 (by decide)
          have w16_τ22 : τ22.1 16 = σ.1 16 := hf_τ22.1 16 (by decide)
          have w36_τ22 : τ22.1 36 = (σ.1 36 + 1) := hf_τ22.1 36 (by decide)
          have w37_τ22 : τ22.1 37 = σ.1 37 := hf_τ22.1 37 (by decide)
          have g8_τ22 : τ22.2.1 8 = σ.2.1 8 := hf_τ22.2.1 8 (by decide)
          have g9_τ22 : τ22.2.1 9 = σ.2.1 9 := hf_τ22.2.1 9 (by decide)
          have g19_τ22 : τ22.2.1 19 = σ.2.1 19 := hf_τ22.2.1 19 (by decide)
          have g20_τ22 : τ22.2.1 20 = σ.2.1 20 := hf_τ22.2.1 20 (by decide)
          have g22_τ22 : τ22.2.1 22 = σ.2.1 22 := hf_τ22.2.1 22 (by decide)
          have g25_τ22 : τ22.2.1 25 = σ.2.1 25 := hf_τ22.2.1 25 (by decide)
          have W3 : τ22.1 3 = σ.1 3 := by first | exact w3_τ22.trans W3 | omega
          have W5 : τ22.1 5 = σ.1 5 := by first | exact w5_τ22.trans W5 | omega
          have W7 : τ22.1 7 = σ.1 7 := by first | exact w7_τ22.trans W7 | omega
          have W13 : τ22.1 13 = σ.1 13 := by first | exact w13_τ22.trans W13 | omega
          have W14 : τ22.1 14 = σ.1 14 := by first | exact w14_τ22.trans W14 | omega
          have W15 : τ22.1 15 = σ.1 15 := by first | exact w15_τ22.trans W15 | omega
          have W16 : τ22.1 16 = σ.1 16 := by first | exact w16_τ22.trans W16 | omega
          have W37 : τ22.1 37 = σ.1 37 := by first | exact w37_τ22.trans W37 | omega
          have G8 : τ22.2.1 8 = σ.2.1 8 := (g8_τ22).trans G8
          have G9 : τ22.2.1 9 = σ.2.1 9 := (g9_τ22).trans G9
          have G19 : τ22.2.1 19 = σ.2.1 19 := (g19_τ22).trans G19
          have G20 : τ22.2.1 20 = σ.2.1 20 := (g20_τ22).trans G20
          have G22 : τ22.2.1 22 = σ.2.1 22 := (g22_τ22).trans G22
          have G25 : τ22.2.1 25 = σ.2.1 25 := (g25_τ22).trans G25
          have TX : J_vs (τ22.1 6) (τ22.1 5) (τ22.2.1 15) := q20_2
          have RKS : J_rks (τ22.1 5) (τ22.1 4) (τ22.2.1 10) (τ22.2.1 11) := q20_3
          have A8 : ∀ j, 0 ≤ τ22.2.1 8 j ∧ τ22.2.1 8 j ≤ 1 := fun j => hT.2 8 j
          have A9 : ∀ j, (-1) ≤ τ22.2.1 9 j ∧ τ22.2.1 9 j ≤ 1499 := fun j => hT.2 9 j
          have A10 : ∀ j, (-1) ≤ τ22.2.1 10 j ∧ τ22.2.1 10 j ≤ 99 := fun j => hT.2 10 j
          have A11 : ∀ j, 0 ≤ τ22.2.1 11 j ∧ τ22.2.1 11 j ≤ 999 := fun j => hT.2 11 j
          have A14 : ∀ j, 0 ≤ τ22.2.1 14 j ∧ τ22.2.1 14 j ≤ 30000 := fun j => hT.2 14 j
          have A15 : ∀ j, 0 ≤ τ22.2.1 15 j ∧ τ22.2.1 15 j ≤ 999 := fun j => hT.2 15 j
          have A16 : ∀ j, (-1) ≤ τ22.2.1 16 j ∧ τ22.2.1 16 j ≤ 1499 := fun j => hT.2 16 j
          have A19 : ∀ j, (-1) ≤ τ22.2.1 19 j ∧ τ22.2.1 19 j ≤ 1499 := fun j => hT.2 19 j
          have A20 : ∀ j, 0 ≤ τ22.2.1 20 j ∧ τ22.2.1 20 j ≤ 999 := fun j => hT.2 20 j
          have A22 : ∀ j, 0 ≤ τ22.2.1 22 j ∧ τ22.2.1 22 j ≤ 1499 := fun j => hT.2 22 j
          have v3 : 0 ≤ τ22.1 3 ∧ τ22.1 3 ≤ 2500 := hT.1 3
          have v4 : 0 ≤ τ22.1 4 ∧ τ22.1 4 ≤ 100 := hT.1 4
          have v5 : 0 ≤ τ22.1 5 ∧ τ22.1 5 ≤ 1000 := hT.1 5
          have v6 : 0 ≤ τ22.1 6 ∧ τ22.1 6 ≤ 30000 := hT.1 6
          have v7 : 0 ≤ τ22.1 7 ∧ τ22.1 7 ≤ 1500 := hT.1 7
          have v13 : 0 ≤ τ22.1 13 ∧ τ22.1 13 ≤ 90000 := hT.1 13
          have v14 : 0 ≤ τ22.1 14 ∧ τ22.1 14 ≤ 20000 := hT.1 14
          have v15 : 0 ≤ τ22.1 15 ∧ τ22.1 15 ≤ 20000 := hT.1 15
          have v16 : 0 ≤ τ22.1 16 ∧ τ22.1 16 ≤ 20000 := hT.1 16
          have v36 : 0 ≤ τ22.1 36 ∧ τ22.1 36 ≤ 1001 := hT.1 36
          have v37 : 0 ≤ τ22.1 37 ∧ τ22.1 37 ≤ 4 := hT.1 37
          have a14_7 : 0 ≤ τ22.2.1 14 (τ22.1 7) ∧ τ22.2.1 14 (τ22.1 7) ≤ 30000 := hT.2 14 _
          have av6 : σ.1 6 ≤ τ22.1 6 := ag.1 6 (by decide)
          exact ⟨hT, (show 0 ≤ x21 ∧ x21 ≤ 19 from by (first | omega | (simp only [st_s] <;> omega) | assumption | omega | fail)), (show J_vs (τ22.1 6) (τ22.1 5) (τ22.2.1 15) from TX), (show J_rks (τ22.1 5) (τ22.1 4) (τ22.2.1 10) (τ22.2.1 11) from RKS), (show j_rr ((σ.1 5)) (σ.2.1 10) (τ22.2.1 10) from by (first | exact j_rr0 _ _ | exact q20_4 | (rw [g10_τ19]; exact j_rr0 _ _) | (rw [g10_τ29, g10_τ_121]; exact j_rr0 _ _) | fail)), (show x21 = 0 → (τ22.1 36) = (σ.1 36) + 1 ∧ (τ22.1 6) = (σ.1 6) + 1 ∧ τ22.2.1 14 ((τ22.1 7) + 1) = (τ22.1 6) from by (first | (intro z; exfalso; omega) | (intro z; have w := q20_5 z; exact ⟨by omega, by omega, w.2.1⟩) | (intro z; have w := q17_3 z; exact ⟨by omega, by omega, w.2⟩) | (intro _; refine ⟨by omega, by omega, ?_⟩; rw [q27_2, w7_τ29, st_s, q27_1]) | fail)), (show x21 = 0 → 0 ≤ τ22.2.1 10 (τ22.2.1 15 (τ22.2.1 14 (τ22.1 7))) from by (first | (intro z; exfalso; omega) | (intro z; exact (q20_5 z).2.2) | (intro z; have a1 := ag.2 (14, 7, 1) (by decide) (σ.1 7) (by show σ.1 7 < σ.1 7 + 1; omega); have a2 := ag.2 (15, 6, 0) (by decide) (σ.2.1 14 (σ.1 7)) (by show σ.2.1 14 (σ.1 7) < σ.1 6 + 0; omega); rw [show τ19.1 7 = σ.1 7 from by omega, show τ19.2.1 14 (σ.1 7) = σ.2.1 14 (σ.1 7) from a1, show τ19.2.1 15 (σ.2.1 14 (σ.1 7)) = σ.2.1 15 (σ.2.1 14 (σ.1 7)) from a2, g10_τ19]; exact p9 (by omega)) | (intro z; have a1 := ag.2 (14, 7, 1) (by decide) (σ.1 7) (by show σ.1 7 < σ.1 7 + 1; omega); have a2 := ag.2 (15, 6, 0) (by decide) (σ.2.1 14 (σ.1 7)) (by show σ.2.1 14 (σ.1 7) < σ.1 6 + 0; omega); rw [show τ29.1 7 = σ.1 7 from by omega, show τ29.2.1 14 (σ.1 7) = σ.2.1 14 (σ.1 7) from a1, show τ29.2.1 15 (σ.2.1 14 (σ.1 7)) = σ.2.1 15 (σ.2.1 14 (σ.1 7)) from a2, g10_τ29, g10_τ_121]; exact p9 (by omega)) | fail)), (show x21 = 0 → (σ.1 37) = 0 → (τ22.1 36) ≤ 2 from by (intro z; omega)), (show x21 = 0 → (τ22.1 36) ≤ 300 from by (intro z; omega)), (show x21 = 0 → J_ip (τ22.1 7) (τ22.1 6) (τ22.1 37) (τ22.2.1 14) (τ22.2.1 15) (τ22.2.1 16) (τ22.2.1 19) from by (first | (intro z; exfalso; omega) | (intro z; exact q20_6 z) | (intro z; exact q17_4 z) | (intro _; exact IPn) | fail)), (show c_Y σ τ22 from by (first | exact c_Y0 _ | exact q20_7 | exact c_Y_g (by omega) (by rw [g11_τ19]) (by rw [g20_τ19]) (by rw [g22_τ19]) (by rw [g25_τ19]) | exact c_Y_g (by omega) (by rw [g11_τ29, g11_τ_121]) (by rw [g20_τ29, g20_τ_121]) (by rw [g22_τ29, g22_τ_121]) (by rw [g25_τ29, g25_τ_121]) | fail)), ag⟩
      ·
        exact ⟨hT, (show 0 ≤ 5 ∧ 5 ≤ 19 from by (first | omega | (simp only [st_s] <;> omega) | assumption | omega | fail)), (show J_vs (σ.1 6) (σ.1 5) (σ.2.1 15) from TX), (show J_rks (σ.1 5) (σ.1 4) (σ.2.1 10) (σ.2.1 11) from RKS), (show j_rr ((σ.1 5)) (σ.2.1 10) (σ.2.1 10) from by (first | exact j_rr0 _ _ | exact q20_4 | (rw [g10_τ19]; exact j_rr0 _ _) | (rw [g10_τ29, g10_τ_121]; exact j_rr0 _ _) | fail)), (show 5 = 0 → (σ.1 36) = (σ.1 36) + 1 ∧ (σ.1 6) = (σ.1 6) + 1 ∧ σ.2.1 14 ((σ.1 7) + 1) = (σ.1 6) from by (first | (intro z; exfalso; omega) | (intro z; have w := q20_5 z; exact ⟨by omega, by omega, w.2.1⟩) | (intro z; have w := q17_3 z; exact ⟨by omega, by omega, w.2⟩) | (intro _; refine ⟨by omega, by omega, ?_⟩; rw [q27_2, w7_τ29, st_s, q27_1]) | fail)), (show 5 = 0 → 0 ≤ σ.2.1 10 (σ.2.1 15 (σ.2.1 14 (σ.1 7))) from by (first | (intro z; exfalso; omega) | (intro z; exact (q20_5 z).2.2) | (intro z; have a1 := ag.2 (14, 7, 1) (by decide) (σ.1 7) (by show σ.1 7 < σ.1 7 + 1; omega); have a2 := ag.2 (15, 6, 0) (by decide) (σ.2.1 14 (σ.1 7)) (by show σ.2.1 14 (σ.1 7) < σ.1 6 + 0; omega); rw [show τ19.1 7 = σ.1 7 from by omega, show τ19.2.1 14 (σ.1 7) = σ.2.1 14 (σ.1 7) from a1, show τ19.2.1 15 (σ.2.1 14 (σ.1 7)) = σ.2.1 15 (σ.2.1 14 (σ.1 7)) from a2, g10_τ19]; exact p9 (by omega)) | (intro z; have a1 := ag.2 (14, 7, 1) (by decide) (σ.1 7) (by show σ.1 7 < σ.1 7 + 1; omega); have a2 := ag.2 (15, 6, 0) (by decide) (σ.2.1 14 (σ.1 7)) (by show σ.2.1 14 (σ.1 7) < σ.1 6 + 0; omega); rw [show τ29.1 7 = σ.1 7 from by omega, show τ29.2.1 14 (σ.1 7) = σ.2.1 14 (σ.1 7) from a1, show τ29.2.1 15 (σ.2.1 14 (σ.1 7)) = σ.2.1 15 (σ.2.1 14 (σ.1 7)) from a2, g10_τ29, g10_τ_121]; exact p9 (by omega)) | fail)), (show 5 = 0 → (σ.1 37) = 0 → (σ.1 36) ≤ 2 from by (intro z; omega)), (show 5 = 0 → (σ.1 36) ≤ 300 from by (intro z; omega)), (show 5 = 0 → J_ip (σ.1 7) (σ.1 6) (σ.1 37) (σ.2.1 14) (σ.2.1 15) (σ.2.1 16) (σ.2.1 19) from by (first | (intro z; exfalso; omega) | (intro z; exact q20_6 z) | (intro z; exact q17_4 z) | (intro _; exact IPn) | fail)), (show c_Y σ σ from by (first | exact c_Y0 _ | exact q20_7 | exact c_Y_g (by omega) (by rw [g11_τ19]) (by rw [g20_τ19]) (by rw [g22_τ19]) (by rw [g25_τ19]) | exact c_Y_g (by omega) (by rw [g11_τ29, g11_τ_121]) (by rw [g20_τ29, g20_τ_121]) (by rw [g22_τ29, g22_τ_121]) (by rw [g25_τ29, g25_τ_121]) | fail)), ag⟩
  ·
    refine ⟨fun c2 => ?_, fun c2 => ?_⟩
    ·
      refine h17 _ _ ?_
      refine ⟨fun c3 => ?_, fun c3 => ?_⟩
      ·
        exact ⟨hT, (show 0 ≤ 5 ∧ 5 ≤ 19 from by (first | omega | (simp only [st_s] <;> omega) | assumption | omega | fail)), (show J_vs (σ.1 6) (σ.1 5) (σ.2.1 15) from TX), (show J_rks (σ.1 5) (σ.1 4) (σ.2.1 10) (σ.2.1 11) from RKS), (show j_rr ((σ.1 5)) (σ.2.1 10) (σ.2.1 10) from by (first | exact j_rr0 _ _ | exact q20_4 | (rw [g10_τ19]; exact j_rr0 _ _) | (rw [g10_τ29, g10_τ_121]; exact j_rr0 _ _) | fail)), (show 5 = 0 → (σ.1 36) = (σ.1 36) + 1 ∧ (σ.1 6) = (σ.1 6) + 1 ∧ σ.2.1 14 ((σ.1 7) + 1) = (σ.1 6) from by (first | (intro z; exfalso; omega) | (intro z; have w := q20_5 z; exact ⟨by omega, by omega, w.2.1⟩) | (intro z; have w := q17_3 z; exact ⟨by omega, by omega, w.2⟩) | (intro _; refine ⟨by omega, by omega, ?_⟩; rw [q27_2, w7_τ29, st_s, q27_1]) | fail)), (show 5 = 0 → 0 ≤ σ.2.1 10 (σ.2.1 15 (σ.2.1 14 (σ.1 7))) from by (first | (intro z; exfalso; omega) | (intro z; exact (q20_5 z).2.2) | (intro z; have a1 := ag.2 (14, 7, 1) (by decide) (σ.1 7) (by show σ.1 7 < σ.1 7 + 1; omega); have a2 := ag.2 (15, 6, 0) (by decide) (σ.2.1 14 (σ.1 7)) (by show σ.2.1 14 (σ.1 7) < σ.1 6 + 0; omega); rw [show τ19.1 7 = σ.1 7 from by omega, show τ19.2.1 14 (σ.1 7) = σ.2.1 14 (σ.1 7) from a1, show τ19.2.1 15 (σ.2.1 14 (σ.1 7)) = σ.2.1 15 (σ.2.1 14 (σ.1 7)) from a2, g10_τ19]; exact p9 (by omega)) | (intro z; have a1 := ag.2 (14, 7, 1) (by decide) (σ.1 7) (by show σ.1 7 < σ.1 7 + 1; omega); have a2 := ag.2 (15, 6, 0) (by decide) (σ.2.1 14 (σ.1 7)) (by show σ.2.1 14 (σ.1 7) < σ.1 6 + 0; omega); rw [show τ29.1 7 = σ.1 7 from by omega, show τ29.2.1 14 (σ.1 7) = σ.2.1 14 (σ.1 7) from a1, show τ29.2.1 15 (σ.2.1 14 (σ.1 7)) = σ.2.1 15 (σ.2.1 14 (σ.1 7)) from a2, g10_τ29, g10_τ_121]; exact p9 (by omega)) | fail)), (show 5 = 0 → (σ.1 37) = 0 → (σ.1 36) ≤ 2 from by (intro z; omega)), (show 5 = 0 → (σ.1 36) ≤ 300 from by (intro z; omega)), (show 5 = 0 → J_ip (σ.1 7) (σ.1 6) (σ.1 37) (σ.2.1 14) (σ.2.1 15) (σ.2.1 16) (σ.2.1 19) from by (first | (intro z; exfalso; omega) | (intro z; exact q20_6 z) | (intro z; exact q17_4 z) | (intro _; exact IPn) | fail)), (show c_Y σ σ from by (first | exact c_Y0 _ | exact q20_7 | exact c_Y_g (by omega) (by rw [g11_τ19]) (by rw [g20_τ19]) (by rw [g22_τ19]) (by rw [g25_τ19]) | exact c_Y_g (by omega) (by rw [g11_τ29, g11_τ_121]) (by rw [g20_τ29, g20_τ_121]) (by rw [g22_τ29, g22_τ_121]) (by rw [g25_τ29, g25_τ_121]) | fail)), ag⟩
      ·
        refine ⟨fun c4 => ?_, fun c4 => ?_⟩
        ·
          refine ⟨(⟨by (first | omega | (simp only [st_s] <;> omega) | assumption | omega | fail), by (first | omega | (simp only [st_s] <;> omega) | assumption | omega | fail)⟩ : rg (σ.1 36 + 1)), ?_⟩
          replace ag := ag_v (i := 36) (x := (σ.1 36 + 1)) ag (Or.inl rfl)
          replace hT := cT_v (i := 36) hT (show 0 ≤ (σ.1 36 + 1) ∧ (σ.1 36 + 1) ≤ 1001 from by (first | omega | (simp only [st_s] <;> omega) | assumption | omega | fail))
          refine ⟨fun c6 => ?_, fun c6 => ?_⟩
          ·
            refine ⟨fun c7 => ?_, fun c7 => ?_⟩
            ·
              refine ⟨_, K_X9_isKnown hT (show -1 ≤ n1 from by (first | omega | (simp only [st_s] <;> omega) | assumption | omega | fail)) (show n1 < 1000 from by (first | omega | (simp only [st_s] <;> omega) | assumption | omega | fail)), ?_⟩
              intro x9 r_x9 hq
              obtain ⟨q8_1, q8_2, q8_3, q8_4⟩ := hq
              replace q8_1 : 0 ≤ x9 ∧ x9 ≤ 1 := q8_1
              replace q8_2 : ¬ x9 = 0 → 0 ≤ n1 := q8_2
              replace q8_3 : ¬ x9 = 0 → σ.2.1 8 n1 = 0 ∨ ¬ σ.2.1 18 n1 = 0 := q8_3
              replace q8_4 : 0 ≤ n1 → (σ.2.1 8 n1 = 0 ∨ ¬ σ.2.1 18 n1 = 0) → ¬ x9 = 0 := q8_4
              refine ⟨fun c11 => ?_, fun c11 => ?_⟩
              ·
                refine ⟨(show 0 ≤ n1 ∧ n1 < 1000 from by (first | omega | (simp only [st_s] <;> omega) | assumption | omega | fail)), ?_⟩
                intro x13 r_x13 e_x13
                have b_x13 : 0 ≤ x13 ∧ x13 ≤ 1 := by rw [e_x13]; exact hT.2 8 _
                refine ⟨fun c14 => ?_, fun c14 => ?_⟩
                ·
                  obtain ⟨τ_121, e_τ_121⟩ : ∃ z : S0, z = s_v σ 36 (σ.1 36 + 1) := ⟨_, rfl⟩
                  rw [← e_τ_121]
                  replace hT : c_T τ_121 := by rw [e_τ_121]; exact hT
                  replace ag : c_ag σ τ_121 := by rw [e_τ_121]; exact ag
                  have w3_τ_121 : τ_121.1 3 = σ.1 3 := by rw [e_τ_121]; rfl
                  have w4_τ_121 : τ_121.1 4 = σ.1 4 := by rw [e_τ_121]; rfl
                  have w5_τ_121 : τ_121.1 5 = σ.1 5 := by rw [e_τ_121]; rfl
                  have w6_τ_121 : τ_121.1 6 = σ.1 6 := by rw [e_τ_121]; rfl
                  have w7_τ_121 : τ_121.1 7 = σ.1 7 := by rw [e_τ_121]; rfl
                  have w13_τ_121 : τ_121.1 13 = σ.1 13 := by rw [e_τ_121]; rfl
                  have w14_τ_121 : τ_121.1 14 = σ.1 14 := by rw [e_τ_121]; rfl
                  have w15_τ_121 : τ_121.1 15 = σ.1 15 := by rw [e_τ_121]; rfl
                  have w16_τ_121 : τ_121.1 16 = σ.1 16 := by rw [e_τ_121]; rfl
                  have w36_τ_121 : τ_121.1 36 = (σ.1 36 + 1) := by rw [e_τ_121]; rfl
                  have w37_τ_121 : τ_121.1 37 = σ.1 37 := by rw [e_τ_121]; rfl
                  have g8_τ_121 : τ_121.2.1 8 = σ.2.1 8 := by rw [e_τ_121]; rfl
                  have g9_τ_121 : τ_121.2.1 9 = σ.2.1 9 := by rw [e_τ_121]; rfl
                  have g10_τ_121 : τ_121.2.1 10 = σ.2.1 10 := by rw [e_τ_121]; rfl
                  have g11_τ_121 : τ_121.2.1 11 = σ.2.1 11 := by rw [e_τ_121]; rfl
                  have g14_τ_121 : τ_121.2.1 14 = σ.2.1 14 := by rw [e_τ_121]; rfl
                  have g15_τ_121 : τ_121.2.1 15 = σ.2.1 15 := by rw [e_τ_121]; rfl
                  have g16_τ_121 : τ_121.2.1 16 = σ.2.1 16 := by rw [e_τ_121]; rfl
                  have g19_τ_121 : τ_121.2.1 19 = σ.2.1 19 := by rw [e_τ_121]; rfl
                  have g20_τ_121 : τ_121.2.1 20 = σ.2.1 20 := by rw [e_τ_121]; rfl
                  have g22_τ_121 : τ_121.2.1 22 = σ.2.1 22 := by rw [e_τ_121]; rfl
                  have g25_τ_121 : τ_121.2.1 25 = σ.2.1 25 := by rw [e_τ_121]; rfl
                  have W3 : τ_121.1 3 = σ.1 3 := by first | exact w3_τ_121.trans W3 | omega
                  have W5 : τ_121.1 5 = σ.1 5 := by first | exact w5_τ_121.trans W5 | omega
                  have W7 : τ_121.1 7 = σ.1 7 := by first | exact w7_τ_121.trans W7 | omega
                  have W13 : τ_121.1 13 = σ.1 13 := by first | exact w13_τ_121.trans W13 | omega
                  have W14 : τ_121.1 14 = σ.1 14 := by first | exact w14_τ_121.trans W14 | omega
                  have W15 : τ_121.1 15 = σ.1 15 := by first | exact w15_τ_121.trans W15 | omega
                  have W16 : τ_121.1 16 = σ.1 16 := by first | exact w16_τ_121.trans W16 | omega
                  have W37 : τ_121.1 37 = σ.1 37 := by first | exact w37_τ_121.trans W37 | omega
                  have G8 : τ_121.2.1 8 = σ.2.1 8 := (g8_τ_121).trans G8
                  have G9 : τ_121.2.1 9 = σ.2.1 9 := (g9_τ_121).trans G9
                  have G19 : τ_121.2.1 19 = σ.2.1 19 := (g19_τ_121).trans G19
                  have G20 : τ_121.2.1 20 = σ.2.1 20 := (g20_τ_121).trans G20
                  have G22 : τ_121.2.1 22 = σ.2.1 22 := (g22_τ_121).trans G22
                  have G25 : τ_121.2.1 25 = σ.2.1 25 := (g25_τ_121).trans G25
                  have y14_7_τ_121 : τ_121.2.1 14 (τ_121.1 7) = (σ.2.1 14) (σ.1 7) := by rw [g14_τ_121, w7_τ_121]
                  have TX : J_vs (τ_121.1 6) (τ_121.1 5) (τ_121.2.1 15) := by rw [show (J_vs (τ_121.1 6) (τ_121.1 5) (τ_121.2.1 15)) = (J_vs (σ.1 6) (σ.1 5) (σ.2.1 15)) from by rw [w5_τ_121, w6_τ_121, g15_τ_121]]; exact TX
                  have RKS : J_rks (τ_121.1 5) (τ_121.1 4) (τ_121.2.1 10) (τ_121.2.1 11) := by rw [show (J_rks (τ_121.1 5) (τ_121.1 4) (τ_121.2.1 10) (τ_121.2.1 11)) = (J_rks (σ.1 5) (σ.1 4) (σ.2.1 10) (σ.2.1 11)) from by rw [w4_τ_121, w5_τ_121, g10_τ_121, g11_τ_121]]; exact RKS
                  have IP : J_ip (τ_121.1 7) (τ_121.1 6) (τ_121.1 37) (τ_121.2.1 14) (τ_121.2.1 15) (τ_121.2.1 16) (τ_121.2.1 19) := by rw [show (J_ip (τ_121.1 7) (τ_121.1 6) (τ_121.1 37) (τ_121.2.1 14) (τ_121.2.1 15) (τ_121.2.1 16) (τ_121.2.1 19)) = (J_ip (σ.1 7) (σ.1 6) (σ.1 37) (σ.2.1 14) (σ.2.1 15) (σ.2.1 16) (σ.2.1 19)) from by rw [w6_τ_121, w7_τ_121, w37_τ_121, g14_τ_121, g15_τ_121, g16_τ_121, g19_τ_121]]; exact IP
                  have A8 : ∀ j, 0 ≤ τ_121.2.1 8 j ∧ τ_121.2.1 8 j ≤ 1 := fun j => hT.2 8 j
                  have A9 : ∀ j, (-1) ≤ τ_121.2.1 9 j ∧ τ_121.2.1 9 j ≤ 1499 := fun j => hT.2 9 j
                  have A10 : ∀ j, (-1) ≤ τ_121.2.1 10 j ∧ τ_121.2.1 10 j ≤ 99 := fun j => hT.2 10 j
                  have A11 : ∀ j, 0 ≤ τ_121.2.1 11 j ∧ τ_121.2.1 11 j ≤ 999 := fun j => hT.2 11 j
                  have A14 : ∀ j, 0 ≤ τ_121.2.1 14 j ∧ τ_121.2.1 14 j ≤ 30000 := fun j => hT.2 14 j
                  have A15 : ∀ j, 0 ≤ τ_121.2.1 15 j ∧ τ_121.2.1 15 j ≤ 999 := fun j => hT.2 15 j
                  have A16 : ∀ j, (-1) ≤ τ_121.2.1 16 j ∧ τ_121.2.1 16 j ≤ 1499 := fun j => hT.2 16 j
                  have A19 : ∀ j, (-1) ≤ τ_121.2.1 19 j ∧ τ_121.2.1 19 j ≤ 1499 := fun j => hT.2 19 j
                  have A20 : ∀ j, 0 ≤ τ_121.2.1 20 j ∧ τ_121.2.1 20 j ≤ 999 := fun j => hT.2 20 j
                  have A22 : ∀ j, 0 ≤ τ_121.2.1 22 j ∧ τ_121.2.1 22 j ≤ 1499 := fun j => hT.2 22 j
                  have v3 : 0 ≤ τ_121.1 3 ∧ τ_121.1 3 ≤ 2500 := hT.1 3
                  have v4 : 0 ≤ τ_121.1 4 ∧ τ_121.1 4 ≤ 100 := hT.1 4
                  have v5 : 0 ≤ τ_121.1 5 ∧ τ_121.1 5 ≤ 1000 := hT.1 5
                  have v6 : 0 ≤ τ_121.1 6 ∧ τ_121.1 6 ≤ 30000 := hT.1 6
                  have v7 : 0 ≤ τ_121.1 7 ∧ τ_121.1 7 ≤ 1500 := hT.1 7
                  have v13 : 0 ≤ τ_121.1 13 ∧ τ_121.1 13 ≤ 90000 := hT.1 13
                  have v14 : 0 ≤ τ_121.1 14 ∧ τ_121.1 14 ≤ 20000 := hT.1 14
                  have v15 : 0 ≤ τ_121.1 15 ∧ τ_121.1 15 ≤ 20000 := hT.1 15
                  have v16 : 0 ≤ τ_121.1 16 ∧ τ_121.1 16 ≤ 20000 := hT.1 16
                  have v36 : 0 ≤ τ_121.1 36 ∧ τ_121.1 36 ≤ 1001 := hT.1 36
                  have v37 : 0 ≤ τ_121.1 37 ∧ τ_121.1 37 ≤ 4 := hT.1 37
                  have a14_7 : 0 ≤ τ_121.2.1 14 (τ_121.1 7) ∧ τ_121.2.1 14 (τ_121.1 7) ≤ 30000 := hT.2 14 _
                  have av6 : σ.1 6 ≤ τ_121.1 6 := ag.1 6 (by decide)
                  refine h121 _ _ ?_
                  refine ⟨(show 0 ≤ n1 ∧ n1 < 1000 from by (first | omega | (simp only [st_s] <;> omega) | assumption | omega | fail)), ?_⟩
                  intro x24 r_x24 e_x24
                  have b_x24 : 0 ≤ x24 ∧ x24 ≤ 1 := by rw [e_x24]; exact hT.2 8 _
                  have e24b : x24 = x13 := by rw [e_x24, g8_τ_121, e_x13]
                  refine ⟨fun c25 => ?_, fun c25 => ?_⟩
                  ·
                    refine h151 _ _ _ ?_
                    refine ⟨_, K2_X3_append hT (show 0 ≤ n1 from by (first | omega | (simp only [st_s] <;> omega) | assumption | omega | fail)) (show n1 < 1000 from by (first | omega | (simp only [st_s] <;> omega) | assumption | omega | fail)) (show -1 ≤ (-1 : Int) from by (first | omega | (simp only [st_s] <;> omega) | assumption | omega | fail)) (show (-1 : Int) < 1500 from by (first | omega | (simp only [st_s] <;> omega) | assumption | omega | fail)) (show (τ_121.1 6) < 30000 from by (first | omega | (simp only [st_s] <;> omega) | assumption | omega | fail)) (show (τ_121.1 7) < 1500 from by (first | omega | (simp only [st_s] <;> omega) | assumption | omega | fail)), ?_⟩
                    intro τ29 hn_τ29 hf_τ29 hq
                    obtain ⟨hT, q27_1, q27_2, q27_3, q27_4, q27_5⟩ := hq
                    replace q27_1 : (τ29.1 6) = (τ_121.1 6) + 1 := q27_1
                    replace q27_2 : τ29.2.1 14 = st (τ_121.2.1 14) ((τ_121.1 7) + 1) ((τ_121.1 6) + 1) := q27_2
                    replace q27_3 : τ29.2.1 15 = st (τ_121.2.1 15) (τ_121.1 6) n1 := q27_3
                    replace q27_4 : τ29.2.1 16 = st (τ_121.2.1 16) (τ_121.1 6) (-1 : Int) := q27_4
                    replace q27_5 : c_ag τ_121 τ29 := q27_5
                    replace ag : c_ag σ τ29 := ag_t ag q27_5 rfl
                    have w3_τ29 : τ29.1 3 = τ_121.1 3 := hf_τ29.1 3 (by decide)
                    have w4_τ29 : τ29.1 4 = τ_121.1 4 := hf_τ29.1 4 (by decide)
                    have w5_τ29 : τ29.1 5 = τ_121.1 5 := hf_τ29.1 5 (by decide)
                    have w7_τ29 : τ29.1 7 = τ_121.1 7 := hf_τ29.1 7 (by decide)
                    have w13_τ29 : τ29.1 13 = τ_121.1 13 := hf_τ29.1 13 (by decide)
                    have w14_τ29 : τ29.1 14 = τ_121.1 14 := hf_τ29.1 14 (by decide)
                    have w15_τ29 : τ29.1 15 = τ_121.1 15 := hf_τ29.1 15 (by decide)
                    have w16_τ29 : τ29.1 16 = τ_121.1 16 := hf_τ29.1 16 (by decide)
                    have w36_τ29 : τ29.1 36 = τ_121.1 36 := hf_τ29.1 36 (by decide)
                    have w37_τ29 : τ29.1 37 = τ_121.1 37 := hf_τ29.1 37 (by decide)
                    have g8_τ29 : τ29.2.1 8 = τ_121.2.1 8 := hf_τ29.2.1 8 (by decide)
                    have g9_τ29 : τ29.2.1 9 = τ_121.2.1 9 := hf_τ29.2.1 9 (by decide)
                    have g10_τ29 : τ29.2.1 10 = τ_121.2.1 10 := hf_τ29.2.1 10 (by decide)
                    have g11_τ29 : τ29.2.1 11 = τ_121.2.1 11 := hf_τ29.2.1 11 (by decide)
                    have g19_τ29 : τ29.2.1 19 = τ_121.2.1 19 := hf_τ29.2.1 19 (by decide)
                    have g20_τ29 : τ29.2.1 20 = τ_121.2.1 20 := hf_τ29.2.1 20 (by decide)
                    have g22_τ29 : τ29.2.1 22 = τ_121.2.1 22 := hf_τ29.2.1 22 (by decide)
                    have g25_τ29 : τ29.2.1 25 = τ_121.2.1 25 := hf_τ29.2.1 25 (by decide)
                    have W3 : τ29.1 3 = σ.1 3 := by first | exact w3_τ29.trans W3 | omega
                    have W5 : τ29.1 5 = σ.1 5 := by first | exact w5_τ29.trans W5 | omega
                    have W7 : τ29.1 7 = σ.1 7 := by first | exact w7_τ29.trans W7 | omega
                    have W13 : τ29.1 13 = σ.1 13 := by first | exact w13_τ29.trans W13 | omega
                    have W14 : τ29.1 14 = σ.1 14 := by first | exact w14_τ29.trans W14 | omega
                    have W15 : τ29.1 15 = σ.1 15 := by first | exact w15_τ29.trans W15 | omega
                    have W16 : τ29.1 16 = σ.1 16 := by first | exact w16_τ29.trans W16 | omega
                    have W37 : τ29.1 37 = σ.1 37 := by first | exact w37_τ29.trans W37 | omega
                    have G8 : τ29.2.1 8 = σ.2.1 8 := (g8_τ29).trans G8
                    have G9 : τ29.2.1 9 = σ.2.1 9 := (g9_τ29).trans G9
                    have G19 : τ29.2.1 19 = σ.2.1 19 := (g19_τ29).trans G19
                    have G20 : τ29.2.1 20 = σ.2.1 20 := (g20_τ29).trans G20
                    have G22 : τ29.2.1 22 = σ.2.1 22 := (g22_τ29).trans G22
                    have G25 : τ29.2.1 25 = σ.2.1 25 := (g25_τ29).trans G25
                    have RKS : J_rks (τ29.1 5) (τ29.1 4) (τ29.2.1 10) (τ29.2.1 11) := by rw [show (J_rks (τ29.1 5) (τ29.1 4) (τ29.2.1 10) (τ29.2.1 11)) = (J_rks (τ_121.1 5) (τ_121.1 4) (τ_121.2.1 10) (τ_121.2.1 11)) from by rw [w4_τ29, w5_τ29, g10_τ29, g11_τ29]]; exact RKS
                    have A8 : ∀ j, 0 ≤ τ29.2.1 8 j ∧ τ29.2.1 8 j ≤ 1 := fun j => hT.2 8 j
                    have A9 : ∀ j, (-1) ≤ τ29.2.1 9 j ∧ τ29.2.1 9 j ≤ 1499 := fun j => hT.2 9 j
                    have A10 : ∀ j, (-1) ≤ τ29.2.1 10 j ∧ τ29.2.1 10 j ≤ 99 := fun j => hT.2 10 j
                    have A11 : ∀ j, 0 ≤ τ29.2.1 11 j ∧ τ29.2.1 11 j ≤ 999 := fun j => hT.2 11 j
                    have A14 : ∀ j, 0 ≤ τ29.2.1 14 j ∧ τ29.2.1 14 j ≤ 30000 := fun j => hT.2 14 j
                    have A15 : ∀ j, 0 ≤ τ29.2.1 15 j ∧ τ29.2.1 15 j ≤ 999 := fun j => hT.2 15 j
                    have A16 : ∀ j, (-1) ≤ τ29.2.1 16 j ∧ τ29.2.1 16 j ≤ 1499 := fun j => hT.2 16 j
                    have A19 : ∀ j, (-1) ≤ τ29.2.1 19 j ∧ τ29.2.1 19 j ≤ 1499 := fun j => hT.2 19 j
                    have A20 : ∀ j, 0 ≤ τ29.2.1 20 j ∧ τ29.2.1 20 j ≤ 999 := fun j => hT.2 20 j
                    have A22 : ∀ j, 0 ≤ τ29.2.1 22 j ∧ τ29.2.1 22 j ≤ 1499 := fun j => hT.2 22 j
                    have v3 : 0 ≤ τ29.1 3 ∧ τ29.1 3 ≤ 2500 := hT.1 3
                    have v4 : 0 ≤ τ29.1 4 ∧ τ29.1 4 ≤ 100 := hT.1 4
                    have v5 : 0 ≤ τ29.1 5 ∧ τ29.1 5 ≤ 1000 := hT.1 5
                    have v6 : 0 ≤ τ29.1 6 ∧ τ29.1 6 ≤ 30000 := hT.1 6
                    have v7 : 0 ≤ τ29.1 7 ∧ τ29.1 7 ≤ 1500 := hT.1 7
                    have v13 : 0 ≤ τ29.1 13 ∧ τ29.1 13 ≤ 90000 := hT.1 13
                    have v14 : 0 ≤ τ29.1 14 ∧ τ29.1 14 ≤ 20000 := hT.1 14
                    have v15 : 0 ≤ τ29.1 15 ∧ τ29.1 15 ≤ 20000 := hT.1 15
                    have v16 : 0 ≤ τ29.1 16 ∧ τ29.1 16 ≤ 20000 := hT.1 16
                    have v36 : 0 ≤ τ29.1 36 ∧ τ29.1 36 ≤ 1001 := hT.1 36
                    have v37 : 0 ≤ τ29.1 37 ∧ τ29.1 37 ≤ 4 := hT.1 37
                    have a14_7 : 0 ≤ τ29.2.1 14 (τ29.1 7) ∧ τ29.2.1 14 (τ29.1 7) ≤ 30000 := hT.2 14 _
                    have av6 : σ.1 6 ≤ τ29.1 6 := ag.1 6 (by decide)
                    have TX : J_vs (τ29.1 6) (τ29.1 5) (τ29.2.1 15) := by rw [q27_1, q27_3, w5_τ29]; exact J_vs_a TX (Int.le_refl _) (by omega)
                    have IPn : J_ip (τ29.1 7) (τ29.1 6) (τ29.1 37) (τ29.2.1 14) (τ29.2.1 15) (τ29.2.1 16) (τ29.2.1 19) := by rw [q27_1, q27_2, q27_3, q27_4, w7_τ29, w37_τ29, g19_τ29, w6_τ_121, w7_τ_121, w37_τ_121, g14_τ_121, g15_τ_121, g16_τ_121, g19_τ_121]; exact J_ip_a IP_0 (st_n _ _ (by omega)) (by first | exact Or.inl rfl | (refine Or.inr (Or.inl ⟨?_, ?_⟩); omega; rw [e_x26, g19_τ_121])) (fun z => by exfalso; omega) (fun z => by first | rfl | (exfalso; omega))
                    exact ⟨hT, (show 0 ≤ 0 ∧ 0 ≤ 19 from by (first | omega | (simp only [st_s] <;> omega) | assumption | omega | fail)), (show J_vs (τ29.1 6) (τ29.1 5) (τ29.2.1 15) from TX), (show J_rks (τ29.1 5) (τ29.1 4) (τ29.2.1 10) (τ29.2.1 11) from RKS), (show j_rr ((σ.1 5)) (σ.2.1 10) (τ29.2.1 10) from by (first | exact j_rr0 _ _ | exact q20_4 | (rw [g10_τ19]; exact j_rr0 _ _) | (rw [g10_τ29, g10_τ_121]; exact j_rr0 _ _) | fail)), (show 0 = 0 → (τ29.1 36) = (σ.1 36) + 1 ∧ (τ29.1 6) = (σ.1 6) + 1 ∧ τ29.2.1 14 ((τ29.1 7) + 1) = (τ29.1 6) from by (first | (intro z; exfalso; omega) | (intro z; have w := q20_5 z; exact ⟨by omega, by omega, w.2.1⟩) | (intro z; have w := q17_3 z; exact ⟨by omega, by omega, w.2⟩) | (intro _; refine ⟨by omega, by omega, ?_⟩; rw [q27_2, w7_τ29, st_s, q27_1]) | fail)), (show 0 = 0 → 0 ≤ τ29.2.1 10 (τ29.2.1 15 (τ29.2.1 14 (τ29.1 7))) from by (first | (intro z; exfalso; omega) | (intro z; exact (q20_5 z).2.2) | (intro z; have a1 := ag.2 (14, 7, 1) (by decide) (σ.1 7) (by show σ.1 7 < σ.1 7 + 1; omega); have a2 := ag.2 (15, 6, 0) (by decide) (σ.2.1 14 (σ.1 7)) (by show σ.2.1 14 (σ.1 7) < σ.1 6 + 0; omega); rw [show τ19.1 7 = σ.1 7 from by omega, show τ19.2.1 14 (σ.1 7) = σ.2.1 14 (σ.1 7) from a1, show τ19.2.1 15 (σ.2.1 14 (σ.1 7)) = σ.2.1 15 (σ.2.1 14 (σ.1 7)) from a2, g10_τ19]; exact p9 (by omega)) | (intro z; have a1 := ag.2 (14, 7, 1) (by decide) (σ.1 7) (by show σ.1 7 < σ.1 7 + 1; omega); have a2 := ag.2 (15, 6, 0) (by decide) (σ.2.1 14 (σ.1 7)) (by show σ.2.1 14 (σ.1 7) < σ.1 6 + 0; omega); rw [show τ29.1 7 = σ.1 7 from by omega, show τ29.2.1 14 (σ.1 7) = σ.2.1 14 (σ.1 7) from a1, show τ29.2.1 15 (σ.2.1 14 (σ.1 7)) = σ.2.1 15 (σ.2.1 14 (σ.1 7)) from a2, g10_τ29, g10_τ_121]; exact p9 (by omega)) | fail)), (show 0 = 0 → (σ.1 37) = 0 → (τ29.1 36) ≤ 2 from by (intro z; omega)), (show 0 = 0 → (τ29.1 36) ≤ 300 from by (intro z; omega)), (show 0 = 0 → J_ip (τ29.1 7) (τ29.1 6) (τ29.1 37) (τ29.2.1 14) (τ29.2.1 15) (τ29.2.1 16) (τ29.2.1 19) from by (first | (intro z; exfalso; omega) | (intro z; exact q20_6 z) | (intro z; exact q17_4 z) | (intro _; exact IPn) | fail)), (show c_Y σ τ29 from by (first | exact c_Y0 _ | exact q20_7 | exact c_Y_g (by omega) (by rw [g11_τ19]) (by rw [g20_τ19]) (by rw [g22_τ19]) (by rw [g25_τ19]) | exact c_Y_g (by omega) (by rw [g11_τ29, g11_τ_121]) (by rw [g20_τ29, g20_τ_121]) (by rw [g22_τ29, g22_τ_121]) (by rw [g25_τ29, g25_τ_121]) | fail)), ag⟩
                  ·
                    intro x26 r_x26 e_x26
                    have b_x26 : (-1) ≤ x26 ∧ x26 ≤ 1499 := by rw [e_x26]; exact hT.2 19 _
                    first | (have e26b : x26 = x15 := by rw [e_x26, g19_τ_121, e_x15]) | skip
                    refine h151 _ _ _ ?_
                    refine ⟨_, K2_X3_append hT (show 0 ≤ n1 from by (first | omega | (simp only [st_s] <;> omega) | assumption | omega | fail)) (show n1 < 1000 from by (first | omega | (simp only [st_s] <;> omega) | assumption | omega | fail)) (show -1 ≤ x26 from by (first | omega | (simp only [st_s] <;> omega) | assumption | omega | fail)) (show x26 < 1500 from by (first | omega | (simp only [st_s] <;> omega) | assumption | omega | fail)) (show (τ_121.1 6) < 30000 from by (first | omega | (simp only [st_s] <;> omega) | assumption | omega | fail)) (show (τ_121.1 7) < 1500 from by (first | omega | (simp only [st_s] <;> omega) | assumption | omega | fail)), ?_⟩
                    intro τ29 hn_τ29 hf_τ29 hq
                    obtain ⟨hT, q27_1, q27_2, q27_3, q27_4, q27_5⟩ := hq
                    replace q27_1 : (τ29.1 6) = (τ_121.1 6) + 1 := q27_1
                    replace q27_2 : τ29.2.1 14 = st (τ_121.2.1 14) ((τ_121.1 7) + 1) ((τ_121.1 6) + 1) := q27_2
                    replace q27_3 : τ29.2.1 15 = st (τ_121.2.1 15) (τ_121.1 6) n1 := q27_3
                    replace q27_4 : τ29.2.1 16 = st (τ_121.2.1 16) (τ_121.1 6) x26 := q27_4
                    replace q27_5 : c_ag τ_121 τ29 := q27_5
                    replace ag : c_ag σ τ29 := ag_t ag q27_5 rfl
                    have w3_τ29 : τ29.1 3 = τ_121.1 3 := hf_τ29.1 3 (by decide)
                    have w4_τ29 : τ29.1 4 = τ_121.1 4 := hf_τ29.1 4 (by decide)
                    have w5_τ29 : τ29.1 5 = τ_121.1 5 := hf_τ29.1 5 (by decide)
                    have w7_τ29 : τ29.1 7 = τ_121.1 7 := hf_τ29.1 7 (by decide)
                    have w13_τ29 : τ29.1 13 = τ_121.1 13 := hf_τ29.1 13 (by decide)
                    have w14_τ29 : τ29.1 14 = τ_121.1 14 := hf_τ29.1 14 (by decide)
                    have w15_τ29 : τ29.1 15 = τ_121.1 15 := hf_τ29.1 15 (by decide)
                    have w16_τ29 : τ29.1 16 = τ_121.1 16 := hf_τ29.1 16 (by decide)
                    have w36_τ29 : τ29.1 36 = τ_121.1 36 := hf_τ29.1 36 (by decide)
                    have w37_τ29 : τ29.1 37 = τ_121.1 37 := hf_τ29.1 37 (by decide)
                    have g8_τ29 : τ29.2.1 8 = τ_121.2.1 8 := hf_τ29.2.1 8 (by decide)
                    have g9_τ29 : τ29.2.1 9 = τ_121.2.1 9 := hf_τ29.2.1 9 (by decide)
                    have g10_τ29 : τ29.2.1 10 = τ_121.2.1 10 := hf_τ29.2.1 10 (by decide)
                    have g11_τ29 : τ29.2.1 11 = τ_121.2.1 11 := hf_τ29.2.1 11 (by decide)
                    have g19_τ29 : τ29.2.1 19 = τ_121.2.1 19 := hf_τ29.2.1 19 (by decide)
                    have g20_τ29 : τ29.2.1 20 = τ_121.2.1 20 := hf_τ29.2.1 20 (by decide)
                    have g22_τ29 : τ29.2.1 22 = τ_121.2.1 22 := hf_τ29.2.1 22 (by decide)
                    have g25_τ29 : τ29.2.1 25 = τ_121.2.1 25 := hf_τ29.2.1 25 (by decide)
                    have W3 : τ29.1 3 = σ.1 3 := by first | exact w3_τ29.trans W3 | omega
                    have W5 : τ29.1 5 = σ.1 5 := by first | exact w5_τ29.trans W5 | omega
                    have W7 : τ29.1 7 = σ.1 7 := by first | exact w7_τ29.trans W7 | omega
                    have W13 : τ29.1 13 = σ.1 13 := by first | exact w13_τ29.trans W13 | omega
                    have W14 : τ29.1 14 = σ.1 14 := by first | exact w14_τ29.trans W14 | omega
                    have W15 : τ29.1 15 = σ.1 15 := by first | exact w15_τ29.trans W15 | omega
                    have W16 : τ29.1 16 = σ.1 16 := by first | exact w16_τ29.trans W16 | omega
                    have W37 : τ29.1 37 = σ.1 37 := by first | exact w37_τ29.trans W37 | omega
                    have G8 : τ29.2.1 8 = σ.2.1 8 := (g8_τ29).trans G8
                    have G9 : τ29.2.1 9 = σ.2.1 9 := (g9_τ29).trans G9
                    have G19 : τ29.2.1 19 = σ.2.1 19 := (g19_τ29).trans G19
                    have G20 : τ29.2.1 20 = σ.2.1 20 := (g20_τ29).trans G20
                    have G22 : τ29.2.1 22 = σ.2.1 22 := (g22_τ29).trans G22
                    have G25 : τ29.2.1 25 = σ.2.1 25 := (g25_τ29).trans G25
                    have RKS : J_rks (τ29.1 5) (τ29.1 4) (τ29.2.1 10) (τ29.2.1 11) := by rw [show (J_rks (τ29.1 5) (τ29.1 4) (τ29.2.1 10) (τ29.2.1 11)) = (J_rks (τ_121.1 5) (τ_121.1 4) (τ_121.2.1 10) (τ_121.2.1 11)) from by rw [w4_τ29, w5_τ29, g10_τ29, g11_τ29]]; exact RKS
                    have A8 : ∀ j, 0 ≤ τ29.2.1 8 j ∧ τ29.2.1 8 j ≤ 1 := fun j => hT.2 8 j
                    have A9 : ∀ j, (-1) ≤ τ29.2.1 9 j ∧ τ29.2.1 9 j ≤ 1499 := fun j => hT.2 9 j
                    have A10 : ∀ j, (-1) ≤ τ29.2.1 10 j ∧ τ29.2.1 10 j ≤ 99 := fun j => hT.2 10 j
                    have A11 : ∀ j, 0 ≤ τ29.2.1 11 j ∧ τ29.2.1 11 j ≤ 999 := fun j => hT.2 11 j
                    have A14 : ∀ j, 0 ≤ τ29.2.1 14 j ∧ τ29.2.1 14 j ≤ 30000 := fun j => hT.2 14 j
                    have A15 : ∀ j, 0 ≤ τ29.2.1 15 j ∧ τ29.2.1 15 j ≤ 999 := fun j => hT.2 15 j
                    have A16 : ∀ j, (-1) ≤ τ29.2.1 16 j ∧ τ29.2.1 16 j ≤ 1499 := fun j => hT.2 16 j
                    have A19 : ∀ j, (-1) ≤ τ29.2.1 19 j ∧ τ29.2.1 19 j ≤ 1499 := fun j => hT.2 19 j
                    have A20 : ∀ j, 0 ≤ τ29.2.1 20 j ∧ τ29.2.1 20 j ≤ 999 := fun j => hT.2 20 j
                    have A22 : ∀ j, 0 ≤ τ29.2.1 22 j ∧ τ29.2.1 22 j ≤ 1499 := fun j => hT.2 22 j
                    have v3 : 0 ≤ τ29.1 3 ∧ τ29.1 3 ≤ 2500 := hT.1 3
                    have v4 : 0 ≤ τ29.1 4 ∧ τ29.1 4 ≤ 100 := hT.1 4
                    have v5 : 0 ≤ τ29.1 5 ∧ τ29.1 5 ≤ 1000 := hT.1 5
                    have v6 : 0 ≤ τ29.1 6 ∧ τ29.1 6 ≤ 30000 := hT.1 6
                    have v7 : 0 ≤ τ29.1 7 ∧ τ29.1 7 ≤ 1500 := hT.1 7
                    have v13 : 0 ≤ τ29.1 13 ∧ τ29.1 13 ≤ 90000 := hT.1 13
                    have v14 : 0 ≤ τ29.1 14 ∧ τ29.1 14 ≤ 20000 := hT.1 14
                    have v15 : 0 ≤ τ29.1 15 ∧ τ29.1 15 ≤ 20000 := hT.1 15
                    have v16 : 0 ≤ τ29.1 16 ∧ τ29.1 16 ≤ 20000 := hT.1 16
                    have v36 : 0 ≤ τ29.1 36 ∧ τ29.1 36 ≤ 1001 := hT.1 36
                    have v37 : 0 ≤ τ29.1 37 ∧ τ29.1 37 ≤ 4 := hT.1 37
                    have a14_7 : 0 ≤ τ29.2.1 14 (τ29.1 7) ∧ τ29.2.1 14 (τ29.1 7) ≤ 30000 := hT.2 14 _
                    have av6 : σ.1 6 ≤ τ29.1 6 := ag.1 6 (by decide)
                    have TX : J_vs (τ29.1 6) (τ29.1 5) (τ29.2.1 15) := by rw [q27_1, q27_3, w5_τ29]; exact J_vs_a TX (Int.le_refl _) (by omega)
                    have IPn : J_ip (τ29.1 7) (τ29.1 6) (τ29.1 37) (τ29.2.1 14) (τ29.2.1 15) (τ29.2.1 16) (τ29.2.1 19) := by rw [q27_1, q27_2, q27_3, q27_4, w7_τ29, w37_τ29, g19_τ29, w6_τ_121, w7_τ_121, w37_τ_121, g14_τ_121, g15_τ_121, g16_τ_121, g19_τ_121]; exact J_ip_a IP_0 (st_n _ _ (by omega)) (by first | exact Or.inl rfl | (refine Or.inr (Or.inl ⟨?_, ?_⟩); omega; rw [e_x26, g19_τ_121])) (fun z => by exfalso; omega) (fun z => by first | rfl | (exfalso; omega))
                    exact ⟨hT, (show 0 ≤ 0 ∧ 0 ≤ 19 from by (first | omega | (simp only [st_s] <;> omega) | assumption | omega | fail)), (show J_vs (τ29.1 6) (τ29.1 5) (τ29.2.1 15) from TX), (show J_rks (τ29.1 5) (τ29.1 4) (τ29.2.1 10) (τ29.2.1 11) from RKS), (show j_rr ((σ.1 5)) (σ.2.1 10) (τ29.2.1 10) from by (first | exact j_rr0 _ _ | exact q20_4 | (rw [g10_τ19]; exact j_rr0 _ _) | (rw [g10_τ29, g10_τ_121]; exact j_rr0 _ _) | fail)), (show 0 = 0 → (τ29.1 36) = (σ.1 36) + 1 ∧ (τ29.1 6) = (σ.1 6) + 1 ∧ τ29.2.1 14 ((τ29.1 7) + 1) = (τ29.1 6) from by (first | (intro z; exfalso; omega) | (intro z; have w := q20_5 z; exact ⟨by omega, by omega, w.2.1⟩) | (intro z; have w := q17_3 z; exact ⟨by omega, by omega, w.2⟩) | (intro _; refine ⟨by omega, by omega, ?_⟩; rw [q27_2, w7_τ29, st_s, q27_1]) | fail)), (show 0 = 0 → 0 ≤ τ29.2.1 10 (τ29.2.1 15 (τ29.2.1 14 (τ29.1 7))) from by (first | (intro z; exfalso; omega) | (intro z; exact (q20_5 z).2.2) | (intro z; have a1 := ag.2 (14, 7, 1) (by decide) (σ.1 7) (by show σ.1 7 < σ.1 7 + 1; omega); have a2 := ag.2 (15, 6, 0) (by decide) (σ.2.1 14 (σ.1 7)) (by show σ.2.1 14 (σ.1 7) < σ.1 6 + 0; omega); rw [show τ19.1 7 = σ.1 7 from by omega, show τ19.2.1 14 (σ.1 7) = σ.2.1 14 (σ.1 7) from a1, show τ19.2.1 15 (σ.2.1 14 (σ.1 7)) = σ.2.1 15 (σ.2.1 14 (σ.1 7)) from a2, g10_τ19]; exact p9 (by omega)) | (intro z; have a1 := ag.2 (14, 7, 1) (by decide) (σ.1 7) (by show σ.1 7 < σ.1 7 + 1; omega); have a2 := ag.2 (15, 6, 0) (by decide) (σ.2.1 14 (σ.1 7)) (by show σ.2.1 14 (σ.1 7) < σ.1 6 + 0; omega); rw [show τ29.1 7 = σ.1 7 from by omega, show τ29.2.1 14 (σ.1 7) = σ.2.1 14 (σ.1 7) from a1, show τ29.2.1 15 (σ.2.1 14 (σ.1 7)) = σ.2.1 15 (σ.2.1 14 (σ.1 7)) from a2, g10_τ29, g10_τ_121]; exact p9 (by omega)) | fail)), (show 0 = 0 → (σ.1 37) = 0 → (τ29.1 36) ≤ 2 from by (intro z; omega)), (show 0 = 0 → (τ29.1 36) ≤ 300 from by (intro z; omega)), (show 0 = 0 → J_ip (τ29.1 7) (τ29.1 6) (τ29.1 37) (τ29.2.1 14) (τ29.2.1 15) (τ29.2.1 16) (τ29.2.1 19) from by (first | (intro z; exfalso; omega) | (intro z; exact q20_6 z) | (intro z; exact q17_4 z) | (intro _; exact IPn) | fail)), (show c_Y σ τ29 from by (first | exact c_Y0 _ | exact q20_7 | exact c_Y_g (by omega) (by rw [g11_τ19]) (by rw [g20_τ19]) (by rw [g22_τ19]) (by rw [g25_τ19]) | exact c_Y_g (by omega) (by rw [g11_τ29, g11_τ_121]) (by rw [g20_τ29, g20_τ_121]) (by rw [g22_τ29, g22_τ_121]) (by rw [g25_τ29, g25_τ_121]) | fail)), ag⟩
                ·
                  intro x15 r_x15 e_x15
                  have b_x15 : (-1) ≤ x15 ∧ x15 ≤ 1499 := by rw [e_x15]; exact hT.2 19 _
                  refine ⟨fun c16 => ?_, fun c16 => ?_⟩
                  ·
                    obtain ⟨τ_121, e_τ_121⟩ : ∃ z : S0, z = s_v σ 36 (σ.1 36 + 1) := ⟨_, rfl⟩
                    rw [← e_τ_121]
                    replace hT : c_T τ_121 := by rw [e_τ_121]; exact hT
                    replace ag : c_ag σ τ_121 := by rw [e_τ_121]; exact ag
                    have w3_τ_121 : τ_121.1 3 = σ.1 3 := by rw [e_τ_121]; rfl
                    have w4_τ_121 : τ_121.1 4 = σ.1 4 := by rw [e_τ_121]; rfl
                    have w5_τ_121 : τ_121.1 5 = σ.1 5 := by rw [e_τ_121]; rfl
                    have w6_τ_121 : τ_121.1 6 = σ.1 6 := by rw [e_τ_121]; rfl
                    have w7_τ_121 : τ_121.1 7 = σ.1 7 := by rw [e_τ_121]; rfl
                    have w13_τ_121 : τ_121.1 13 = σ.1 13 := by rw [e_τ_121]; rfl
                    have w14_τ_121 : τ_121.1 14 = σ.1 14 := by rw [e_τ_121]; rfl
                    have w15_τ_121 : τ_121.1 15 = σ.1 15 := by rw [e_τ_121]; rfl
                    have w16_τ_121 : τ_121.1 16 = σ.1 16 := by rw [e_τ_121]; rfl
                    have w36_τ_121 : τ_121.1 36 = (σ.1 36 + 1) := by rw [e_τ_121]; rfl
                    have w37_τ_121 : τ_121.1 37 = σ.1 37 := by rw [e_τ_121]; rfl
                    have g8_τ_121 : τ_121.2.1 8 = σ.2.1 8 := by rw [e_τ_121]; rfl
                    have g9_τ_121 : τ_121.2.1 9 = σ.2.1 9 := by rw [e_τ_121]; rfl
                    have g10_τ_121 : τ_121.2.1 10 = σ.2.1 10 := by rw [e_τ_121]; rfl
                    have g11_τ_121 : τ_121.2.1 11 = σ.2.1 11 := by rw [e_τ_121]; rfl
                    have g14_τ_121 : τ_121.2.1 14 = σ.2.1 14 := by rw [e_τ_121]; rfl
                    have g15_τ_121 : τ_121.2.1 15 = σ.2.1 15 := by rw [e_τ_121]; rfl
                    have g16_τ_121 : τ_121.2.1 16 = σ.2.1 16 := by rw [e_τ_121]; rfl
                    have g19_τ_121 : τ_121.2.1 19 = σ.2.1 19 := by rw [e_τ_121]; rfl
                    have g20_τ_121 : τ_121.2.1 20 = σ.2.1 20 := by rw [e_τ_121]; rfl
                    have g22_τ_121 : τ_121.2.1 22 = σ.2.1 22 := by rw [e_τ_121]; rfl
                    have g25_τ_121 : τ_121.2.1 25 = σ.2.1 25 := by rw [e_τ_121]; rfl
                    have W3 : τ_121.1 3 = σ.1 3 := by first | exact w3_τ_121.trans W3 | omega
                    have W5 : τ_121.1 5 = σ.1 5 := by first | exact w5_τ_121.trans W5 | omega
                    have W7 : τ_121.1 7 = σ.1 7 := by first | exact w7_τ_121.trans W7 | omega
                    have W13 : τ_121.1 13 = σ.1 13 := by first | exact w13_τ_121.trans W13 | omega
                    have W14 : τ_121.1 14 = σ.1 14 := by first | exact w14_τ_121.trans W14 | omega
                    have W15 : τ_121.1 15 = σ.1 15 := by first | exact w15_τ_121.trans W15 | omega
                    have W16 : τ_121.1 16 = σ.1 16 := by first | exact w16_τ_121.trans W16 | omega
                    have W37 : τ_121.1 37 = σ.1 37 := by first | exact w37_τ_121.trans W37 | omega
                    have G8 : τ_121.2.1 8 = σ.2.1 8 := (g8_τ_121).trans G8
                    have G9 : τ_121.2.1 9 = σ.2.1 9 := (g9_τ_121).trans G9
                    have G19 : τ_121.2.1 19 = σ.2.1 19 := (g19_τ_121).trans G19
                    have G20 : τ_121.2.1 20 = σ.2.1 20 := (g20_τ_121).trans G20
                    have G22 : τ_121.2.1 22 = σ.2.1 22 := (g22_τ_121).trans G22
                    have G25 : τ_121.2.1 25 = σ.2.1 25 := (g25_τ_121).trans G25
                    have y14_7_τ_121 : τ_121.2.1 14 (τ_121.1 7) = (σ.2.1 14) (σ.1 7) := by rw [g14_τ_121, w7_τ_121]
                    have TX : J_vs (τ_121.1 6) (τ_121.1 5) (τ_121.2.1 15) := by rw [show (J_vs (τ_121.1 6) (τ_121.1 5) (τ_121.2.1 15)) = (J_vs (σ.1 6) (σ.1 5) (σ.2.1 15)) from by rw [w5_τ_121, w6_τ_121, g15_τ_121]]; exact TX
                    have RKS : J_rks (τ_121.1 5) (τ_121.1 4) (τ_121.2.1 10) (τ_121.2.1 11) := by rw [show (J_rks (τ_121.1 5) (τ_121.1 4) (τ_121.2.1 10) (τ_121.2.1 11)) = (J_rks (σ.1 5) (σ.1 4) (σ.2.1 10) (σ.2.1 11)) from by rw [w4_τ_121, w5_τ_121, g10_τ_121, g11_τ_121]]; exact RKS
                    have IP : J_ip (τ_121.1 7) (τ_121.1 6) (τ_121.1 37) (τ_121.2.1 14) (τ_121.2.1 15) (τ_121.2.1 16) (τ_121.2.1 19) := by rw [show (J_ip (τ_121.1 7) (τ_121.1 6) (τ_121.1 37) (τ_121.2.1 14) (τ_121.2.1 15) (τ_121.2.1 16) (τ_121.2.1 19)) = (J_ip (σ.1 7) (σ.1 6) (σ.1 37) (σ.2.1 14) (σ.2.1 15) (σ.2.1 16) (σ.2.1 19)) from by rw [w6_τ_121, w7_τ_121, w37_τ_121, g14_τ_121, g15_τ_121, g16_τ_121, g19_τ_121]]; exact IP
                    have A8 : ∀ j, 0 ≤ τ_121.2.1 8 j ∧ τ_121.2.1 8 j ≤ 1 := fun j => hT.2 8 j
                    have A9 : ∀ j, (-1) ≤ τ_121.2.1 9 j ∧ τ_121.2.1 9 j ≤ 1499 := fun j => hT.2 9 j
                    have A10 : ∀ j, (-1) ≤ τ_121.2.1 10 j ∧ τ_121.2.1 10 j ≤ 99 := fun j => hT.2 10 j
                    have A11 : ∀ j, 0 ≤ τ_121.2.1 11 j ∧ τ_121.2.1 11 j ≤ 999 := fun j => hT.2 11 j
                    have A14 : ∀ j, 0 ≤ τ_121.2.1 14 j ∧ τ_121.2.1 14 j ≤ 30000 := fun j => hT.2 14 j
                    have A15 : ∀ j, 0 ≤ τ_121.2.1 15 j ∧ τ_121.2.1 15 j ≤ 999 := fun j => hT.2 15 j
                    have A16 : ∀ j, (-1) ≤ τ_121.2.1 16 j ∧ τ_121.2.1 16 j ≤ 1499 := fun j => hT.2 16 j
                    have A19 : ∀ j, (-1) ≤ τ_121.2.1 19 j ∧ τ_121.2.1 19 j ≤ 1499 := fun j => hT.2 19 j
                    have A20 : ∀ j, 0 ≤ τ_121.2.1 20 j ∧ τ_121.2.1 20 j ≤ 999 := fun j => hT.2 20 j
                    have A22 : ∀ j, 0 ≤ τ_121.2.1 22 j ∧ τ_121.2.1 22 j ≤ 1499 := fun j => hT.2 22 j
                    have v3 : 0 ≤ τ_121.1 3 ∧ τ_121.1 3 ≤ 2500 := hT.1 3
                    have v4 : 0 ≤ τ_121.1 4 ∧ τ_121.1 4 ≤ 100 := hT.1 4
                    have v5 : 0 ≤ τ_121.1 5 ∧ τ_121.1 5 ≤ 1000 := hT.1 5
                    have v6 : 0 ≤ τ_121.1 6 ∧ τ_121.1 6 ≤ 30000 := hT.1 6
                    have v7 : 0 ≤ τ_121.1 7 ∧ τ_121.1 7 ≤ 1500 := hT.1 7
                    have v13 : 0 ≤ τ_121.1 13 ∧ τ_121.1 13 ≤ 90000 := hT.1 13
                    have v14 : 0 ≤ τ_121.1 14 ∧ τ_121.1 14 ≤ 20000 := hT.1 14
                    have v15 : 0 ≤ τ_121.1 15 ∧ τ_121.1 15 ≤ 20000 := hT.1 15
                    have v16 : 0 ≤ τ_121.1 16 ∧ τ_121.1 16 ≤ 20000 := hT.1 16
                    have v36 : 0 ≤ τ_121.1 36 ∧ τ_121.1 36 ≤ 1001 := hT.1 36
                    have v37 : 0 ≤ τ_121.1 37 ∧ τ_121.1 37 ≤ 4 := hT.1 37
                    have a14_7 : 0 ≤ τ_121.2.1 14 (τ_121.1 7) ∧ τ_121.2.1 14 (τ_121.1 7) ≤ 30000 := hT.2 14 _
                    have av6 : σ.1 6 ≤ τ_121.1 6 := ag.1 6 (by decide)
                    refine h121 _ _ ?_
                    refine ⟨(show 0 ≤ n1 ∧ n1 < 1000 from by (first | omega | (simp only [st_s] <;> omega) | assumption | omega | fail)), ?_⟩
                    intro x24 r_x24 e_x24
                    have b_x24 : 0 ≤ x24 ∧ x24 ≤ 1 := by rw [e_x24]; exact hT.2 8 _
                    have e24b : x24 = x13 := by rw [e_x24, g8_τ_121, e_x13]
                    refine ⟨fun c25 => ?_, fun c25 => ?_⟩
                    ·
                      refine h151 _ _ _ ?_
                      refine ⟨_, K2_X3_append hT (show 0 ≤ n1 from by (first | omega | (simp only [st_s] <;> omega) | assumption | omega | fail)) (show n1 < 1000 from by (first | omega | (simp only [st_s] <;> omega) | assumption | omega | fail)) (show -1 ≤ (-1 : Int) from by (first | omega | (simp only [st_s] <;> omega) | assumption | omega | fail)) (show (-1 : Int) < 1500 from by (first | omega | (simp only [st_s] <;> omega) | assumption | omega | fail)) (show (τ_121.1 6) < 30000 from by (first | omega | (simp only [st_s] <;> omega) | assumption | omega | fail)) (show (τ_121.1 7) < 1500 from by (first | omega | (simp only [st_s] <;> omega) | assumption | omega | fail)), ?_⟩
                      intro τ29 hn_τ29 hf_τ29 hq
                      obtain ⟨hT, q27_1, q27_2, q27_3, q27_4, q27_5⟩ := hq
                      replace q27_1 : (τ29.1 6) = (τ_121.1 6) + 1 := q27_1
                      replace q27_2 : τ29.2.1 14 = st (τ_121.2.1 14) ((τ_121.1 7) + 1) ((τ_121.1 6) + 1) := q27_2
                      replace q27_3 : τ29.2.1 15 = st (τ_121.2.1 15) (τ_121.1 6) n1 := q27_3
                      replace q27_4 : τ29.2.1 16 = st (τ_121.2.1 16) (τ_121.1 6) (-1 : Int) := q27_4
                      replace q27_5 : c_ag τ_121 τ29 := q27_5
                      replace ag : c_ag σ τ29 := ag_t ag q27_5 rfl
                      have w3_τ29 : τ29.1 3 = τ_121.1 3 := hf_τ29.1 3 (by decide)
                      have w4_τ29 : τ29.1 4 = τ_121.1 4 := hf_τ29.1 4 (by decide)
                      have w5_τ29 : τ29.1 5 = τ_121.1 5 := hf_τ29.1 5 (by decide)
                      have w7_τ29 : τ29.1 7 = τ_121.1 7 := hf_τ29.1 7 (by decide)
                      have w13_τ29 : τ29.1 13 = τ_121.1 13 := hf_τ29.1 13 (by decide)
                      have w14_τ29 : τ29.1 14 = τ_121.1 14 := hf_τ29.1 14 (by decide)
                      have w15_τ29 : τ29.1 15 = τ_121.1 15 := hf_τ29.1 15 (by decide)
                      have w16_τ29 : τ29.1 16 = τ_121.1 16 := hf_τ29.1 16 (by decide)
                      have w36_τ29 : τ29.1 36 = τ_121.1 36 := hf_τ29.1 36 (by decide)
                      have w37_τ29 : τ29.1 37 = τ_121.1 37 := hf_τ29.1 37 (by decide)
                      have g8_τ29 : τ29.2.1 8 = τ_121.2.1 8 := hf_τ29.2.1 8 (by decide)
                      have g9_τ29 : τ29.2.1 9 = τ_121.2.1 9 := hf_τ29.2.1 9 (by decide)
                      have g10_τ29 : τ29.2.1 10 = τ_121.2.1 10 := hf_τ29.2.1 10 (by decide)
                      have g11_τ29 : τ29.2.1 11 = τ_121.2.1 11 := hf_τ29.2.1 11 (by decide)
                      have g19_τ29 : τ29.2.1 19 = τ_121.2.1 19 := hf_τ29.2.1 19 (by decide)
                      have g20_τ29 : τ29.2.1 20 = τ_121.2.1 20 := hf_τ29.2.1 20 (by decide)
                      have g22_τ29 : τ29.2.1 22 = τ_121.2.1 22 := hf_τ29.2.1 22 (by decide)
                      have g25_τ29 : τ29.2.1 25 = τ_121.2.1 25 := hf_τ29.2.1 25 (by decide)
                      have W3 : τ29.1 3 = σ.1 3 := by first | exact w3_τ29.trans W3 | omega
                      have W5 : τ29.1 5 = σ.1 5 := by first | exact w5_τ29.trans W5 | omega
                      have W7 : τ29.1 7 = σ.1 7 := by first | exact w7_τ29.trans W7 | omega
                      have W13 : τ29.1 13 = σ.1 13 := by first | exact w13_τ29.trans W13 | omega
                      have W14 : τ29.1 14 = σ.1 14 := by first | exact w14_τ29.trans W14 | omega
                      have W15 : τ29.1 15 = σ.1 15 := by first | exact w15_τ29.trans W15 | omega
                      have W16 : τ29.1 16 = σ.1 16 := by first | exact w16_τ29.trans W16 | omega
                      have W37 : τ29.1 37 = σ.1 37 := by first | exact w37_τ29.trans W37 | omega
                      have G8 : τ29.2.1 8 = σ.2.1 8 := (g8_τ29).trans G8
                      have G9 : τ29.2.1 9 = σ.2.1 9 := (g9_τ29).trans G9
                      have G19 : τ29.2.1 19 = σ.2.1 19 := (g19_τ29).trans G19
                      have G20 : τ29.2.1 20 = σ.2.1 20 := (g20_τ29).trans G20
                      have G22 : τ29.2.1 22 = σ.2.1 22 := (g22_τ29).trans G22
                      have G25 : τ29.2.1 25 = σ.2.1 25 := (g25_τ29).trans G25
                      have RKS : J_rks (τ29.1 5) (τ29.1 4) (τ29.2.1 10) (τ29.2.1 11) := by rw [show (J_rks (τ29.1 5) (τ29.1 4) (τ29.2.1 10) (τ29.2.1 11)) = (J_rks (τ_121.1 5) (τ_121.1 4) (τ_121.2.1 10) (τ_121.2.1 11)) from by rw [w4_τ29, w5_τ29, g10_τ29, g11_τ29]]; exact RKS
                      have A8 : ∀ j, 0 ≤ τ29.2.1 8 j ∧ τ29.2.1 8 j ≤ 1 := fun j => hT.2 8 j
                      have A9 : ∀ j, (-1) ≤ τ29.2.1 9 j ∧ τ29.2.1 9 j ≤ 1499 := fun j => hT.2 9 j
                      have A10 : ∀ j, (-1) ≤ τ29.2.1 10 j ∧ τ29.2.1 10 j ≤ 99 := fun j => hT.2 10 j
                      have A11 : ∀ j, 0 ≤ τ29.2.1 11 j ∧ τ29.2.1 11 j ≤ 999 := fun j => hT.2 11 j
                      have A14 : ∀ j, 0 ≤ τ29.2.1 14 j ∧ τ29.2.1 14 j ≤ 30000 := fun j => hT.2 14 j
                      have A15 : ∀ j, 0 ≤ τ29.2.1 15 j ∧ τ29.2.1 15 j ≤ 999 := fun j => hT.2 15 j
                      have A16 : ∀ j, (-1) ≤ τ29.2.1 16 j ∧ τ29.2.1 16 j ≤ 1499 := fun j => hT.2 16 j
                      have A19 : ∀ j, (-1) ≤ τ29.2.1 19 j ∧ τ29.2.1 19 j ≤ 1499 := fun j => hT.2 19 j
                      have A20 : ∀ j, 0 ≤ τ29.2.1 20 j ∧ τ29.2.1 20 j ≤ 999 := fun j => hT.2 20 j
                      have A22 : ∀ j, 0 ≤ τ29.2.1 22 j ∧ τ29.2.1 22 j ≤ 1499 := fun j => hT.2 22 j
                      have v3 : 0 ≤ τ29.1 3 ∧ τ29.1 3 ≤ 2500 := hT.1 3
                      have v4 : 0 ≤ τ29.1 4 ∧ τ29.1 4 ≤ 100 := hT.1 4
                      have v5 : 0 ≤ τ29.1 5 ∧ τ29.1 5 ≤ 1000 := hT.1 5
                      have v6 : 0 ≤ τ29.1 6 ∧ τ29.1 6 ≤ 30000 := hT.1 6
                      have v7 : 0 ≤ τ29.1 7 ∧ τ29.1 7 ≤ 1500 := hT.1 7
                      have v13 : 0 ≤ τ29.1 13 ∧ τ29.1 13 ≤ 90000 := hT.1 13
                      have v14 : 0 ≤ τ29.1 14 ∧ τ29.1 14 ≤ 20000 := hT.1 14
                      have v15 : 0 ≤ τ29.1 15 ∧ τ29.1 15 ≤ 20000 := hT.1 15
                      have v16 : 0 ≤ τ29.1 16 ∧ τ29.1 16 ≤ 20000 := hT.1 16
                      have v36 : 0 ≤ τ29.1 36 ∧ τ29.1 36 ≤ 1001 := hT.1 36
                      have v37 : 0 ≤ τ29.1 37 ∧ τ29.1 37 ≤ 4 := hT.1 37
                      have a14_7 : 0 ≤ τ29.2.1 14 (τ29.1 7) ∧ τ29.2.1 14 (τ29.1 7) ≤ 30000 := hT.2 14 _
                      have av6 : σ.1 6 ≤ τ29.1 6 := ag.1 6 (by decide)
                      have TX : J_vs (τ29.1 6) (τ29.1 5) (τ29.2.1 15) := by rw [q27_1, q27_3, w5_τ29]; exact J_vs_a TX (Int.le_refl _) (by omega)
                      have IPn : J_ip (τ29.1 7) (τ29.1 6) (τ29.1 37) (τ29.2.1 14) (τ29.2.1 15) (τ29.2.1 16) (τ29.2.1 19) := by rw [q27_1, q27_2, q27_3, q27_4, w7_τ29, w37_τ29, g19_τ29, w6_τ_121, w7_τ_121, w37_τ_121, g14_τ_121, g15_τ_121, g16_τ_121, g19_τ_121]; exact J_ip_a IP_0 (st_n _ _ (by omega)) (by first | exact Or.inl rfl | (refine Or.inr (Or.inl ⟨?_, ?_⟩); omega; rw [e_x26, g19_τ_121])) (fun z => by exfalso; omega) (fun z => by first | rfl | (exfalso; omega))
                      exact ⟨hT, (show 0 ≤ 0 ∧ 0 ≤ 19 from by (first | omega | (simp only [st_s] <;> omega) | assumption | omega | fail)), (show J_vs (τ29.1 6) (τ29.1 5) (τ29.2.1 15) from TX), (show J_rks (τ29.1 5) (τ29.1 4) (τ29.2.1 10) (τ29.2.1 11) from RKS), (show j_rr ((σ.1 5)) (σ.2.1 10) (τ29.2.1 10) from by (first | exact j_rr0 _ _ | exact q20_4 | (rw [g10_τ19]; exact j_rr0 _ _) | (rw [g10_τ29, g10_τ_121]; exact j_rr0 _ _) | fail)), (show 0 = 0 → (τ29.1 36) = (σ.1 36) + 1 ∧ (τ29.1 6) = (σ.1 6) + 1 ∧ τ29.2.1 14 ((τ29.1 7) + 1) = (τ29.1 6) from by (first | (intro z; exfalso; omega) | (intro z; have w := q20_5 z; exact ⟨by omega, by omega, w.2.1⟩) | (intro z; have w := q17_3 z; exact ⟨by omega, by omega, w.2⟩) | (intro _; refine ⟨by omega, by omega, ?_⟩; rw [q27_2, w7_τ29, st_s, q27_1]) | fail)), (show 0 = 0 → 0 ≤ τ29.2.1 10 (τ29.2.1 15 (τ29.2.1 14 (τ29.1 7))) from by (first | (intro z; exfalso; omega) | (intro z; exact (q20_5 z).2.2) | (intro z; have a1 := ag.2 (14, 7, 1) (by decide) (σ.1 7) (by show σ.1 7 < σ.1 7 + 1; omega); have a2 := ag.2 (15, 6, 0) (by decide) (σ.2.1 14 (σ.1 7)) (by show σ.2.1 14 (σ.1 7) < σ.1 6 + 0; omega); rw [show τ19.1 7 = σ.1 7 from by omega, show τ19.2.1 14 (σ.1 7) = σ.2.1 14 (σ.1 7) from a1, show τ19.2.1 15 (σ.2.1 14 (σ.1 7)) = σ.2.1 15 (σ.2.1 14 (σ.1 7)) from a2, g10_τ19]; exact p9 (by omega)) | (intro z; have a1 := ag.2 (14, 7, 1) (by decide) (σ.1 7) (by show σ.1 7 < σ.1 7 + 1; omega); have a2 := ag.2 (15, 6, 0) (by decide) (σ.2.1 14 (σ.1 7)) (by show σ.2.1 14 (σ.1 7) < σ.1 6 + 0; omega); rw [show τ29.1 7 = σ.1 7 from by omega, show τ29.2.1 14 (σ.1 7) = σ.2.1 14 (σ.1 7) from a1, show τ29.2.1 15 (σ.2.1 14 (σ.1 7)) = σ.2.1 15 (σ.2.1 14 (σ.1 7)) from a2, g10_τ29, g10_τ_121]; exact p9 (by omega)) | fail)), (show 0 = 0 → (σ.1 37) = 0 → (τ29.1 36) ≤ 2 from by (intro z; omega)), (show 0 = 0 → (τ29.1 36) ≤ 300 from by (intro z; omega)), (show 0 = 0 → J_ip (τ29.1 7) (τ29.1 6) (τ29.1 37) (τ29.2.1 14) (τ29.2.1 15) (τ29.2.1 16) (τ29.2.1 19) from by (first | (intro z; exfalso; omega) | (intro z; exact q20_6 z) | (intro z; exact q17_4 z) | (intro _; exact IPn) | fail)), (show c_Y σ τ29 from by (first | exact c_Y0 _ | exact q20_7 | exact c_Y_g (by omega) (by rw [g11_τ19]) (by rw [g20_τ19]) (by rw [g22_τ19]) (by rw [g25_τ19]) | exact c_Y_g (by omega) (by rw [g11_τ29, g11_τ_121]) (by rw [g20_τ29, g20_τ_121]) (by rw [g22_τ29, g22_τ_121]) (by rw [g25_τ29, g25_τ_121]) | fail)), ag⟩
                    ·
                      intro x26 r_x26 e_x26
                      have b_x26 : (-1) ≤ x26 ∧ x26 ≤ 1499 := by rw [e_x26]; exact hT.2 19 _
                      first | (have e26b : x26 = x15 := by rw [e_x26, g19_τ_121, e_x15]) | skip
                      refine h151 _ _ _ ?_
                      refine ⟨_, K2_X3_append hT (show 0 ≤ n1 from by (first | omega | (simp only [st_s] <;> omega) | assumption | omega | fail)) (show n1 < 1000 from by (first | omega | (simp only [st_s] <;> omega) | assumption | omega | fail)) (show -1 ≤ x26 from by (first | omega | (simp only [st_s] <;> omega) | assumption | omega | fail)) (show x26 < 1500 from by (first | omega | (simp only [st_s] <;> omega) | assumption | omega | fail)) (show (τ_121.1 6) < 30000 from by (first | omega | (simp only [st_s] <;> omega) | assumption | omega | fail)) (show (τ_121.1 7) < 1500 from by (first | omega | (simp only [st_s] <;> omega) | assumption | omega | fail)), ?_⟩
                      intro τ29 hn_τ29 hf_τ29 hq
                      obtain ⟨hT, q27_1, q27_2, q27_3, q27_4, q27_5⟩ := hq
                      replace q27_1 : (τ29.1 6) = (τ_121.1 6) + 1 := q27_1
                      replace q27_2 : τ29.2.1 14 = st (τ_121.2.1 14) ((τ_121.1 7) + 1) ((τ_121.1 6) + 1) := q27_2
                      replace q27_3 : τ29.2.1 15 = st (τ_121.2.1 15) (τ_121.1 6) n1 := q27_3
                      replace q27_4 : τ29.2.1 16 = st (τ_121.2.1 16) (τ_121.1 6) x26 := q27_4
                      replace q27_5 : c_ag τ_121 τ29 := q27_5
                      replace ag : c_ag σ τ29 := ag_t ag q27_5 rfl
                      have w3_τ29 : τ29.1 3 = τ_121.1 3 := hf_τ29.1 3 (by decide)
                      have w4_τ29 : τ29.1 4 = τ_121.1 4 := hf_τ29.1 4 (by decide)
                      have w5_τ29 : τ29.1 5 = τ_121.1 5 := hf_τ29.1 5 (by decide)
                      have w7_τ29 : τ29.1 7 = τ_121.1 7 := hf_τ29.1 7 (by decide)
                      have w13_τ29 : τ29.1 13 = τ_121.1 13 := hf_τ29.1 13 (by decide)
                      have w14_τ29 : τ29.1 14 = τ_121.1 14 := hf_τ29.1 14 (by decide)
                      have w15_τ29 : τ29.1 15 = τ_121.1 15 := hf_τ29.1 15 (by decide)
                      have w16_τ29 : τ29.1 16 = τ_121.1 16 := hf_τ29.1 16 (by decide)
                      have w36_τ29 : τ29.1 36 = τ_121.1 36 := hf_τ29.1 36 (by decide)
                      have w37_τ29 : τ29.1 37 = τ_121.1 37 := hf_τ29.1 37 (by decide)
                      have g8_τ29 : τ29.2.1 8 = τ_121.2.1 8 := hf_τ29.2.1 8 (by decide)
                      have g9_τ29 : τ29.2.1 9 = τ_121.2.1 9 := hf_τ29.2.1 9 (by decide)
                      have g10_τ29 : τ29.2.1 10 = τ_121.2.1 10 := hf_τ29.2.1 10 (by decide)
                      have g11_τ29 : τ29.2.1 11 = τ_121.2.1 11 := hf_τ29.2.1 11 (by decide)
                      have g19_τ29 : τ29.2.1 19 = τ_121.2.1 19 := hf_τ29.2.1 19 (by decide)
                      have g20_τ29 : τ29.2.1 20 = τ_121.2.1 20 := hf_τ29.2.1 20 (by decide)
                      have g22_τ29 : τ29.2.1 22 = τ_121.2.1 22 := hf_τ29.2.1 22 (by decide)
                      have g25_τ29 : τ29.2.1 25 = τ_121.2.1 25 := hf_τ29.2.1 25 (by decide)
                      have W3 : τ29.1 3 = σ.1 3 := by first | exact w3_τ29.trans W3 | omega
                      have W5 : τ29.1 5 = σ.1 5 := by first | exact w5_τ29.trans W5 | omega
                      have W7 : τ29.1 7 = σ.1 7 := by first | exact w7_τ29.trans W7 | omega
                      have W13 : τ29.1 13 = σ.1 13 := by first | exact w13_τ29.trans W13 | omega
                      have W14 : τ29.1 14 = σ.1 14 := by first | exact w14_τ29.trans W14 | omega
                      have W15 : τ29.1 15 = σ.1 15 := by first | exact w15_τ29.trans W15 | omega
                      have W16 : τ29.1 16 = σ.1 16 := by first | exact w16_τ29.trans W16 | omega
                      have W37 : τ29.1 37 = σ.1 37 := by first | exact w37_τ29.trans W37 | omega
                      have G8 : τ29.2.1 8 = σ.2.1 8 := (g8_τ29).trans G8
                      have G9 : τ29.2.1 9 = σ.2.1 9 := (g9_τ29).trans G9
                      have G19 : τ29.2.1 19 = σ.2.1 19 := (g19_τ29).trans G19
                      have G20 : τ29.2.1 20 = σ.2.1 20 := (g20_τ29).trans G20
                      have G22 : τ29.2.1 22 = σ.2.1 22 := (g22_τ29).trans G22
                      have G25 : τ29.2.1 25 = σ.2.1 25 := (g25_τ29).trans G25
                      have RKS : J_rks (τ29.1 5) (τ29.1 4) (τ29.2.1 10) (τ29.2.1 11) := by rw [show (J_rks (τ29.1 5) (τ29.1 4) (τ29.2.1 10) (τ29.2.1 11)) = (J_rks (τ_121.1 5) (τ_121.1 4) (τ_121.2.1 10) (τ_121.2.1 11)) from by rw [w4_τ29, w5_τ29, g10_τ29, g11_τ29]]; exact RKS
                      have A8 : ∀ j, 0 ≤ τ29.2.1 8 j ∧ τ29.2.1 8 j ≤ 1 := fun j => hT.2 8 j
                      have A9 : ∀ j, (-1) ≤ τ29.2.1 9 j ∧ τ29.2.1 9 j ≤ 1499 := fun j => hT.2 9 j
                      have A10 : ∀ j, (-1) ≤ τ29.2.1 10 j ∧ τ29.2.1 10 j ≤ 99 := fun j => hT.2 10 j
                      have A11 : ∀ j, 0 ≤ τ29.2.1 11 j ∧ τ29.2.1 11 j ≤ 999 := fun j => hT.2 11 j
                      have A14 : ∀ j, 0 ≤ τ29.2.1 14 j ∧ τ29.2.1 14 j ≤ 30000 := fun j => hT.2 14 j
                      have A15 : ∀ j, 0 ≤ τ29.2.1 15 j ∧ τ29.2.1 15 j ≤ 999 := fun j => hT.2 15 j
                      have A16 : ∀ j, (-1) ≤ τ29.2.1 16 j ∧ τ29.2.1 16 j ≤ 1499 := fun j => hT.2 16 j
                      have A19 : ∀ j, (-1) ≤ τ29.2.1 19 j ∧ τ29.2.1 19 j ≤ 1499 := fun j => hT.2 19 j
                      have A20 : ∀ j, 0 ≤ τ29.2.1 20 j ∧ τ29.2.1 20 j ≤ 999 := fun j => hT.2 20 j
                      have A22 : ∀ j, 0 ≤ τ29.2.1 22 j ∧ τ29.2.1 22 j ≤ 1499 := fun j => hT.2 22 j
                      have v3 : 0 ≤ τ29.1 3 ∧ τ29.1 3 ≤ 2500 := hT.1 3
                      have v4 : 0 ≤ τ29.1 4 ∧ τ29.1 4 ≤ 100 := hT.1 4
                      have v5 : 0 ≤ τ29.1 5 ∧ τ29.1 5 ≤ 1000 := hT.1 5
                      have v6 : 0 ≤ τ29.1 6 ∧ τ29.1 6 ≤ 30000 := hT.1 6
                      have v7 : 0 ≤ τ29.1 7 ∧ τ29.1 7 ≤ 1500 := hT.1 7
                      have v13 : 0 ≤ τ29.1 13 ∧ τ29.1 13 ≤ 90000 := hT.1 13
                      have v14 : 0 ≤ τ29.1 14 ∧ τ29.1 14 ≤ 20000 := hT.1 14
                      have v15 : 0 ≤ τ29.1 15 ∧ τ29.1 15 ≤ 20000 := hT.1 15
                      have v16 : 0 ≤ τ29.1 16 ∧ τ29.1 16 ≤ 20000 := hT.1 16
                      have v36 : 0 ≤ τ29.1 36 ∧ τ29.1 36 ≤ 1001 := hT.1 36
                      have v37 : 0 ≤ τ29.1 37 ∧ τ29.1 37 ≤ 4 := hT.1 37
                      have a14_7 : 0 ≤ τ29.2.1 14 (τ29.1 7) ∧ τ29.2.1 14 (τ29.1 7) ≤ 30000 := hT.2 14 _
                      have av6 : σ.1 6 ≤ τ29.1 6 := ag.1 6 (by decide)
                      have TX : J_vs (τ29.1 6) (τ29.1 5) (τ29.2.1 15) := by rw [q27_1, q27_3, w5_τ29]; exact J_vs_a TX (Int.le_refl _) (by omega)
                      have IPn : J_ip (τ29.1 7) (τ29.1 6) (τ29.1 37) (τ29.2.1 14) (τ29.2.1 15) (τ29.2.1 16) (τ29.2.1 19) := by rw [q27_1, q27_2, q27_3, q27_4, w7_τ29, w37_τ29, g19_τ29, w6_τ_121, w7_τ_121, w37_τ_121, g14_τ_121, g15_τ_121, g16_τ_121, g19_τ_121]; exact J_ip_a IP_0 (st_n _ _ (by omega)) (by first | exact Or.inl rfl | (refine Or.inr (Or.inl ⟨?_, ?_⟩); omega; rw [e_x26, g19_τ_121])) (fun z => by exfalso; omega) (fun z => by first | rfl | (exfalso; omega))
                      exact ⟨hT, (show 0 ≤ 0 ∧ 0 ≤ 19 from by (first | omega | (simp only [st_s] <;> omega) | assumption | omega | fail)), (show J_vs (τ29.1 6) (τ29.1 5) (τ29.2.1 15) from TX), (show J_rks (τ29.1 5) (τ29.1 4) (τ29.2.1 10) (τ29.2.1 11) from RKS), (show j_rr ((σ.1 5)) (σ.2.1 10) (τ29.2.1 10) from by (first | exact j_rr0 _ _ | exact q20_4 | (rw [g10_τ19]; exact j_rr0 _ _) | (rw [g10_τ29, g10_τ_121]; exact j_rr0 _ _) | fail)), (show 0 = 0 → (τ29.1 36) = (σ.1 36) + 1 ∧ (τ29.1 6) = (σ.1 6) + 1 ∧ τ29.2.1 14 ((τ29.1 7) + 1) = (τ29.1 6) from by (first | (intro z; exfalso; omega) | (intro z; have w := q20_5 z; exact ⟨by omega, by omega, w.2.1⟩) | (intro z; have w := q17_3 z; exact ⟨by omega, by omega, w.2⟩) | (intro _; refine ⟨by omega, by omega, ?_⟩; rw [q27_2, w7_τ29, st_s, q27_1]) | fail)), (show 0 = 0 → 0 ≤ τ29.2.1 10 (τ29.2.1 15 (τ29.2.1 14 (τ29.1 7))) from by (first | (intro z; exfalso; omega) | (intro z; exact (q20_5 z).2.2) | (intro z; have a1 := ag.2 (14, 7, 1) (by decide) (σ.1 7) (by show σ.1 7 < σ.1 7 + 1; omega); have a2 := ag.2 (15, 6, 0) (by decide) (σ.2.1 14 (σ.1 7)) (by show σ.2.1 14 (σ.1 7) < σ.1 6 + 0; omega); rw [show τ19.1 7 = σ.1 7 from by omega, show τ19.2.1 14 (σ.1 7) = σ.2.1 14 (σ.1 7) from a1, show τ19.2.1 15 (σ.2.1 14 (σ.1 7)) = σ.2.1 15 (σ.2.1 14 (σ.1 7)) from a2, g10_τ19]; exact p9 (by omega)) | (intro z; have a1 := ag.2 (14, 7, 1) (by decide) (σ.1 7) (by show σ.1 7 < σ.1 7 + 1; omega); have a2 := ag.2 (15, 6, 0) (by decide) (σ.2.1 14 (σ.1 7)) (by show σ.2.1 14 (σ.1 7) < σ.1 6 + 0; omega); rw [show τ29.1 7 = σ.1 7 from by omega, show τ29.2.1 14 (σ.1 7) = σ.2.1 14 (σ.1 7) from a1, show τ29.2.1 15 (σ.2.1 14 (σ.1 7)) = σ.2.1 15 (σ.2.1 14 (σ.1 7)) from a2, g10_τ29, g10_τ_121]; exact p9 (by omega)) | fail)), (show 0 = 0 → (σ.1 37) = 0 → (τ29.1 36) ≤ 2 from by (intro z; omega)), (show 0 = 0 → (τ29.1 36) ≤ 300 from by (intro z; omega)), (show 0 = 0 → J_ip (τ29.1 7) (τ29.1 6) (τ29.1 37) (τ29.2.1 14) (τ29.2.1 15) (τ29.2.1 16) (τ29.2.1 19) from by (first | (intro z; exfalso; omega) | (intro z; exact q20_6 z) | (intro z; exact q17_4 z) | (intro _; exact IPn) | fail)), (show c_Y σ τ29 from by (first | exact c_Y0 _ | exact q20_7 | exact c_Y_g (by omega) (by rw [g11_τ19]) (by rw [g20_τ19]) (by rw [g22_τ19]) (by rw [g25_τ19]) | exact c_Y_g (by omega) (by rw [g11_τ29, g11_τ_121]) (by rw [g20_τ29, g20_τ_121]) (by rw [g22_τ29, g22_τ_121]) (by rw [g25_τ29, g25_τ_121]) | fail)), ag⟩
                  ·
                    exact ⟨hT, (show 0 ≤ 11 ∧ 11 ≤ 19 from by (first | omega | (simp only [st_s] <;> omega) | assumption | omega | fail)), (show J_vs (σ.1 6) (σ.1 5) (σ.2.1 15) from TX), (show J_rks (σ.1 5) (σ.1 4) (σ.2.1 10) (σ.2.1 11) from RKS), (show j_rr ((σ.1 5)) (σ.2.1 10) (σ.2.1 10) from by (first | exact j_rr0 _ _ | exact q20_4 | (rw [g10_τ19]; exact j_rr0 _ _) | (rw [g10_τ29, g10_τ_121]; exact j_rr0 _ _) | fail)), (show 11 = 0 → ((σ.1 36 + 1)) = (σ.1 36) + 1 ∧ (σ.1 6) = (σ.1 6) + 1 ∧ σ.2.1 14 ((σ.1 7) + 1) = (σ.1 6) from by (first | (intro z; exfalso; omega) | (intro z; have w := q20_5 z; exact ⟨by omega, by omega, w.2.1⟩) | (intro z; have w := q17_3 z; exact ⟨by omega, by omega, w.2⟩) | (intro _; refine ⟨by omega, by omega, ?_⟩; rw [q27_2, w7_τ29, st_s, q27_1]) | fail)), (show 11 = 0 → 0 ≤ σ.2.1 10 (σ.2.1 15 (σ.2.1 14 (σ.1 7))) from by (first | (intro z; exfalso; omega) | (intro z; exact (q20_5 z).2.2) | (intro z; have a1 := ag.2 (14, 7, 1) (by decide) (σ.1 7) (by show σ.1 7 < σ.1 7 + 1; omega); have a2 := ag.2 (15, 6, 0) (by decide) (σ.2.1 14 (σ.1 7)) (by show σ.2.1 14 (σ.1 7) < σ.1 6 + 0; omega); rw [show τ19.1 7 = σ.1 7 from by omega, show τ19.2.1 14 (σ.1 7) = σ.2.1 14 (σ.1 7) from a1, show τ19.2.1 15 (σ.2.1 14 (σ.1 7)) = σ.2.1 15 (σ.2.1 14 (σ.1 7)) from a2, g10_τ19]; exact p9 (by omega)) | (intro z; have a1 := ag.2 (14, 7, 1) (by decide) (σ.1 7) (by show σ.1 7 < σ.1 7 + 1; omega); have a2 := ag.2 (15, 6, 0) (by decide) (σ.2.1 14 (σ.1 7)) (by show σ.2.1 14 (σ.1 7) < σ.1 6 + 0; omega); rw [show τ29.1 7 = σ.1 7 from by omega, show τ29.2.1 14 (σ.1 7) = σ.2.1 14 (σ.1 7) from a1, show τ29.2.1 15 (σ.2.1 14 (σ.1 7)) = σ.2.1 15 (σ.2.1 14 (σ.1 7)) from a2, g10_τ29, g10_τ_121]; exact p9 (by omega)) | fail)), (show 11 = 0 → (σ.1 37) = 0 → ((σ.1 36 + 1)) ≤ 2 from by (intro z; omega)), (show 11 = 0 → ((σ.1 36 + 1)) ≤ 300 from by (intro z; omega)), (show 11 = 0 → J_ip (σ.1 7) (σ.1 6) (σ.1 37) (σ.2.1 14) (σ.2.1 15) (σ.2.1 16) (σ.2.1 19) from by (first | (intro z; exfalso; omega) | (intro z; exact q20_6 z) | (intro z; exact q17_4 z) | (intro _; exact IPn) | fail)), (show c_Y σ (s_v σ 36 (σ.1 36 + 1)) from by (first | exact c_Y0 _ | exact q20_7 | exact c_Y_g (by omega) (by rw [g11_τ19]) (by rw [g20_τ19]) (by rw [g22_τ19]) (by rw [g25_τ19]) | exact c_Y_g (by omega) (by rw [g11_τ29, g11_τ_121]) (by rw [g20_τ29, g20_τ_121]) (by rw [g22_τ29, g22_τ_121]) (by rw [g25_τ29, g25_τ_121]) | fail)), ag⟩
              ·
                exact ⟨hT, (show 0 ≤ 9 ∧ 9 ≤ 19 from by (first | omega | (simp only [st_s] <;> omega) | assumption | omega | fail)), (show J_vs (σ.1 6) (σ.1 5) (σ.2.1 15) from TX), (show J_rks (σ.1 5) (σ.1 4) (σ.2.1 10) (σ.2.1 11) from RKS), (show j_rr ((σ.1 5)) (σ.2.1 10) (σ.2.1 10) from by (first | exact j_rr0 _ _ | exact q20_4 | (rw [g10_τ19]; exact j_rr0 _ _) | (rw [g10_τ29, g10_τ_121]; exact j_rr0 _ _) | fail)), (show 9 = 0 → ((σ.1 36 + 1)) = (σ.1 36) + 1 ∧ (σ.1 6) = (σ.1 6) + 1 ∧ σ.2.1 14 ((σ.1 7) + 1) = (σ.1 6) from by (first | (intro z; exfalso; omega) | (intro z; have w := q20_5 z; exact ⟨by omega, by omega, w.2.1⟩) | (intro z; have w := q17_3 z; exact ⟨by omega, by omega, w.2⟩) | (intro _; refine ⟨by omega, by omega, ?_⟩; rw [q27_2, w7_τ29, st_s, q27_1]) | fail)), (show 9 = 0 → 0 ≤ σ.2.1 10 (σ.2.1 15 (σ.2.1 14 (σ.1 7))) from by (first | (intro z; exfalso; omega) | (intro z; exact (q20_5 z).2.2) | (intro z; have a1 := ag.2 (14, 7, 1) (by decide) (σ.1 7) (by show σ.1 7 < σ.1 7 + 1; omega); have a2 := ag.2 (15, 6, 0) (by decide) (σ.2.1 14 (σ.1 7)) (by show σ.2.1 14 (σ.1 7) < σ.1 6 + 0; omega); rw [show τ19.1 7 = σ.1 7 from by omega, show τ19.2.1 14 (σ.1 7) = σ.2.1 14 (σ.1 7) from a1, show τ19.2.1 15 (σ.2.1 14 (σ.1 7)) = σ.2.1 15 (σ.2.1 14 (σ.1 7)) from a2, g10_τ19]; exact p9 (by omega)) | (intro z; have a1 := ag.2 (14, 7, 1) (by decide) (σ.1 7) (by show σ.1 7 < σ.1 7 + 1; omega); have a2 := ag.2 (15, 6, 0) (by decide) (σ.2.1 14 (σ.1 7)) (by show σ.2.1 14 (σ.1 7) < σ.1 6 + 0; omega); rw [show τ29.1 7 = σ.1 7 from by omega, show τ29.2.1 14 (σ.1 7) = σ.2.1 14 (σ.1 7) from a1, show τ29.2.1 15 (σ.2.1 14 (σ.1 7)) = σ.2.1 15 (σ.2.1 14 (σ.1 7)) from a2, g10_τ29, g10_τ_121]; exact p9 (by omega)) | fail)), (show 9 = 0 → (σ.1 37) = 0 → ((σ.1 36 + 1)) ≤ 2 from by (intro z; omega)), (show 9 = 0 → ((σ.1 36 + 1)) ≤ 300 from by (intro z; omega)), (show 9 = 0 → J_ip (σ.1 7) (σ.1 6) (σ.1 37) (σ.2.1 14) (σ.2.1 15) (σ.2.1 16) (σ.2.1 19) from by (first | (intro z; exfalso; omega) | (intro z; exact q20_6 z) | (intro z; exact q17_4 z) | (intro _; exact IPn) | fail)), (show c_Y σ (s_v σ 36 (σ.1 36 + 1)) from by (first | exact c_Y0 _ | exact q20_7 | exact c_Y_g (by omega) (by rw [g11_τ19]) (by rw [g20_τ19]) (by rw [g22_τ19]) (by rw [g25_τ19]) | exact c_Y_g (by omega) (by rw [g11_τ29, g11_τ_121]) (by rw [g20_τ29, g20_τ_121]) (by rw [g22_τ29, g22_τ_121]) (by rw [g25_τ29, g25_τ_121]) | fail)), ag⟩
            ·
              refine ⟨_, K_X7_floatingVariable hT (show -1 ≤ n1 from by (first | omega | (simp only [st_s] <;> omega) | assumption | omega | fail)) (show n1 < 1000 from by (first | omega | (simp only [st_s] <;> omega) | assumption | omega | fail)) (show n1 < (σ.1 5) from by (first | omega | (simp only [st_s] <;> omega) | assumption | omega | fail)) (show (σ.1 6) < 30000 from by (first | omega | (simp only [st_s] <;> omega) | assumption | omega | fail)) (show (σ.1 7) < 1500 from by (first | omega | (simp only [st_s] <;> omega) | assumption | omega | fail)) (show σ.2.1 14 (σ.1 7) < 30000 from by (first | omega | (simp only [st_s] <;> omega) | assumption | omega | fail)) (show ∀ s : Int, 0 ≤ s → s < (σ.1 5) → 0 ≤ σ.2.1 9 s → σ.2.1 14 (σ.2.1 9 s) < 30000 from by exact p6) (show J_vs (σ.1 6) (σ.1 5) (σ.2.1 15) from TX) (show J_ip (σ.1 7) (σ.1 6) (σ.1 37) (σ.2.1 14) (σ.2.1 15) (σ.2.1 16) (σ.2.1 19) from IP) (show (σ.1 37) = 0 from by (first | omega | (simp only [st_s] <;> omega) | assumption | omega | fail)) (show (σ.1 6) = σ.2.1 14 (σ.1 7) + 1 from by omega), ?_⟩
              intro x18 τ19 r_x18 hn_τ19 hf_τ19 hq
              obtain ⟨hT, q17_1, q17_2, q17_3, q17_4, q17_5⟩ := hq
              replace q17_1 : 0 ≤ x18 ∧ x18 ≤ 19 := q17_1
              replace q17_2 : J_vs (τ19.1 6) (τ19.1 5) (τ19.2.1 15) := q17_2
              replace q17_3 : x18 = 0 → (τ19.1 6) = (σ.1 6) + 1 ∧ τ19.2.1 14 ((τ19.1 7) + 1) = (τ19.1 6) := q17_3
              replace q17_4 : x18 = 0 → J_ip (τ19.1 7) (τ19.1 6) (τ19.1 37) (τ19.2.1 14) (τ19.2.1 15) (τ19.2.1 16) (τ19.2.1 19) := q17_4
              replace q17_5 : c_ag (s_v σ 36 (σ.1 36 + 1)) τ19 := q17_5
              replace ag : c_ag σ τ19 := ag_t ag q17_5 rfl
              have w3_τ19 : τ19.1 3 = σ.1 3 := hf_τ19.1 3 (by decide)
              have w4_τ19 : τ19.1 4 = σ.1 4 := hf_τ19.1 4 (by decide)
              have w5_τ19 : τ19.1 5 = σ.1 5 := hf_τ19.1 5 (by decide)
              have w7_τ19 : τ19.1 7 = σ.1 7 := hf_τ19.1 7 (by decide)
              have w13_τ19 : τ19.1 13 = σ.1 13 := hf_τ19.1 13 (by decide)
              have w14_τ19 : τ19.1 14 = σ.1 14 := hf_τ19.1 14 (by decide)
              have w15_τ19 : τ19.1 15 = σ.1 15 := hf_τ19.1 15 (by decide)
              have w16_τ19 : τ19.1 16 = σ.1 16 := hf_τ19.1 16 (by decide)
              have w36_τ19 : τ19.1 36 = (σ.1 36 + 1) := hf_τ19.1 36 (by decide)
              have w37_τ19 : τ19.1 37 = σ.1 37 := hf_τ19.1 37 (by decide)
              have g8_τ19 : τ19.2.1 8 = σ.2.1 8 := hf_τ19.2.1 8 (by decide)
              have g9_τ19 : τ19.2.1 9 = σ.2.1 9 := hf_τ19.2.1 9 (by decide)
              have g10_τ19 : τ19.2.1 10 = σ.2.1 10 := hf_τ19.2.1 10 (by decide)
              have g11_τ19 : τ19.2.1 11 = σ.2.1 11 := hf_τ19.2.1 11 (by decide)
              have g19_τ19 : τ19.2.1 19 = σ.2.1 19 := hf_τ19.2.1 19 (by decide)
              have g20_τ19 : τ19.2.1 20 = σ.2.1 20 := hf_τ19.2.1 20 (by decide)
              have g22_τ19 : τ19.2.1 22 = σ.2.1 22 := hf_τ19.2.1 22 (by decide)
              have g25_τ19 : τ19.2.1 25 = σ.2.1 25 := hf_τ19.2.1 25 (by decide)
              have W3 : τ19.1 3 = σ.1 3 := by first | exact w3_τ19.trans W3 | omega
              have W5 : τ19.1 5 = σ.1 5 := by first | exact w5_τ19.trans W5 | omega
              have W7 : τ19.1 7 = σ.1 7 := by first | exact w7_τ19.trans W7 | omega
              have W13 : τ19.1 13 = σ.1 13 := by first | exact w13_τ19.trans W13 | omega
              have W14 : τ19.1 14 = σ.1 14 := by first | exact w14_τ19.trans W14 | omega
              have W15 : τ19.1 15 = σ.1 15 := by first | exact w15_τ19.trans W15 | omega
              have W16 : τ19.1 16 = σ.1 16 := by first | exact w16_τ19.trans W16 | omega
              have W37 : τ19.1 37 = σ.1 37 := by first | exact w37_τ19.trans W37 | omega
              have G8 : τ19.2.1 8 = σ.2.1 8 := (g8_τ19).trans G8
              have G9 : τ19.2.1 9 = σ.2.1 9 := (g9_τ19).trans G9
              have G19 : τ19.2.1 19 = σ.2.1 19 := (g19_τ19).trans G19
              have G20 : τ19.2.1 20 = σ.2.1 20 := (g20_τ19).trans G20
              have G22 : τ19.2.1 22 = σ.2.1 22 := (g22_τ19).trans G22
              have G25 : τ19.2.1 25 = σ.2.1 25 := (g25_τ19).trans G25
              have TX : J_vs (τ19.1 6) (τ19.1 5) (τ19.2.1 15) := q17_2
              have RKS : J_rks (τ19.1 5) (τ19.1 4) (τ19.2.1 10) (τ19.2.1 11) := by rw [show (J_rks (τ19.1 5) (τ19.1 4) (τ19.2.1 10) (τ19.2.1 11)) = (J_rks (σ.1 5) (σ.1 4) (σ.2.1 10) (σ.2.1 11)) from by rw [w4_τ19, w5_τ19, g10_τ19, g11_τ19]]; exact RKS
              have A8 : ∀ j, 0 ≤ τ19.2.1 8 j ∧ τ19.2.1 8 j ≤ 1 := fun j => hT.2 8 j
              have A9 : ∀ j, (-1) ≤ τ19.2.1 9 j ∧ τ19.2.1 9 j ≤ 1499 := fun j => hT.2 9 j
              have A10 : ∀ j, (-1) ≤ τ19.2.1 10 j ∧ τ19.2.1 10 j ≤ 99 := fun j => hT.2 10 j
              have A11 : ∀ j, 0 ≤ τ19.2.1 11 j ∧ τ19.2.1 11 j ≤ 999 := fun j => hT.2 11 j
              have A14 : ∀ j, 0 ≤ τ19.2.1 14 j ∧ τ19.2.1 14 j ≤ 30000 := fun j => hT.2 14 j
              have A15 : ∀ j, 0 ≤ τ19.2.1 15 j ∧ τ19.2.1 15 j ≤ 999 := fun j => hT.2 15 j
              have A16 : ∀ j, (-1) ≤ τ19.2.1 16 j ∧ τ19.2.1 16 j ≤ 1499 := fun j => hT.2 16 j
              have A19 : ∀ j, (-1) ≤ τ19.2.1 19 j ∧ τ19.2.1 19 j ≤ 1499 := fun j => hT.2 19 j
              have A20 : ∀ j, 0 ≤ τ19.2.1 20 j ∧ τ19.2.1 20 j ≤ 999 := fun j => hT.2 20 j
              have A22 : ∀ j, 0 ≤ τ19.2.1 22 j ∧ τ19.2.1 22 j ≤ 1499 := fun j => hT.2 22 j
              have v3 : 0 ≤ τ19.1 3 ∧ τ19.1 3 ≤ 2500 := hT.1 3
              have v4 : 0 ≤ τ19.1 4 ∧ τ19.1 4 ≤ 100 := hT.1 4
              have v5 : 0 ≤ τ19.1 5 ∧ τ19.1 5 ≤ 1000 := hT.1 5
              have v6 : 0 ≤ τ19.1 6 ∧ τ19.1 6 ≤ 30000 := hT.1 6
              have v7 : 0 ≤ τ19.1 7 ∧ τ19.1 7 ≤ 1500 := hT.1 7
              have v13 : 0 ≤ τ19.1 13 ∧ τ19.1 13 ≤ 90000 := hT.1 13
              have v14 : 0 ≤ τ19.1 14 ∧ τ19.1 14 ≤ 20000 := hT.1 14
              have v15 : 0 ≤ τ19.1 15 ∧ τ19.1 15 ≤ 20000 := hT.1 15
              have v16 : 0 ≤ τ19.1 16 ∧ τ19.1 16 ≤ 20000 := hT.1 16
              have v36 : 0 ≤ τ19.1 36 ∧ τ19.1 36 ≤ 1001 := hT.1 36
              have v37 : 0 ≤ τ19.1 37 ∧ τ19.1 37 ≤ 4 := hT.1 37
              have a14_7 : 0 ≤ τ19.2.1 14 (τ19.1 7) ∧ τ19.2.1 14 (τ19.1 7) ≤ 30000 := hT.2 14 _
              have av6 : σ.1 6 ≤ τ19.1 6 := ag.1 6 (by decide)
              exact ⟨hT, (show 0 ≤ x18 ∧ x18 ≤ 19 from by (first | omega | (simp only [st_s] <;> omega) | assumption | omega | fail)), (show J_vs (τ19.1 6) (τ19.1 5) (τ19.2.1 15) from TX), (show J_rks (τ19.1 5) (τ19.1 4) (τ19.2.1 10) (τ19.2.1 11) from RKS), (show j_rr ((σ.1 5)) (σ.2.1 10) (τ19.2.1 10) from by (first | exact j_rr0 _ _ | exact q20_4 | (rw [g10_τ19]; exact j_rr0 _ _) | (rw [g10_τ29, g10_τ_121]; exact j_rr0 _ _) | fail)), (show x18 = 0 → (τ19.1 36) = (σ.1 36) + 1 ∧ (τ19.1 6) = (σ.1 6) + 1 ∧ τ19.2.1 14 ((τ19.1 7) + 1) = (τ19.1 6) from by (first | (intro z; exfalso; omega) | (intro z; have w := q20_5 z; exact ⟨by omega, by omega, w.2.1⟩) | (intro z; have w := q17_3 z; exact ⟨by omega, by omega, w.2⟩) | (intro _; refine ⟨by omega, by omega, ?_⟩; rw [q27_2, w7_τ29, st_s, q27_1]) | fail)), (show x18 = 0 → 0 ≤ τ19.2.1 10 (τ19.2.1 15 (τ19.2.1 14 (τ19.1 7))) from by (first | (intro z; exfalso; omega) | (intro z; exact (q20_5 z).2.2) | (intro z; have a1 := ag.2 (14, 7, 1) (by decide) (σ.1 7) (by show σ.1 7 < σ.1 7 + 1; omega); have a2 := ag.2 (15, 6, 0) (by decide) (σ.2.1 14 (σ.1 7)) (by show σ.2.1 14 (σ.1 7) < σ.1 6 + 0; omega); rw [show τ19.1 7 = σ.1 7 from by omega, show τ19.2.1 14 (σ.1 7) = σ.2.1 14 (σ.1 7) from a1, show τ19.2.1 15 (σ.2.1 14 (σ.1 7)) = σ.2.1 15 (σ.2.1 14 (σ.1 7)) from a2, g10_τ19]; exact p9 (by omega)) | (intro z; have a1 := ag.2 (14, 7, 1) (by decide) (σ.1 7) (by show σ.1 7 < σ.1 7 + 1; omega); have a2 := ag.2 (15, 6, 0) (by decide) (σ.2.1 14 (σ.1 7)) (by show σ.2.1 14 (σ.1 7) < σ.1 6 + 0; omega); rw [show τ29.1 7 = σ.1 7 from by omega, show τ29.2.1 14 (σ.1 7) = σ.2.1 14 (σ.1 7) from a1, show τ29.2.1 15 (σ.2.1 14 (σ.1 7)) = σ.2.1 15 (σ.2.1 14 (σ.1 7)) from a2, g10_τ29, g10_τ_121]; exact p9 (by omega)) | fail)), (show x18 = 0 → (σ.1 37) = 0 → (τ19.1 36) ≤ 2 from by (intro z; omega)), (show x18 = 0 → (τ19.1 36) ≤ 300 from by (intro z; omega)), (show x18 = 0 → J_ip (τ19.1 7) (τ19.1 6) (τ19.1 37) (τ19.2.1 14) (τ19.2.1 15) (τ19.2.1 16) (τ19.2.1 19) from by (first | (intro z; exfalso; omega) | (intro z; exact q20_6 z) | (intro z; exact q17_4 z) | (intro _; exact IPn) | fail)), (show c_Y σ τ19 from by (first | exact c_Y0 _ | exact q20_7 | exact c_Y_g (by omega) (by rw [g11_τ19]) (by rw [g20_τ19]) (by rw [g22_τ19]) (by rw [g25_τ19]) | exact c_Y_g (by omega) (by rw [g11_τ29, g11_τ_121]) (by rw [g20_τ29, g20_τ_121]) (by rw [g22_τ29, g22_τ_121]) (by rw [g25_τ29, g25_τ_121]) | fail)), ag⟩
          ·
            refine ⟨_, K_X7_firstSymbol hT (show -1 ≤ n1 from by (first | omega | (simp only [st_s] <;> omega) | assumption | omega | fail)) (show n1 < 1000 from by (first | omega | (simp only [st_s] <;> omega) | assumption | omega | fail)) (show n1 < (σ.1 5) from by (first | omega | (simp only [st_s] <;> omega) | assumption | omega | fail)) (show σ.2.1 14 (σ.1 7) = (σ.1 6) from by (first | omega | (simp only [st_s] <;> omega) | assumption | omega | fail)) (show (σ.1 6) < 30000 from by (first | omega | (simp only [st_s] <;> omega) | assumption | omega | fail)) (show (σ.1 7) < 1500 from by (first | omega | (simp only [st_s] <;> omega) | assumption | omega | fail)) (show J_vs (σ.1 6) (σ.1 5) (σ.2.1 15) from TX) (show J_rks (σ.1 5) (σ.1 4) (σ.2.1 10) (σ.2.1 11) from RKS) (show J_ip (σ.1 7) (σ.1 6) (σ.1 37) (σ.2.1 14) (σ.2.1 15) (σ.2.1 16) (σ.2.1 19) from IP), ?_⟩
            intro x21 τ22 r_x21 hn_τ22 hf_τ22 hq
            obtain ⟨hT, q20_1, q20_2, q20_3, q20_4, q20_5, q20_6, q20_7, q20_8⟩ := hq
            replace q20_1 : 0 ≤ x21 ∧ x21 ≤ 19 := q20_1
            replace q20_2 : J_vs (τ22.1 6) (τ22.1 5) (τ22.2.1 15) := q20_2
            replace q20_3 : J_rks (τ22.1 5) (τ22.1 4) (τ22.2.1 10) (τ22.2.1 11) := q20_3
            replace q20_4 : j_rr ((σ.1 5)) (σ.2.1 10) (τ22.2.1 10) := q20_4
            replace q20_5 : x21 = 0 → (τ22.1 6) = (σ.1 6) + 1 ∧ τ22.2.1 14 ((τ22.1 7) + 1) = (τ22.1 6) ∧ 0 ≤ τ22.2.1 10 (τ22.2.1 15 (τ22.2.1 14 (τ22.1 7))) := q20_5
            replace q20_6 : x21 = 0 → J_ip (τ22.1 7) (τ22.1 6) (τ22.1 37) (τ22.2.1 14) (τ22.2.1 15) (τ22.2.1 16) (τ22.2.1 19) := q20_6
            replace q20_7 : c_Y (s_v σ 36 (σ.1 36 + 1)) τ22 := q20_7
            replace q20_8 : c_ag (s_v σ 36 (σ.1 36 + 1)) τ22 := q20_8
            replace ag : c_ag σ τ22 := ag_t ag q20_8 rfl
            have w3_τ22 : τ22.1 3 = σ.1 3 := hf_τ22.1 3 (by decide)
            have w5_τ22 : τ22.1 5 = σ.1 5 := hf_τ22.1 5 (by decide)
            have w7_τ22 : τ22.1 7 = σ.1 7 := hf_τ22.1 7 (by decide)
            have w13_τ22 : τ22.1 13 = σ.1 13 := hf_τ22.1 13 (by decide)
            have w14_τ22 : τ22.1 14 = σ.1 14 := hf_τ22.1 14 (by decide)
            have w15_τ22 : τ22.1 15 = σ.1 15 := hf_τ22.1 15 (by decide)
            have w16_τ22 : τ22.1 16 = σ.1 16 := hf_τ22.1 16 (by decide)
            have w36_τ22 : τ22.1 36 = (σ.1 36 + 1) := hf_τ22.1 36 (by decide)
            have w37_τ22 : τ22.1 37 = σ.1 37 := hf_τ22.1 37 (by decide)
            have g8_τ22 : τ22.2.1 8 = σ.2.1 8 := hf_τ22.2.1 8 (by decide)
            have g9_τ22 : τ22.2.1 9 = σ.2.1 9 := hf_τ22.2.1 9 (by decide)
            have g19_τ22 : τ22.2.1 19 = σ.2.1 19 := hf_τ22.2.1 19 (by decide)
            have g20_τ22 : τ22.2.1 20 = σ.2.1 20 := hf_τ22.2.1 20 (by decide)
            have g22_τ22 : τ22.2.1 22 = σ.2.1 22 := hf_τ22.2.1 22 (by decide)
            have g25_τ22 : τ22.2.1 25 = σ.2.1 25 := hf_τ22.2.1 25 (by decide)
            have W3 : τ22.1 3 = σ.1 3 := by first | exact w3_τ22.trans W3 | omega
            have W5 : τ22.1 5 = σ.1 5 := by first | exact w5_τ22.trans W5 | omega
            have W7 : τ22.1 7 = σ.1 7 := by first | exact w7_τ22.trans W7 | omega
            have W13 : τ22.1 13 = σ.1 13 := by first | exact w13_τ22.trans W13 | omega
            have W14 : τ22.1 14 = σ.1 14 := by first | exact w14_τ22.trans W14 | omega
            have W15 : τ22.1 15 = σ.1 15 := by first | exact w15_τ22.trans W15 | omega
            have W16 : τ22.1 16 = σ.1 16 := by first | exact w16_τ22.trans W16 | omega
            have W37 : τ22.1 37 = σ.1 37 := by first | exact w37_τ22.trans W37 | omega
            have G8 : τ22.2.1 8 = σ.2.1 8 := (g8_τ22).trans G8
            have G9 : τ22.2.1 9 = σ.2.1 9 := (g9_τ22).trans G9
            have G19 : τ22.2.1 19 = σ.2.1 19 := (g19_τ22).trans G19
            have G20 : τ22.2.1 20 = σ.2.1 20 := (g20_τ22).trans G20
            have G22 : τ22.2.1 22 = σ.2.1 22 := (g22_τ22).trans G22
            have G25 : τ22.2.1 25 = σ.2.1 25 := (g25_τ22).trans G25
            have TX : J_vs (τ22.1 6) (τ22.1 5) (τ22.2.1 15) := q20_2
            have RKS : J_rks (τ22.1 5) (τ22.1 4) (τ22.2.1 10) (τ22.2.1 11) := q20_3
            have A8 : ∀ j, 0 ≤ τ22.2.1 8 j ∧ τ22.2.1 8 j ≤ 1 := fun j => hT.2 8 j
            have A9 : ∀ j, (-1) ≤ τ22.2.1 9 j ∧ τ22.2.1 9 j ≤ 1499 := fun j => hT.2 9 j
            have A10 : ∀ j, (-1) ≤ τ22.2.1 10 j ∧ τ22.2.1 10 j ≤ 99 := fun j => hT.2 10 j
            have A11 : ∀ j, 0 ≤ τ22.2.1 11 j ∧ τ22.2.1 11 j ≤ 999 := fun j => hT.2 11 j
            have A14 : ∀ j, 0 ≤ τ22.2.1 14 j ∧ τ22.2.1 14 j ≤ 30000 := fun j => hT.2 14 j
            have A15 : ∀ j, 0 ≤ τ22.2.1 15 j ∧ τ22.2.1 15 j ≤ 999 := fun j => hT.2 15 j
            have A16 : ∀ j, (-1) ≤ τ22.2.1 16 j ∧ τ22.2.1 16 j ≤ 1499 := fun j => hT.2 16 j
            have A19 : ∀ j, (-1) ≤ τ22.2.1 19 j ∧ τ22.2.1 19 j ≤ 1499 := fun j => hT.2 19 j
            have A20 : ∀ j, 0 ≤ τ22.2.1 20 j ∧ τ22.2.1 20 j ≤ 999 := fun j => hT.2 20 j
            have A22 : ∀ j, 0 ≤ τ22.2.1 22 j ∧ τ22.2.1 22 j ≤ 1499 := fun j => hT.2 22 j
            have v3 : 0 ≤ τ22.1 3 ∧ τ22.1 3 ≤ 2500 := hT.1 3
            have v4 : 0 ≤ τ22.1 4 ∧ τ22.1 4 ≤ 100 := hT.1 4
            have v5 : 0 ≤ τ22.1 5 ∧ τ22.1 5 ≤ 1000 := hT.1 5
            have v6 : 0 ≤ τ22.1 6 ∧ τ22.1 6 ≤ 30000 := hT.1 6
            have v7 : 0 ≤ τ22.1 7 ∧ τ22.1 7 ≤ 1500 := hT.1 7
            have v13 : 0 ≤ τ22.1 13 ∧ τ22.1 13 ≤ 90000 := hT.1 13
            have v14 : 0 ≤ τ22.1 14 ∧ τ22.1 14 ≤ 20000 := hT.1 14
            have v15 : 0 ≤ τ22.1 15 ∧ τ22.1 15 ≤ 20000 := hT.1 15
            have v16 : 0 ≤ τ22.1 16 ∧ τ22.1 16 ≤ 20000 := hT.1 16
            have v36 : 0 ≤ τ22.1 36 ∧ τ22.1 36 ≤ 1001 := hT.1 36
            have v37 : 0 ≤ τ22.1 37 ∧ τ22.1 37 ≤ 4 := hT.1 37
            have a14_7 : 0 ≤ τ22.2.1 14 (τ22.1 7) ∧ τ22.2.1 14 (τ22.1 7) ≤ 30000 := hT.2 14 _
            have av6 : σ.1 6 ≤ τ22.1 6 := ag.1 6 (by decide)
            exact ⟨hT, (show 0 ≤ x21 ∧ x21 ≤ 19 from by (first | omega | (simp only [st_s] <;> omega) | assumption | omega | fail)), (show J_vs (τ22.1 6) (τ22.1 5) (τ22.2.1 15) from TX), (show J_rks (τ22.1 5) (τ22.1 4) (τ22.2.1 10) (τ22.2.1 11) from RKS), (show j_rr ((σ.1 5)) (σ.2.1 10) (τ22.2.1 10) from by (first | exact j_rr0 _ _ | exact q20_4 | (rw [g10_τ19]; exact j_rr0 _ _) | (rw [g10_τ29, g10_τ_121]; exact j_rr0 _ _) | fail)), (show x21 = 0 → (τ22.1 36) = (σ.1 36) + 1 ∧ (τ22.1 6) = (σ.1 6) + 1 ∧ τ22.2.1 14 ((τ22.1 7) + 1) = (τ22.1 6) from by (first | (intro z; exfalso; omega) | (intro z; have w := q20_5 z; exact ⟨by omega, by omega, w.2.1⟩) | (intro z; have w := q17_3 z; exact ⟨by omega, by omega, w.2⟩) | (intro _; refine ⟨by omega, by omega, ?_⟩; rw [q27_2, w7_τ29, st_s, q27_1]) | fail)), (show x21 = 0 → 0 ≤ τ22.2.1 10 (τ22.2.1 15 (τ22.2.1 14 (τ22.1 7))) from by (first | (intro z; exfalso; omega) | (intro z; exact (q20_5 z).2.2) | (intro z; have a1 := ag.2 (14, 7, 1) (by decide) (σ.1 7) (by show σ.1 7 < σ.1 7 + 1; omega); have a2 := ag.2 (15, 6, 0) (by decide) (σ.2.1 14 (σ.1 7)) (by show σ.2.1 14 (σ.1 7) < σ.1 6 + 0; omega); rw [show τ19.1 7 = σ.1 7 from by omega, show τ19.2.1 14 (σ.1 7) = σ.2.1 14 (σ.1 7) from a1, show τ19.2.1 15 (σ.2.1 14 (σ.1 7)) = σ.2.1 15 (σ.2.1 14 (σ.1 7)) from a2, g10_τ19]; exact p9 (by omega)) | (intro z; have a1 := ag.2 (14, 7, 1) (by decide) (σ.1 7) (by show σ.1 7 < σ.1 7 + 1; omega); have a2 := ag.2 (15, 6, 0) (by decide) (σ.2.1 14 (σ.1 7)) (by show σ.2.1 14 (σ.1 7) < σ.1 6 + 0; omega); rw [show τ29.1 7 = σ.1 7 from by omega, show τ29.2.1 14 (σ.1 7) = σ.2.1 14 (σ.1 7) from a1, show τ29.2.1 15 (σ.2.1 14 (σ.1 7)) = σ.2.1 15 (σ.2.1 14 (σ.1 7)) from a2, g10_τ29, g10_τ_121]; exact p9 (by omega)) | fail)), (show x21 = 0 → (σ.1 37) = 0 → (τ22.1 36) ≤ 2 from by (intro z; omega)), (show x21 = 0 → (τ22.1 36) ≤ 300 from by (intro z; omega)), (show x21 = 0 → J_ip (τ22.1 7) (τ22.1 6) (τ22.1 37) (τ22.2.1 14) (τ22.2.1 15) (τ22.2.1 16) (τ22.2.1 19) from by (first | (intro z; exfalso; omega) | (intro z; exact q20_6 z) | (intro z; exact q17_4 z) | (intro _; exact IPn) | fail)), (show c_Y σ τ22 from by (first | exact c_Y0 _ | exact q20_7 | exact c_Y_g (by omega) (by rw [g11_τ19]) (by rw [g20_τ19]) (by rw [g22_τ19]) (by rw [g25_τ19]) | exact c_Y_g (by omega) (by rw [g11_τ29, g11_τ_121]) (by rw [g20_τ29, g20_τ_121]) (by rw [g22_τ29, g22_τ_121]) (by rw [g25_τ29, g25_τ_121]) | fail)), ag⟩
        ·
          exact ⟨hT, (show 0 ≤ 5 ∧ 5 ≤ 19 from by (first | omega | (simp only [st_s] <;> omega) | assumption | omega | fail)), (show J_vs (σ.1 6) (σ.1 5) (σ.2.1 15) from TX), (show J_rks (σ.1 5) (σ.1 4) (σ.2.1 10) (σ.2.1 11) from RKS), (show j_rr ((σ.1 5)) (σ.2.1 10) (σ.2.1 10) from by (first | exact j_rr0 _ _ | exact q20_4 | (rw [g10_τ19]; exact j_rr0 _ _) | (rw [g10_τ29, g10_τ_121]; exact j_rr0 _ _) | fail)), (show 5 = 0 → (σ.1 36) = (σ.1 36) + 1 ∧ (σ.1 6) = (σ.1 6) + 1 ∧ σ.2.1 14 ((σ.1 7) + 1) = (σ.1 6) from by (first | (intro z; exfalso; omega) | (intro z; have w := q20_5 z; exact ⟨by omega, by omega, w.2.1⟩) | (intro z; have w := q17_3 z; exact ⟨by omega, by omega, w.2⟩) | (intro _; refine ⟨by omega, by omega, ?_⟩; rw [q27_2, w7_τ29, st_s, q27_1]) | fail)), (show 5 = 0 → 0 ≤ σ.2.1 10 (σ.2.1 15 (σ.2.1 14 (σ.1 7))) from by (first | (intro z; exfalso; omega) | (intro z; exact (q20_5 z).2.2) | (intro z; have a1 := ag.2 (14, 7, 1) (by decide) (σ.1 7) (by show σ.1 7 < σ.1 7 + 1; omega); have a2 := ag.2 (15, 6, 0) (by decide) (σ.2.1 14 (σ.1 7)) (by show σ.2.1 14 (σ.1 7) < σ.1 6 + 0; omega); rw [show τ19.1 7 = σ.1 7 from by omega, show τ19.2.1 14 (σ.1 7) = σ.2.1 14 (σ.1 7) from a1, show τ19.2.1 15 (σ.2.1 14 (σ.1 7)) = σ.2.1 15 (σ.2.1 14 (σ.1 7)) from a2, g10_τ19]; exact p9 (by omega)) | (intro z; have a1 := ag.2 (14, 7, 1) (by decide) (σ.1 7) (by show σ.1 7 < σ.1 7 + 1; omega); have a2 := ag.2 (15, 6, 0) (by decide) (σ.2.1 14 (σ.1 7)) (by show σ.2.1 14 (σ.1 7) < σ.1 6 + 0; omega); rw [show τ29.1 7 = σ.1 7 from by omega, show τ29.2.1 14 (σ.1 7) = σ.2.1 14 (σ.1 7) from a1, show τ29.2.1 15 (σ.2.1 14 (σ.1 7)) = σ.2.1 15 (σ.2.1 14 (σ.1 7)) from a2, g10_τ29, g10_τ_121]; exact p9 (by omega)) | fail)), (show 5 = 0 → (σ.1 37) = 0 → (σ.1 36) ≤ 2 from by (intro z; omega)), (show 5 = 0 → (σ.1 36) ≤ 300 from by (intro z; omega)), (show 5 = 0 → J_ip (σ.1 7) (σ.1 6) (σ.1 37) (σ.2.1 14) (σ.2.1 15) (σ.2.1 16) (σ.2.1 19) from by (first | (intro z; exfalso; omega) | (intro z; exact q20_6 z) | (intro z; exact q17_4 z) | (intro _; exact IPn) | fail)), (show c_Y σ σ from by (first | exact c_Y0 _ | exact q20_7 | exact c_Y_g (by omega) (by rw [g11_τ19]) (by rw [g20_τ19]) (by rw [g22_τ19]) (by rw [g25_τ19]) | exact c_Y_g (by omega) (by rw [g11_τ29, g11_τ_121]) (by rw [g20_τ29, g20_τ_121]) (by rw [g22_τ29, g22_τ_121]) (by rw [g25_τ29, g25_τ_121]) | fail)), ag⟩
    ·
      exact ⟨hT, (show 0 ≤ 4 ∧ 4 ≤ 19 from by (first | omega | (simp only [st_s] <;> omega) | assumption | omega | fail)), (show J_vs (σ.1 6) (σ.1 5) (σ.2.1 15) from TX), (show J_rks (σ.1 5) (σ.1 4) (σ.2.1 10) (σ.2.1 11) from RKS), (show j_rr ((σ.1 5)) (σ.2.1 10) (σ.2.1 10) from by (first | exact j_rr0 _ _ | exact q20_4 | (rw [g10_τ19]; exact j_rr0 _ _) | (rw [g10_τ29, g10_τ_121]; exact j_rr0 _ _) | fail)), (show 4 = 0 → (σ.1 36) = (σ.1 36) + 1 ∧ (σ.1 6) = (σ.1 6) + 1 ∧ σ.2.1 14 ((σ.1 7) + 1) = (σ.1 6) from by (first | (intro z; exfalso; omega) | (intro z; have w := q20_5 z; exact ⟨by omega, by omega, w.2.1⟩) | (intro z; have w := q17_3 z; exact ⟨by omega, by omega, w.2⟩) | (intro _; refine ⟨by omega, by omega, ?_⟩; rw [q27_2, w7_τ29, st_s, q27_1]) | fail)), (show 4 = 0 → 0 ≤ σ.2.1 10 (σ.2.1 15 (σ.2.1 14 (σ.1 7))) from by (first | (intro z; exfalso; omega) | (intro z; exact (q20_5 z).2.2) | (intro z; have a1 := ag.2 (14, 7, 1) (by decide) (σ.1 7) (by show σ.1 7 < σ.1 7 + 1; omega); have a2 := ag.2 (15, 6, 0) (by decide) (σ.2.1 14 (σ.1 7)) (by show σ.2.1 14 (σ.1 7) < σ.1 6 + 0; omega); rw [show τ19.1 7 = σ.1 7 from by omega, show τ19.2.1 14 (σ.1 7) = σ.2.1 14 (σ.1 7) from a1, show τ19.2.1 15 (σ.2.1 14 (σ.1 7)) = σ.2.1 15 (σ.2.1 14 (σ.1 7)) from a2, g10_τ19]; exact p9 (by omega)) | (intro z; have a1 := ag.2 (14, 7, 1) (by decide) (σ.1 7) (by show σ.1 7 < σ.1 7 + 1; omega); have a2 := ag.2 (15, 6, 0) (by decide) (σ.2.1 14 (σ.1 7)) (by show σ.2.1 14 (σ.1 7) < σ.1 6 + 0; omega); rw [show τ29.1 7 = σ.1 7 from by omega, show τ29.2.1 14 (σ.1 7) = σ.2.1 14 (σ.1 7) from a1, show τ29.2.1 15 (σ.2.1 14 (σ.1 7)) = σ.2.1 15 (σ.2.1 14 (σ.1 7)) from a2, g10_τ29, g10_τ_121]; exact p9 (by omega)) | fail)), (show 4 = 0 → (σ.1 37) = 0 → (σ.1 36) ≤ 2 from by (intro z; omega)), (show 4 = 0 → (σ.1 36) ≤ 300 from by (intro z; omega)), (show 4 = 0 → J_ip (σ.1 7) (σ.1 6) (σ.1 37) (σ.2.1 14) (σ.2.1 15) (σ.2.1 16) (σ.2.1 19) from by (first | (intro z; exfalso; omega) | (intro z; exact q20_6 z) | (intro z; exact q17_4 z) | (intro _; exact IPn) | fail)), (show c_Y σ σ from by (first | exact c_Y0 _ | exact q20_7 | exact c_Y_g (by omega) (by rw [g11_τ19]) (by rw [g20_τ19]) (by rw [g22_τ19]) (by rw [g25_τ19]) | exact c_Y_g (by omega) (by rw [g11_τ29, g11_τ_121]) (by rw [g20_τ29, g20_τ_121]) (by rw [g22_τ29, g22_τ_121]) (by rw [g25_τ29, g25_τ_121]) | fail)), ag⟩
