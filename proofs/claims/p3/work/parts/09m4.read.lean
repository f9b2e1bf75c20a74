-- pure: the model reads packed proofs
set_option maxHeartbeats 1000000 in
theorem K_X13_endNumber {n1 : Int} {n2 : Int} {σ : S0} (hT : m_T σ) (p1 : 1 ≤ n1) (p2 : n1 ≤ 200000000) (p3 : 0 ≤ n2) (p4 : n2 ≤ 60000) (p5 : (σ.1 22) = (σ.1 5)) (p6 : σ.2.1 25 (σ.1 22) + σ.2.1 26 (σ.1 22) = (σ.1 9)) (p7 : ca (σ.2.1 28) ((σ.1 9)) ≤ ca (σ.2.1 28) (σ.2.1 25 (σ.1 22)) + (σ.1 29)) (p8 : ¬ (σ.1 28) = 0 → σ.2.1 25 (σ.1 22) < (σ.1 9) ∧ σ.2.1 28 ((σ.1 9) - 1) = 0) : W_X13_endNumber n1 n2 σ (fun (τ : S0) => (m_T τ) ∧ (¬ (σ.1 20) = 0 → (τ.1 20) = (σ.1 20)) ∧ (τ.2.1 25 (τ.1 22) + τ.2.1 26 (τ.1 22) = (τ.1 9)) ∧ (ca (τ.2.1 28) ((τ.1 9)) ≤ ca (τ.2.1 28) (τ.2.1 25 (τ.1 22)) + (τ.1 29)) ∧ (¬ (τ.1 28) = 0 → τ.2.1 25 (τ.1 22) < (τ.1 9) ∧ τ.2.1 28 ((τ.1 9) - 1) = 0) ∧ (j_eq (σ.2.1 25 (σ.1 22)) (σ.2.1 28) (τ.2.1 28)) ∧ ((τ.1 26) = 0) ∧ (m_ag σ τ)) := by
  have A18 : ∀ j, 0 ≤ σ.2.1 18 j ∧ σ.2.1 18 j ≤ 90000 := fun j => hT.2 18 j
  have A19 : ∀ j, 0 ≤ σ.2.1 19 j ∧ σ.2.1 19 j ≤ 60 := fun j => hT.2 19 j
  have A25 : ∀ j, 0 ≤ σ.2.1 25 j ∧ σ.2.1 25 j ≤ 20000 := fun j => hT.2 25 j
  have A26 : ∀ j, 0 ≤ σ.2.1 26 j ∧ σ.2.1 26 j ≤ 20000 := fun j => hT.2 26 j
  have A28 : ∀ j, 0 ≤ σ.2.1 28 j ∧ σ.2.1 28 j ≤ 1 := fun j => hT.2 28 j
  have v3 : 0 ≤ σ.1 3 ∧ σ.1 3 ≤ 1000 := hT.1 3
  have v5 : 0 ≤ σ.1 5 ∧ σ.1 5 ≤ 1500 := hT.1 5
  have v6 : 0 ≤ σ.1 6 ∧ σ.1 6 ≤ 30000 := hT.1 6
  have v7 : 0 ≤ σ.1 7 ∧ σ.1 7 ≤ 90000 := hT.1 7
  have v8 : 0 ≤ σ.1 8 ∧ σ.1 8 ≤ 20000 := hT.1 8
  have v9 : 0 ≤ σ.1 9 ∧ σ.1 9 ≤ 20000 := hT.1 9
  have v20 : 0 ≤ σ.1 20 ∧ σ.1 20 ≤ 19 := hT.1 20
  have v22 : 0 ≤ σ.1 22 ∧ σ.1 22 ≤ 1499 := hT.1 22
  have v25 : 0 ≤ σ.1 25 ∧ σ.1 25 ≤ 300 := hT.1 25
  have v26 : 0 ≤ σ.1 26 ∧ σ.1 26 ≤ 5000010 := hT.1 26
  have v28 : 0 ≤ σ.1 28 ∧ σ.1 28 ≤ 1 := hT.1 28
  have v29 : 0 ≤ σ.1 29 ∧ σ.1 29 ≤ 300 := hT.1 29
  have a18_22 : 0 ≤ σ.2.1 18 (σ.1 22) ∧ σ.2.1 18 (σ.1 22) ≤ 90000 := hT.2 18 _
  have a19_22 : 0 ≤ σ.2.1 19 (σ.1 22) ∧ σ.2.1 19 (σ.1 22) ≤ 60 := hT.2 19 _
  have a25_22 : 0 ≤ σ.2.1 25 (σ.1 22) ∧ σ.2.1 25 (σ.1 22) ≤ 20000 := hT.2 25 _
  have a26_22 : 0 ≤ σ.2.1 26 (σ.1 22) ∧ σ.2.1 26 (σ.1 22) ≤ 20000 := hT.2 26 _
  have a28_9 : 0 ≤ σ.2.1 28 (σ.1 9) ∧ σ.2.1 28 (σ.1 9) ≤ 1 := hT.2 28 _
  have W3 : σ.1 3 = σ.1 3 := rfl
  have W5 : σ.1 5 = σ.1 5 := rfl
  have W6 : σ.1 6 = σ.1 6 := rfl
  have W7 : σ.1 7 = σ.1 7 := rfl
  have W8 : σ.1 8 = σ.1 8 := rfl
  have W22 : σ.1 22 = σ.1 22 := rfl
  have W25 : σ.1 25 = σ.1 25 := rfl
  have W29 : σ.1 29 = σ.1 29 := rfl
  have G18 : σ.2.1 18 = σ.2.1 18 := rfl
  have G19 : σ.2.1 19 = σ.2.1 19 := rfl
  have G25 : σ.2.1 25 = σ.2.1 25 := rfl
  have ag : m_ag σ σ := ag_0 σ
  intro P31 P82 P162 P193 P196 h31 h82 h162 h193 h196
  have Y13 := j_eq0 (σ.2.1 25 (σ.1 22)) (σ.2.1 28)
  have Z4 : σ.2.1 25 (σ.1 22) + σ.2.1 26 (σ.1 22) = (σ.1 9) := p6
  have Y10 : ca (σ.2.1 28) ((σ.1 9)) ≤ ca (σ.2.1 28) (σ.2.1 25 (σ.1 22)) + (σ.1 29) := p7
  have Y12 : ¬ (σ.1 28) = 0 → σ.2.1 25 (σ.1 22) < (σ.1 9) ∧ σ.2.1 28 ((σ.1 9) - 1) = 0 := p8
  refine ⟨(show 0 ≤ σ.1 22 ∧ σ.1 22 < 1501 from by (first | omega | (simp only [st_s] <;> omega) | assumption | omega)), ?_⟩
  intro x2 r_x2 e_x2
  have b_x2 : 0 ≤ x2 ∧ x2 ≤ 60 := by rw [e_x2]; exact hT.2 19 _
  refine ⟨(⟨by (first | omega | (simp only [st_s] <;> omega) | assumption | omega), by (first | omega | (simp only [st_s] <;> omega) | assumption | omega)⟩ : rg (n1 - 1)), ?_⟩
  refine ⟨(⟨by (first | omega | (simp only [st_s] <;> omega) | assumption | omega), by (first | omega | (simp only [st_s] <;> omega) | assumption | omega)⟩ : rg (x2 + σ.1 25)), ?_⟩
  refine ⟨fun c5 => ?_, fun c5 => ?_⟩
  ·
    refine h31 _ _ _ _ _ _ ?_
    refine ⟨fun c6 => ?_, fun c6 => ?_⟩
    ·
      refine ⟨(⟨by (first | omega | (simp only [st_s] <;> omega) | assumption | omega), by (first | omega | (simp only [st_s] <;> omega) | assumption | omega)⟩ : rg ((x2 + σ.1 25) + σ.1 29)), ?_⟩
      refine ⟨fun c8 => ?_, fun c8 => ?_⟩
      ·
        refine ⟨fun c9 => ?_, fun c9 => ?_⟩
        ·
          refine ⟨fun c10 => ?_, fun c10 => ?_⟩
          ·
            refine ⟨fun c11 => ?_, fun c11 => ?_⟩
            ·
              refine ⟨(show 0 ≤ ((n1 - 1) - x2) ∧ ((n1 - 1) - x2) < 300 from by (first | omega | (simp only [st_s] <;> omega) | assumption | omega)), ?_⟩
              intro x13 r_x13 e_x13
              have b_x13 : 0 ≤ x13 ∧ x13 ≤ 1499 := by rw [e_x13]; exact hT.2 39 _
              refine h162 _ _ _ _ ?_
              refine ⟨_, K_X13_addStep hT (show -300 ≤ x13 from by (first | omega | (simp only [st_s] <;> omega) | assumption | omega)) (show x13 ≤ 1499 from by (first | omega | (simp only [st_s] <;> omega) | assumption | omega)) (show 0 ≤ n2 from by (first | omega | (simp only [st_s] <;> omega) | assumption | omega)) (show n2 ≤ 60000 from by (first | omega | (simp only [st_s] <;> omega) | assumption | omega)) (show (σ.1 9) < 20000 from by (first | omega | (simp only [st_s] <;> omega) | assumption | omega)) (show σ.2.1 26 (σ.1 22) < 20000 from by (first | omega | (simp only [st_s] <;> omega) | assumption | omega)) (show (σ.1 22) = (σ.1 5) from by (first | omega | (simp only [st_s] <;> omega) | assumption | omega)), ?_⟩
              intro τ28 hn_τ28 hf_τ28 hq
              obtain ⟨hT, q26_1, q26_2, q26_3, q26_4, q26_5, q26_6, q26_7⟩ := hq
              replace q26_1 : (τ28.1 9) = (σ.1 9) + 1 := q26_1
              replace q26_2 : τ28.2.1 26 (τ28.1 22) = σ.2.1 26 (σ.1 22) + 1 := q26_2
              replace q26_3 : τ28.2.1 27 = st (σ.2.1 27) (σ.1 9) x13 := q26_3
              replace q26_4 : j_eq ((σ.1 9)) (σ.2.1 28) (τ28.2.1 28) := q26_4
              replace q26_5 : ca (τ28.2.1 28) ((τ28.1 9)) = ca (σ.2.1 28) ((σ.1 9)) := q26_5
              replace q26_6 : τ28.2.1 28 (σ.1 9) = 0 := q26_6
              replace q26_7 : m_ag σ τ28 := q26_7
              replace ag : m_ag σ τ28 := ag_t ag q26_7 rfl
              have w3_τ28 : τ28.1 3 = σ.1 3 := hf_τ28.1 3 (by decide)
              have w5_τ28 : τ28.1 5 = σ.1 5 := hf_τ28.1 5 (by decide)
              have w6_τ28 : τ28.1 6 = σ.1 6 := hf_τ28.1 6 (by decide)
              have w7_τ28 : τ28.1 7 = σ.1 7 := hf_τ28.1 7 (by decide)
              have w8_τ28 : τ28.1 8 = σ.1 8 := hf_τ28.1 8 (by decide)
              have w20_τ28 : τ28.1 20 = σ.1 20 := hf_τ28.1 20 (by decide)
              have w22_τ28 : τ28.1 22 = σ.1 22 := hf_τ28.1 22 (by decide)
              have w25_τ28 : τ28.1 25 = σ.1 25 := hf_τ28.1 25 (by decide)
              have w26_τ28 : τ28.1 26 = σ.1 26 := hf_τ28.1 26 (by decide)
              have w28_τ28 : τ28.1 28 = σ.1 28 := hf_τ28.1 28 (by decide)
              have w29_τ28 : τ28.1 29 = σ.1 29 := hf_τ28.1 29 (by decide)
              have g18_τ28 : τ28.2.1 18 = σ.2.1 18 := hf_τ28.2.1 18 (by decide)
              have g19_τ28 : τ28.2.1 19 = σ.2.1 19 := hf_τ28.2.1 19 (by decide)
              have g25_τ28 : τ28.2.1 25 = σ.2.1 25 := hf_τ28.2.1 25 (by decide)
              have W3 : τ28.1 3 = σ.1 3 := by omega
              have W5 : τ28.1 5 = σ.1 5 := by omega
              have W6 : τ28.1 6 = σ.1 6 := by omega
              have W7 : τ28.1 7 = σ.1 7 := by omega
              have W8 : τ28.1 8 = σ.1 8 := by omega
              have W22 : τ28.1 22 = σ.1 22 := by omega
              have W25 : τ28.1 25 = σ.1 25 := by omega
              have W29 : τ28.1 29 = σ.1 29 := by omega
              have G18 : τ28.2.1 18 = σ.2.1 18 := (g18_τ28).trans G18
              have G19 : τ28.2.1 19 = σ.2.1 19 := (g19_τ28).trans G19
              have G25 : τ28.2.1 25 = σ.2.1 25 := (g25_τ28).trans G25
              have y18_22_τ28 : τ28.2.1 18 (τ28.1 22) = (σ.2.1 18) (σ.1 22) := by rw [g18_τ28, w22_τ28]
              have y19_22_τ28 : τ28.2.1 19 (τ28.1 22) = (σ.2.1 19) (σ.1 22) := by rw [g19_τ28, w22_τ28]
              have y25_22_τ28 : τ28.2.1 25 (τ28.1 22) = (σ.2.1 25) (σ.1 22) := by rw [g25_τ28, w22_τ28]
              have A18 : ∀ j, 0 ≤ τ28.2.1 18 j ∧ τ28.2.1 18 j ≤ 90000 := fun j => hT.2 18 j
              have A19 : ∀ j, 0 ≤ τ28.2.1 19 j ∧ τ28.2.1 19 j ≤ 60 := fun j => hT.2 19 j
              have A25 : ∀ j, 0 ≤ τ28.2.1 25 j ∧ τ28.2.1 25 j ≤ 20000 := fun j => hT.2 25 j
              have A26 : ∀ j, 0 ≤ τ28.2.1 26 j ∧ τ28.2.1 26 j ≤ 20000 := fun j => hT.2 26 j
              have A28 : ∀ j, 0 ≤ τ28.2.1 28 j ∧ τ28.2.1 28 j ≤ 1 := fun j => hT.2 28 j
              have v3 : 0 ≤ τ28.1 3 ∧ τ28.1 3 ≤ 1000 := hT.1 3
              have v5 : 0 ≤ τ28.1 5 ∧ τ28.1 5 ≤ 1500 := hT.1 5
              have v6 : 0 ≤ τ28.1 6 ∧ τ28.1 6 ≤ 30000 := hT.1 6
              have v7 : 0 ≤ τ28.1 7 ∧ τ28.1 7 ≤ 90000 := hT.1 7
              have v8 : 0 ≤ τ28.1 8 ∧ τ28.1 8 ≤ 20000 := hT.1 8
              have v9 : 0 ≤ τ28.1 9 ∧ τ28.1 9 ≤ 20000 := hT.1 9
              have v20 : 0 ≤ τ28.1 20 ∧ τ28.1 20 ≤ 19 := hT.1 20
              have v22 : 0 ≤ τ28.1 22 ∧ τ28.1 22 ≤ 1499 := hT.1 22
              have v25 : 0 ≤ τ28.1 25 ∧ τ28.1 25 ≤ 300 := hT.1 25
              have v26 : 0 ≤ τ28.1 26 ∧ τ28.1 26 ≤ 5000010 := hT.1 26
              have v28 : 0 ≤ τ28.1 28 ∧ τ28.1 28 ≤ 1 := hT.1 28
              have v29 : 0 ≤ τ28.1 29 ∧ τ28.1 29 ≤ 300 := hT.1 29
              have a18_22 : 0 ≤ τ28.2.1 18 (τ28.1 22) ∧ τ28.2.1 18 (τ28.1 22) ≤ 90000 := hT.2 18 _
              have a19_22 : 0 ≤ τ28.2.1 19 (τ28.1 22) ∧ τ28.2.1 19 (τ28.1 22) ≤ 60 := hT.2 19 _
              have a25_22 : 0 ≤ τ28.2.1 25 (τ28.1 22) ∧ τ28.2.1 25 (τ28.1 22) ≤ 20000 := hT.2 25 _
              have a26_22 : 0 ≤ τ28.2.1 26 (τ28.1 22) ∧ τ28.2.1 26 (τ28.1 22) ≤ 20000 := hT.2 26 _
              have a28_9 : 0 ≤ τ28.2.1 28 (τ28.1 9) ∧ τ28.2.1 28 (τ28.1 9) ≤ 1 := hT.2 28 _
              have av9 : σ.1 9 ≤ τ28.1 9 := ag.1 9 (by decide)
              have hz : τ28.2.1 28 (τ28.1 9 - 1) = 0 := by rw [show τ28.1 9 - 1 = σ.1 9 from by omega]; exact q26_6
              have Z4 : τ28.2.1 25 (τ28.1 22) + τ28.2.1 26 (τ28.1 22) = τ28.1 9 := by omega
              have ce := ca_eq q26_4 (n := σ.2.1 25 (σ.1 22)) (by omega)
              have Y10 : ca (τ28.2.1 28) (τ28.1 9) ≤ ca (τ28.2.1 28) (τ28.2.1 25 (τ28.1 22)) + τ28.1 29 := by rw [y25_22_τ28, ce, q26_5]; omega
              have Y12 : ¬ τ28.1 28 = 0 → τ28.2.1 25 (τ28.1 22) < τ28.1 9 ∧ τ28.2.1 28 (τ28.1 9 - 1) = 0 := fun _ => ⟨by omega, hz⟩
              have Y13 := j_eqw q26_4 (show σ.2.1 25 (σ.1 22) ≤ σ.1 9 from by omega)
              refine ⟨fun c29 => ?_, fun c29 => ?_⟩
              ·
                refine h193 _ _ ?_
                refine ⟨(show 0 ≤ 0 ∧ 0 ≤ 1 from by (first | omega | (simp only [st_s] <;> omega) | assumption | omega)), ?_⟩
                replace ag := ag_v (i := 28) (x := 0) ag (Or.inl rfl)
                replace hT := mT_v (i := 28) hT (show (0 : Int) ≤ 0 ∧ 0 ≤ 1 from by (first | omega | (simp only [st_s] <;> omega) | assumption | omega))
                obtain ⟨τ_196, e_τ_196⟩ : ∃ z : S0, z = s_v τ28 28 0 := ⟨_, rfl⟩
                rw [← e_τ_196]
                replace hT : m_T τ_196 := by rw [e_τ_196]; exact hT
                replace ag : m_ag σ τ_196 := by rw [e_τ_196]; exact ag
                have w3_τ_196 : τ_196.1 3 = τ28.1 3 := by rw [e_τ_196]; rfl
                have w5_τ_196 : τ_196.1 5 = τ28.1 5 := by rw [e_τ_196]; rfl
                have w6_τ_196 : τ_196.1 6 = τ28.1 6 := by rw [e_τ_196]; rfl
                have w7_τ_196 : τ_196.1 7 = τ28.1 7 := by rw [e_τ_196]; rfl
                have w8_τ_196 : τ_196.1 8 = τ28.1 8 := by rw [e_τ_196]; rfl
                have w9_τ_196 : τ_196.1 9 = τ28.1 9 := by rw [e_τ_196]; rfl
                have w20_τ_196 : τ_196.1 20 = τ28.1 20 := by rw [e_τ_196]; rfl
                have w22_τ_196 : τ_196.1 22 = τ28.1 22 := by rw [e_τ_196]; rfl
                have w25_τ_196 : τ_196.1 25 = τ28.1 25 := by rw [e_τ_196]; rfl
                have w26_τ_196 : τ_196.1 26 = τ28.1 26 := by rw [e_τ_196]; rfl
                have w28_τ_196 : τ_196.1 28 = 0 := by rw [e_τ_196]; rfl
                have w29_τ_196 : τ_196.1 29 = τ28.1 29 := by rw [e_τ_196]; rfl
                have g18_τ_196 : τ_196.2.1 18 = τ28.2.1 18 := by rw [e_τ_196]; rfl
                have g19_τ_196 : τ_196.2.1 19 = τ28.2.1 19 := by rw [e_τ_196]; rfl
                have g25_τ_196 : τ_196.2.1 25 = τ28.2.1 25 := by rw [e_τ_196]; rfl
                have g26_τ_196 : τ_196.2.1 26 = τ28.2.1 26 := by rw [e_τ_196]; rfl
                have g28_τ_196 : τ_196.2.1 28 = τ28.2.1 28 := by rw [e_τ_196]; rfl
                have W3 : τ_196.1 3 = σ.1 3 := by omega
                have W5 : τ_196.1 5 = σ.1 5 := by omega
                have W6 : τ_196.1 6 = σ.1 6 := by omega
                have W7 : τ_196.1 7 = σ.1 7 := by omega
                have W8 : τ_196.1 8 = σ.1 8 := by omega
                have W22 : τ_196.1 22 = σ.1 22 := by omega
                have W25 : τ_196.1 25 = σ.1 25 := by omega
                have W29 : τ_196.1 29 = σ.1 29 := by omega
                have G18 : τ_196.2.1 18 = σ.2.1 18 := (g18_τ_196).trans G18
                have G19 : τ_196.2.1 19 = σ.2.1 19 := (g19_τ_196).trans G19
                have G25 : τ_196.2.1 25 = σ.2.1 25 := (g25_τ_196).trans G25
                have y18_22_τ_196 : τ_196.2.1 18 (τ_196.1 22) = (τ28.2.1 18) (τ28.1 22) := by rw [g18_τ_196, w22_τ_196]
                have y19_22_τ_196 : τ_196.2.1 19 (τ_196.1 22) = (τ28.2.1 19) (τ28.1 22) := by rw [g19_τ_196, w22_τ_196]
                have y25_22_τ_196 : τ_196.2.1 25 (τ_196.1 22) = (τ28.2.1 25) (τ28.1 22) := by rw [g25_τ_196, w22_τ_196]
                have y26_22_τ_196 : τ_196.2.1 26 (τ_196.1 22) = (τ28.2.1 26) (τ28.1 22) := by rw [g26_τ_196, w22_τ_196]
                have y28_9_τ_196 : τ_196.2.1 28 (τ_196.1 9) = (τ28.2.1 28) (τ28.1 9) := by rw [g28_τ_196, w9_τ_196]
                have Z4 : τ_196.2.1 25 (τ_196.1 22) + τ_196.2.1 26 (τ_196.1 22) = (τ_196.1 9) := by rw [show (τ_196.2.1 25 (τ_196.1 22) + τ_196.2.1 26 (τ_196.1 22) = (τ_196.1 9)) = (τ28.2.1 25 (τ28.1 22) + τ28.2.1 26 (τ28.1 22) = (τ28.1 9)) from by rw [w9_τ_196, w22_τ_196, g25_τ_196, g26_τ_196]]; exact Z4
                have Y10 : ca (τ_196.2.1 28) ((τ_196.1 9)) ≤ ca (τ_196.2.1 28) (τ_196.2.1 25 (τ_196.1 22)) + (τ_196.1 29) := by rw [show (ca (τ_196.2.1 28) ((τ_196.1 9)) ≤ ca (τ_196.2.1 28) (τ_196.2.1 25 (τ_196.1 22)) + (τ_196.1 29)) = (ca (τ28.2.1 28) ((τ28.1 9)) ≤ ca (τ28.2.1 28) (τ28.2.1 25 (τ28.1 22)) + (τ28.1 29)) from by rw [w9_τ_196, w22_τ_196, w29_τ_196, g25_τ_196, g28_τ_196]]; exact Y10
                have Y13 : j_eq (σ.2.1 25 (σ.1 22)) (σ.2.1 28) (τ_196.2.1 28) := by rw [show (j_eq (σ.2.1 25 (σ.1 22)) (σ.2.1 28) (τ_196.2.1 28)) = (j_eq (σ.2.1 25 (σ.1 22)) (σ.2.1 28) (τ28.2.1 28)) from by rw [g28_τ_196]]; exact Y13
                have A18 : ∀ j, 0 ≤ τ_196.2.1 18 j ∧ τ_196.2.1 18 j ≤ 90000 := fun j => hT.2 18 j
                have A19 : ∀ j, 0 ≤ τ_196.2.1 19 j ∧ τ_196.2.1 19 j ≤ 60 := fun j => hT.2 19 j
                have A25 : ∀ j, 0 ≤ τ_196.2.1 25 j ∧ τ_196.2.1 25 j ≤ 20000 := fun j => hT.2 25 j
                have A26 : ∀ j, 0 ≤ τ_196.2.1 26 j ∧ τ_196.2.1 26 j ≤ 20000 := fun j => hT.2 26 j
                have A28 : ∀ j, 0 ≤ τ_196.2.1 28 j ∧ τ_196.2.1 28 j ≤ 1 := fun j => hT.2 28 j
                have v3 : 0 ≤ τ_196.1 3 ∧ τ_196.1 3 ≤ 1000 := hT.1 3
                have v5 : 0 ≤ τ_196.1 5 ∧ τ_196.1 5 ≤ 1500 := hT.1 5
                have v6 : 0 ≤ τ_196.1 6 ∧ τ_196.1 6 ≤ 30000 := hT.1 6
                have v7 : 0 ≤ τ_196.1 7 ∧ τ_196.1 7 ≤ 90000 := hT.1 7
                have v8 : 0 ≤ τ_196.1 8 ∧ τ_196.1 8 ≤ 20000 := hT.1 8
                have v9 : 0 ≤ τ_196.1 9 ∧ τ_196.1 9 ≤ 20000 := hT.1 9
                have v20 : 0 ≤ τ_196.1 20 ∧ τ_196.1 20 ≤ 19 := hT.1 20
                have v22 : 0 ≤ τ_196.1 22 ∧ τ_196.1 22 ≤ 1499 := hT.1 22
                have v25 : 0 ≤ τ_196.1 25 ∧ τ_196.1 25 ≤ 300 := hT.1 25
                have v26 : 0 ≤ τ_196.1 26 ∧ τ_196.1 26 ≤ 5000010 := hT.1 26
                have v28 : 0 ≤ τ_196.1 28 ∧ τ_196.1 28 ≤ 1 := hT.1 28
                have v29 : 0 ≤ τ_196.1 29 ∧ τ_196.1 29 ≤ 300 := hT.1 29
                have a18_22 : 0 ≤ τ_196.2.1 18 (τ_196.1 22) ∧ τ_196.2.1 18 (τ_196.1 22) ≤ 90000 := hT.2 18 _
                have a19_22 : 0 ≤ τ_196.2.1 19 (τ_196.1 22) ∧ τ_196.2.1 19 (τ_196.1 22) ≤ 60 := hT.2 19 _
                have a25_22 : 0 ≤ τ_196.2.1 25 (τ_196.1 22) ∧ τ_196.2.1 25 (τ_196.1 22) ≤ 20000 := hT.2 25 _
                have a26_22 : 0 ≤ τ_196.2.1 26 (τ_196.1 22) ∧ τ_196.2.1 26 (τ_196.1 22) ≤ 20000 := hT.2 26 _
                have a28_9 : 0 ≤ τ_196.2.1 28 (τ_196.1 9) ∧ τ_196.2.1 28 (τ_196.1 9) ≤ 1 := hT.2 28 _
                have av9 : σ.1 9 ≤ τ_196.1 9 := ag.1 9 (by decide)
                refine h196 _ ?_
                replace ag := ag_v (i := 26) (x := 0) ag (Or.inl rfl)
                replace hT := mT_v (i := 26) hT (show (0 : Int) ≤ 0 ∧ 0 ≤ 5000010 from by (first | omega | (simp only [st_s] <;> omega) | assumption | omega))
                replace ag := ag_v (i := 27) (x := 0) ag (Or.inl rfl)
                replace hT := mT_v (i := 27) hT (show (0 : Int) ≤ 0 ∧ 0 ≤ 1 from by (first | omega | (simp only [st_s] <;> omega) | assumption | omega))
                exact ⟨hT, (show ¬ (σ.1 20) = 0 → (τ_196.1 20) = (σ.1 20) from by (first | omega | (simp only [st_s] <;> omega) | assumption | omega)), (show τ_196.2.1 25 (τ_196.1 22) + τ_196.2.1 26 (τ_196.1 22) = (τ_196.1 9) from Z4), (show ca (τ_196.2.1 28) ((τ_196.1 9)) ≤ ca (τ_196.2.1 28) (τ_196.2.1 25 (τ_196.1 22)) + (τ_196.1 29) from Y10), (show ¬ (τ_196.1 28) = 0 → τ_196.2.1 25 (τ_196.1 22) < (τ_196.1 9) ∧ τ_196.2.1 28 ((τ_196.1 9) - 1) = 0 from by (first | assumption | omega | (intro _; refine ⟨by omega, ?_⟩; first | exact hz | (rw [e_τ_196]; exact hz)))), (show j_eq (σ.2.1 25 (σ.1 22)) (σ.2.1 28) (τ_196.2.1 28) from Y13), (show ((0 : Int)) = 0 from by (first | omega | (simp only [st_s] <;> omega) | assumption | omega)), ag⟩
              ·
                refine ⟨(show 0 ≤ x13 ∧ x13 < 1501 from by (first | omega | (simp only [st_s] <;> omega) | assumption | omega)), ?_⟩
                intro x31 r_x31 e_x31
                have b_x31 : 0 ≤ x31 ∧ x31 ≤ 4 := by rw [e_x31]; exact hT.2 13 _
                refine ⟨fun c32 => ?_, fun c32 => ?_⟩
                ·
                  refine h193 _ _ ?_
                  refine ⟨(show 0 ≤ 0 ∧ 0 ≤ 1 from by (first | omega | (simp only [st_s] <;> omega) | assumption | omega)), ?_⟩
                  replace ag := ag_v (i := 28) (x := 0) ag (Or.inl rfl)
                  replace hT := mT_v (i := 28) hT (show (0 : Int) ≤ 0 ∧ 0 ≤ 1 from by (first | omega | (simp only [st_s] <;> omega) | assumption | omega))
                  obtain ⟨τ_196, e_τ_196⟩ : ∃ z : S0, z = s_v τ28 28 0 := ⟨_, rfl⟩
                  rw [← e_τ_196]
                  replace hT : m_T τ_196 := by rw [e_τ_196]; exact hT
                  replace ag : m_ag σ τ_196 := by rw [e_τ_196]; exact ag
                  have w3_τ_196 : τ_196.1 3 = τ28.1 3 := by rw [e_τ_196]; rfl
                  have w5_τ_196 : τ_196.1 5 = τ28.1 5 := by rw [e_τ_196]; rfl
                  have w6_τ_196 : τ_196.1 6 = τ28.1 6 := by rw [e_τ_196]; rfl
                  have w7_τ_196 : τ_196.1 7 = τ28.1 7 := by rw [e_τ_196]; rfl
                  have w8_τ_196 : τ_196.1 8 = τ28.1 8 := by rw [e_τ_196]; rfl
                  have w9_τ_196 : τ_196.1 9 = τ28.1 9 := by rw [e_τ_196]; rfl
                  have w20_τ_196 : τ_196.1 20 = τ28.1 20 := by rw [e_τ_196]; rfl
                  have w22_τ_196 : τ_196.1 22 = τ28.1 22 := by rw [e_τ_196]; rfl
                  have w25_τ_196 : τ_196.1 25 = τ28.1 25 := by rw [e_τ_196]; rfl
                  have w26_τ_196 : τ_196.1 26 = τ28.1 26 := by rw [e_τ_196]; rfl
                  have w28_τ_196 : τ_196.1 28 = 0 := by rw [e_τ_196]; rfl
                  have w29_τ_196 : τ_196.1 29 = τ28.1 29 := by rw [e_τ_196]; rfl
                  have g18_τ_196 : τ_196.2.1 18 = τ28.2.1 18 := by rw [e_τ_196]; rfl
                  have g19_τ_196 : τ_196.2.1 19 = τ28.2.1 19 := by rw [e_τ_196]; rfl
                  have g25_τ_196 : τ_196.2.1 25 = τ28.2.1 25 := by rw [e_τ_196]; rfl
                  have g26_τ_196 : τ_196.2.1 26 = τ28.2.1 26 := by rw [e_τ_196]; rfl
                  have g28_τ_196 : τ_196.2.1 28 = τ28.2.1 28 := by rw [e_τ_196]; rfl
                  have W3 : τ_196.1 3 = σ.1 3 := by omega
                  have W5 : τ_196.1 5 = σ.1 5 := by omega
                  have W6 : τ_196.1 6 = σ.1 6 := by omega
                  have W7 : τ_196.1 7 = σ.1 7 := by omega
                  have W8 : τ_196.1 8 = σ.1 8 := by omega
                  have W22 : τ_196.1 22 = σ.1 22 := by omega
                  have W25 : τ_196.1 25 = σ.1 25 := by omega
                  have W29 : τ_196.1 29 = σ.1 29 := by omega
                  have G18 : τ_196.2.1 18 = σ.2.1 18 := (g18_τ_196).trans G18
                  have G19 : τ_196.2.1 19 = σ.2.1 19 := (g19_τ_196).trans G19
                  have G25 : τ_196.2.1 25 = σ.2.1 25 := (g25_τ_196).trans G25
                  have y18_22_τ_196 : τ_196.2.1 18 (τ_196.1 22) = (τ28.2.1 18) (τ28.1 22) := by rw [g18_τ_196, w22_τ_196]
                  have y19_22_τ_196 : τ_196.2.1 19 (τ_196.1 22) = (τ28.2.1 19) (τ28.1 22) := by rw [g19_τ_196, w22_τ_196]
                  have y25_22_τ_196 : τ_196.2.1 25 (τ_196.1 22) = (τ28.2.1 25) (τ28.1 22) := by rw [g25_τ_196, w22_τ_196]
                  have y26_22_τ_196 : τ_196.2.1 26 (τ_196.1 22) = (τ28.2.1 26) (τ28.1 22) := by rw [g26_τ_196, w22_τ_196]
                  have y28_9_τ_196 : τ_196.2.1 28 (τ_196.1 9) = (τ28.2.1 28) (τ28.1 9) := by rw [g28_τ_196, w9_τ_196]
                  have Z4 : τ_196.2.1 25 (τ_196.1 22) + τ_196.2.1 26 (τ_196.1 22) = (τ_196.1 9) := by rw [show (τ_196.2.1 25 (τ_196.1 22) + τ_196.2.1 26 (τ_196.1 22) = (τ_196.1 9)) = (τ28.2.1 25 (τ28.1 22) + τ28.2.1 26 (τ28.1 22) = (τ28.1 9)) from by rw [w9_τ_196, w22_τ_196, g25_τ_196, g26_τ_196]]; exact Z4
                  have Y10 : ca (τ_196.2.1 28) ((τ_196.1 9)) ≤ ca (τ_196.2.1 28) (τ_196.2.1 25 (τ_196.1 22)) + (τ_196.1 29) := by rw [show (ca (τ_196.2.1 28) ((τ_196.1 9)) ≤ ca (τ_196.2.1 28) (τ_196.2.1 25 (τ_196.1 22)) + (τ_196.1 29)) = (ca (τ28.2.1 28) ((τ28.1 9)) ≤ ca (τ28.2.1 28) (τ28.2.1 25 (τ28.1 22)) + (τ28.1 29)) from by rw [w9_τ_196, w22_τ_196, w29_τ_196, g25_τ_196, g28_τ_196]]; exact Y10
                  have Y13 : j_eq (σ.2.1 25 (σ.1 22)) (σ.2.1 28) (τ_196.2.1 28) := by rw [show (j_eq (σ.2.1 25 (σ.1 22)) (σ.2.1 28) (τ_196.2.1 28)) = (j_eq (σ.2.1 25 (σ.1 22)) (σ.2.1 28) (τ28.2.1 28)) from by rw [g28_τ_196]]; exact Y13
                  have A18 : ∀ j, 0 ≤ τ_196.2.1 18 j ∧ τ_196.2.1 18 j ≤ 90000 := fun j => hT.2 18 j
                  have A19 : ∀ j, 0 ≤ τ_196.2.1 19 j ∧ τ_196.2.1 19 j ≤ 60 := fun j => hT.2 19 j
                  have A25 : ∀ j, 0 ≤ τ_196.2.1 25 j ∧ τ_196.2.1 25 j ≤ 20000 := fun j => hT.2 25 j
                  have A26 : ∀ j, 0 ≤ τ_196.2.1 26 j ∧ τ_196.2.1 26 j ≤ 20000 := fun j => hT.2 26 j
                  have A28 : ∀ j, 0 ≤ τ_196.2.1 28 j ∧ τ_196.2.1 28 j ≤ 1 := fun j => hT.2 28 j
                  have v3 : 0 ≤ τ_196.1 3 ∧ τ_196.1 3 ≤ 1000 := hT.1 3
                  have v5 : 0 ≤ τ_196.1 5 ∧ τ_196.1 5 ≤ 1500 := hT.1 5
                  have v6 : 0 ≤ τ_196.1 6 ∧ τ_196.1 6 ≤ 30000 := hT.1 6
                  have v7 : 0 ≤ τ_196.1 7 ∧ τ_196.1 7 ≤ 90000 := hT.1 7
                  have v8 : 0 ≤ τ_196.1 8 ∧ τ_196.1 8 ≤ 20000 := hT.1 8
                  have v9 : 0 ≤ τ_196.1 9 ∧ τ_196.1 9 ≤ 20000 := hT.1 9
                  have v20 : 0 ≤ τ_196.1 20 ∧ τ_196.1 20 ≤ 19 := hT.1 20
                  have v22 : 0 ≤ τ_196.1 22 ∧ τ_196.1 22 ≤ 1499 := hT.1 22
                  have v25 : 0 ≤ τ_196.1 25 ∧ τ_196.1 25 ≤ 300 := hT.1 25
                  have v26 : 0 ≤ τ_196.1 26 ∧ τ_196.1 26 ≤ 5000010 := hT.1 26
                  have v28 : 0 ≤ τ_196.1 28 ∧ τ_196.1 28 ≤ 1 := hT.1 28
                  have v29 : 0 ≤ τ_196.1 29 ∧ τ_196.1 29 ≤ 300 := hT.1 29
                  have a18_22 : 0 ≤ τ_196.2.1 18 (τ_196.1 22) ∧ τ_196.2.1 18 (τ_196.1 22) ≤ 90000 := hT.2 18 _
                  have a19_22 : 0 ≤ τ_196.2.1 19 (τ_196.1 22) ∧ τ_196.2.1 19 (τ_196.1 22) ≤ 60 := hT.2 19 _
                  have a25_22 : 0 ≤ τ_196.2.1 25 (τ_196.1 22) ∧ τ_196.2.1 25 (τ_196.1 22) ≤ 20000 := hT.2 25 _
                  have a26_22 : 0 ≤ τ_196.2.1 26 (τ_196.1 22) ∧ τ_196.2.1 26 (τ_196.1 22) ≤ 20000 := hT.2 26 _
                  have a28_9 : 0 ≤ τ_196.2.1 28 (τ_196.1 9) ∧ τ_196.2.1 28 (τ_196.1 9) ≤ 1 := hT.2 28 _
                  have av9 : σ.1 9 ≤ τ_196.1 9 := ag.1 9 (by decide)
                  refine h196 _ ?_
                  replace ag := ag_v (i := 26) (x := 0) ag (Or.inl rfl)
                  replace hT := mT_v (i := 26) hT (show (0 : Int) ≤ 0 ∧ 0 ≤ 5000010 from by (first | omega | (simp only [st_s] <;> omega) | assumption | omega))
                  replace ag := ag_v (i := 27) (x := 0) ag (Or.inl rfl)
                  replace hT := mT_v (i := 27) hT (show (0 : Int) ≤ 0 ∧ 0 ≤ 1 from by (first | omega | (simp only [st_s] <;> omega) | assumption | omega))
                  exact ⟨hT, (show ¬ (σ.1 20) = 0 → (τ_196.1 20) = (σ.1 20) from by (first | omega | (simp only [st_s] <;> omega) | assumption | omega)), (show τ_196.2.1 25 (τ_196.1 22) + τ_196.2.1 26 (τ_196.1 22) = (τ_196.1 9) from Z4), (show ca (τ_196.2.1 28) ((τ_196.1 9)) ≤ ca (τ_196.2.1 28) (τ_196.2.1 25 (τ_196.1 22)) + (τ_196.1 29) from Y10), (show ¬ (τ_196.1 28) = 0 → τ_196.2.1 25 (τ_196.1 22) < (τ_196.1 9) ∧ τ_196.2.1 28 ((τ_196.1 9) - 1) = 0 from by (first | assumption | omega | (intro _; refine ⟨by omega, ?_⟩; first | exact hz | (rw [e_τ_196]; exact hz)))), (show j_eq (σ.2.1 25 (σ.1 22)) (σ.2.1 28) (τ_196.2.1 28) from Y13), (show ((0 : Int)) = 0 from by (first | omega | (simp only [st_s] <;> omega) | assumption | omega)), ag⟩
                ·
                  refine h193 _ _ ?_
                  refine ⟨(show 0 ≤ 1 ∧ 1 ≤ 1 from by (first | omega | (simp only [st_s] <;> omega) | assumption | omega)), ?_⟩
                  replace ag := ag_v (i := 28) (x := 1) ag (Or.inl rfl)
                  replace hT := mT_v (i := 28) hT (show (0 : Int) ≤ 1 ∧ 1 ≤ 1 from by (first | omega | (simp only [st_s] <;> omega) | assumption | omega))
                  obtain ⟨τ_196, e_τ_196⟩ : ∃ z : S0, z = s_v τ28 28 1 := ⟨_, rfl⟩
                  rw [← e_τ_196]
                  replace hT : m_T τ_196 := by rw [e_τ_196]; exact hT
                  replace ag : m_ag σ τ_196 := by rw [e_τ_196]; exact ag
                  have w3_τ_196 : τ_196.1 3 = τ28.1 3 := by rw [e_τ_196]; rfl
                  have w5_τ_196 : τ_196.1 5 = τ28.1 5 := by rw [e_τ_196]; rfl
                  have w6_τ_196 : τ_196.1 6 = τ28.1 6 := by rw [e_τ_196]; rfl
                  have w7_τ_196 : τ_196.1 7 = τ28.1 7 := by rw [e_τ_196]; rfl
                  have w8_τ_196 : τ_196.1 8 = τ28.1 8 := by rw [e_τ_196]; rfl
                  have w9_τ_196 : τ_196.1 9 = τ28.1 9 := by rw [e_τ_196]; rfl
                  have w20_τ_196 : τ_196.1 20 = τ28.1 20 := by rw [e_τ_196]; rfl
                  have w22_τ_196 : τ_196.1 22 = τ28.1 22 := by rw [e_τ_196]; rfl
                  have w25_τ_196 : τ_196.1 25 = τ28.1 25 := by rw [e_τ_196]; rfl
                  have w26_τ_196 : τ_196.1 26 = τ28.1 26 := by rw [e_τ_196]; rfl
                  have w28_τ_196 : τ_196.1 28 = 1 := by rw [e_τ_196]; rfl
                  have w29_τ_196 : τ_196.1 29 = τ28.1 29 := by rw [e_τ_196]; rfl
                  have g18_τ_196 : τ_196.2.1 18 = τ28.2.1 18 := by rw [e_τ_196]; rfl
                  have g19_τ_196 : τ_196.2.1 19 = τ28.2.1 19 := by rw [e_τ_196]; rfl
                  have g25_τ_196 : τ_196.2.1 25 = τ28.2.1 25 := by rw [e_τ_196]; rfl
                  have g26_τ_196 : τ_196.2.1 26 = τ28.2.1 26 := by rw [e_τ_196]; rfl
                  have g28_τ_196 : τ_196.2.1 28 = τ28.2.1 28 := by rw [e_τ_196]; rfl
                  have W3 : τ_196.1 3 = σ.1 3 := by omega
                  have W5 : τ_196.1 5 = σ.1 5 := by omega
                  have W6 : τ_196.1 6 = σ.1 6 := by omega
                  have W7 : τ_196.1 7 = σ.1 7 := by omega
                  have W8 : τ_196.1 8 = σ.1 8 := by omega
                  have W22 : τ_196.1 22 = σ.1 22 := by omega
                  have W25 : τ_196.1 25 = σ.1 25 := by omega
                  have W29 : τ_196.1 29 = σ.1 29 := by omega
                  have G18 : τ_196.2.1 18 = σ.2.1 18 := (g18_τ_196).trans G18
                  have G19 : τ_196.2.1 19 = σ.2.1 19 := (g19_τ_196).trans G19
                  have G25 : τ_196.2.1 25 = σ.2.1 25 := (g25_τ_196).trans G25
                  have y18_22_τ_196 : τ_196.2.1 18 (τ_196.1 22) = (τ28.2.1 18) (τ28.1 22) := by rw [g18_τ_196, w22_τ_196]
                  have y19_22_τ_196 : τ_196.2.1 19 (τ_196.1 22) = (τ28.2.1 19) (τ28.1 22) := by rw [g19_τ_196, w22_τ_196]
                  have y25_22_τ_196 : τ_196.2.1 25 (τ_196.1 22) = (τ28.2.1 25) (τ28.1 22) := by rw [g25_τ_196, w22_τ_196]
                  have y26_22_τ_196 : τ_196.2.1 26 (τ_196.1 22) = (τ28.2.1 26) (τ28.1 22) := by rw [g26_τ_196, w22_τ_196]
                  have y28_9_τ_196 : τ_196.2.1 28 (τ_196.1 9) = (τ28.2.1 28) (τ28.1 9) := by rw [g28_τ_196, w9_τ_196]
                  have Z4 : τ_196.2.1 25 (τ_196.1 22) + τ_196.2.1 26 (τ_196.1 22) = (τ_196.1 9) := by rw [show (τ_196.2.1 25 (τ_196.1 22) + τ_196.2.1 26 (τ_196.1 22) = (τ_196.1 9)) = (τ28.2.1 25 (τ28.1 22) + τ28.2.1 26 (τ28.1 22) = (τ28.1 9)) from by rw [w9_τ_196, w22_τ_196, g25_τ_196, g26_τ_196]]; exact Z4
                  have Y10 : ca (τ_196.2.1 28) ((τ_196.1 9)) ≤ ca (τ_196.2.1 28) (τ_196.2.1 25 (τ_196.1 22)) + (τ_196.1 29) := by rw [show (ca (τ_196.2.1 28) ((τ_196.1 9)) ≤ ca (τ_196.2.1 28) (τ_196.2.1 25 (τ_196.1 22)) + (τ_196.1 29)) = (ca (τ28.2.1 28) ((τ28.1 9)) ≤ ca (τ28.2.1 28) (τ28.2.1 25 (τ28.1 22)) + (τ28.1 29)) from by rw [w9_τ_196, w22_τ_196, w29_τ_196, g25_τ_196, g28_τ_196]]; exact Y10
                  have Y13 : j_eq (σ.2.1 25 (σ.1 22)) (σ.2.1 28) (τ_196.2.1 28) := by rw [show (j_eq (σ.2.1 25 (σ.1 22)) (σ.2.1 28) (τ_196.2.1 28)) = (j_eq (σ.2.1 25 (σ.1 22)) (σ.2.1 28) (τ28.2.1 28)) from by rw [g28_τ_196]]; exact Y13
                  have A18 : ∀ j, 0 ≤ τ_196.2.1 18 j ∧ τ_196.2.1 18 j ≤ 90000 := fun j => hT.2 18 j
                  have A19 : ∀ j, 0 ≤ τ_196.2.1 19 j ∧ τ_196.2.1 19 j ≤ 60 := fun j => hT.2 19 j
                  have A25 : ∀ j, 0 ≤ τ_196.2.1 25 j ∧ τ_196.2.1 25 j ≤ 20000 := fun j => hT.2 25 j
                  have A26 : ∀ j, 0 ≤ τ_196.2.1 26 j ∧ τ_196.2.1 26 j ≤ 20000 := fun j => hT.2 26 j
                  have A28 : ∀ j, 0 ≤ τ_196.2.1 28 j ∧ τ_196.2.1 28 j ≤ 1 := fun j => hT.2 28 j
                  have v3 : 0 ≤ τ_196.1 3 ∧ τ_196.1 3 ≤ 1000 := hT.1 3
                  have v5 : 0 ≤ τ_196.1 5 ∧ τ_196.1 5 ≤ 1500 := hT.1 5
                  have v6 : 0 ≤ τ_196.1 6 ∧ τ_196.1 6 ≤ 30000 := hT.1 6
                  have v7 : 0 ≤ τ_196.1 7 ∧ τ_196.1 7 ≤ 90000 := hT.1 7
                  have v8 : 0 ≤ τ_196.1 8 ∧ τ_196.1 8 ≤ 20000 := hT.1 8
                  have v9 : 0 ≤ τ_196.1 9 ∧ τ_196.1 9 ≤ 20000 := hT.1 9
                  have v20 : 0 ≤ τ_196.1 20 ∧ τ_196.1 20 ≤ 19 := hT.1 20
                  have v22 : 0 ≤ τ_196.1 22 ∧ τ_196.1 22 ≤ 1499 := hT.1 22
                  have v25 : 0 ≤ τ_196.1 25 ∧ τ_196.1 25 ≤ 300 := hT.1 25
                  have v26 : 0 ≤ τ_196.1 26 ∧ τ_196.1 26 ≤ 5000010 := hT.1 26
                  have v28 : 0 ≤ τ_196.1 28 ∧ τ_196.1 28 ≤ 1 := hT.1 28
                  have v29 : 0 ≤ τ_196.1 29 ∧ τ_196.1 29 ≤ 300 := hT.1 29
                  have a18_22 : 0 ≤ τ_196.2.1 18 (τ_196.1 22) ∧ τ_196.2.1 18 (τ_196.1 22) ≤ 90000 := hT.2 18 _
                  have a19_22 : 0 ≤ τ_196.2.1 19 (τ_196.1 22) ∧ τ_196.2.1 19 (τ_196.1 22) ≤ 60 := hT.2 19 _
                  have a25_22 : 0 ≤ τ_196.2.1 25 (τ_196.1 22) ∧ τ_196.2.1 25 (τ_196.1 22) ≤ 20000 := hT.2 25 _
                  have a26_22 : 0 ≤ τ_196.2.1 26 (τ_196.1 22) ∧ τ_196.2.1 26 (τ_196.1 22) ≤ 20000 := hT.2 26 _
                  have a28_9 : 0 ≤ τ_196.2.1 28 (τ_196.1 9) ∧ τ_196.2.1 28 (τ_196.1 9) ≤ 1 := hT.2 28 _
                  have av9 : σ.1 9 ≤ τ_196.1 9 := ag.1 9 (by decide)
                  refine h196 _ ?_
                  replace ag := ag_v (i := 26) (x := 0) ag (Or.inl rfl)
                  replace hT := mT_v (i := 26) hT (show (0 : Int) ≤ 0 ∧ 0 ≤ 5000010 from by (first | omega | (simp only [st_s] <;> omega) | assumption | omega))
                  replace ag := ag_v (i := 27) (x := 0) ag (Or.inl rfl)
                  replace hT := mT_v (i := 27) hT (show (0 : Int) ≤ 0 ∧ 0 ≤ 1 from by (first | omega | (simp only [st_s] <;> omega) | assumption | omega))
                  exact ⟨hT, (show ¬ (σ.1 20) = 0 → (τ_196.1 20) = (σ.1 20) from by (first | omega | (simp only [st_s] <;> omega) | assumption | omega)), (show τ_196.2.1 25 (τ_196.1 22) + τ_196.2.1 26 (τ_196.1 22) = (τ_196.1 9) from Z4), (show ca (τ_196.2.1 28) ((τ_196.1 9)) ≤ ca (τ_196.2.1 28) (τ_196.2.1 25 (τ_196.1 22)) + (τ_196.1 29) from Y10), (show ¬ (τ_196.1 28) = 0 → τ_196.2.1 25 (τ_196.1 22) < (τ_196.1 9) ∧ τ_196.2.1 28 ((τ_196.1 9) - 1) = 0 from by (first | assumption | omega | (intro _; refine ⟨by omega, ?_⟩; first | exact hz | (rw [e_τ_196]; exact hz)))), (show j_eq (σ.2.1 25 (σ.1 22)) (σ.2.1 28) (τ_196.2.1 28) from Y13), (show ((0 : Int)) = 0 from by (first | omega | (simp only [st_s] <;> omega) | assumption | omega)), ag⟩
            ·
              refine ⟨(show 0 ≤ σ.1 22 ∧ σ.1 22 < 1501 from by (first | omega | (simp only [st_s] <;> omega) | assumption | omega)), ?_⟩
              intro x15 r_x15 e_x15
              have b_x15 : 0 ≤ x15 ∧ x15 ≤ 90000 := by rw [e_x15]; exact hT.2 18 _
              refine ⟨(show 0 ≤ (x15 + (n1 - 1)) ∧ (x15 + (n1 - 1)) < 90100 from by (first | omega | (simp only [st_s] <;> omega) | assumption | omega)), ?_⟩
              intro x17 r_x17 e_x17
              have b_x17 : 0 ≤ x17 ∧ x17 ≤ 1499 := by rw [e_x17]; exact hT.2 20 _
              refine h162 _ _ _ _ ?_
              refine ⟨_, K_X13_addStep hT (show -300 ≤ x17 from by (first | omega | (simp only [st_s] <;> omega) | assumption | omega)) (show x17 ≤ 1499 from by (first | omega | (simp only [st_s] <;> omega) | assumption | omega)) (show 0 ≤ n2 from by (first | omega | (simp only [st_s] <;> omega) | assumption | omega)) (show n2 ≤ 60000 from by (first | omega | (simp only [st_s] <;> omega) | assumption | omega)) (show (σ.1 9) < 20000 from by (first | omega | (simp only [st_s] <;> omega) | assumption | omega)) (show σ.2.1 26 (σ.1 22) < 20000 from by (first | omega | (simp only [st_s] <;> omega) | assumption | omega)) (show (σ.1 22) = (σ.1 5) from by (first | omega | (simp only [st_s] <;> omega) | assumption | omega)), ?_⟩
              intro τ28 hn_τ28 hf_τ28 hq
              obtain ⟨hT, q26_1, q26_2, q26_3, q26_4, q26_5, q26_6, q26_7⟩ := hq
              replace q26_1 : (τ28.1 9) = (σ.1 9) + 1 := q26_1
              replace q26_2 : τ28.2.1 26 (τ28.1 22) = σ.2.1 26 (σ.1 22) + 1 := q26_2
              replace q26_3 : τ28.2.1 27 = st (σ.2.1 27) (σ.1 9) x17 := q26_3
              replace q26_4 : j_eq ((σ.1 9)) (σ.2.1 28) (τ28.2.1 28) := q26_4
              replace q26_5 : ca (τ28.2.1 28) ((τ28.1 9)) = ca (σ.2.1 28) ((σ.1 9)) := q26_5
              replace q26_6 : τ28.2.1 28 (σ.1 9) = 0 := q26_6
              replace q26_7 : m_ag σ τ28 := q26_7
              replace ag : m_ag σ τ28 := ag_t ag q26_7 rfl
              have w3_τ28 : τ28.1 3 = σ.1 3 := hf_τ28.1 3 (by decide)
              have w5_τ28 : τ28.1 5 = σ.1 5 := hf_τ28.1 5 (by decide)
              have w6_τ28 : τ28.1 6 = σ.1 6 := hf_τ28.1 6 (by decide)
              have w7_τ28 : τ28.1 7 = σ.1 7 := hf_τ28.1 7 (by decide)
              have w8_τ28 : τ28.1 8 = σ.1 8 := hf_τ28.1 8 (by decide)
              have w20_τ28 : τ28.1 20 = σ.1 20 := hf_τ28.1 20 (by decide)
              have w22_τ28 : τ28.1 22 = σ.1 22 := hf_τ28.1 22 (by decide)
              have w25_τ28 : τ28.1 25 = σ.1 25 := hf_τ28.1 25 (by decide)
              have w26_τ28 : τ28.1 26 = σ.1 26 := hf_τ28.1 26 (by decide)
              have w28_τ28 : τ28.1 28 = σ.1 28 := hf_τ28.1 28 (by decide)
              have w29_τ28 : τ28.1 29 = σ.1 29 := hf_τ28.1 29 (by decide)
              have g18_τ28 : τ28.2.1 18 = σ.2.1 18 := hf_τ28.2.1 18 (by decide)
              have g19_τ28 : τ28.2.1 19 = σ.2.1 19 := hf_τ28.2.1 19 (by decide)
              have g25_τ28 : τ28.2.1 25 = σ.2.1 25 := hf_τ28.2.1 25 (by decide)
              have W3 : τ28.1 3 = σ.1 3 := by omega
              have W5 : τ28.1 5 = σ.1 5 := by omega
              have W6 : τ28.1 6 = σ.1 6 := by omega
              have W7 : τ28.1 7 = σ.1 7 := by omega
              have W8 : τ28.1 8 = σ.1 8 := by omega
              have W22 : τ28.1 22 = σ.1 22 := by omega
              have W25 : τ28.1 25 = σ.1 25 := by omega
              have W29 : τ28.1 29 = σ.1 29 := by omega
              have G18 : τ28.2.1 18 = σ.2.1 18 := (g18_τ28).trans G18
              have G19 : τ28.2.1 19 = σ.2.1 19 := (g19_τ28).trans G19
              have G25 : τ28.2.1 25 = σ.2.1 25 := (g25_τ28).trans G25
              have y18_22_τ28 : τ28.2.1 18 (τ28.1 22) = (σ.2.1 18) (σ.1 22) := by rw [g18_τ28, w22_τ28]
              have y19_22_τ28 : τ28.2.1 19 (τ28.1 22) = (σ.2.1 19) (σ.1 22) := by rw [g19_τ28, w22_τ28]
              have y25_22_τ28 : τ28.2.1 25 (τ28.1 22) = (σ.2.1 25) (σ.1 22) := by rw [g25_τ28, w22_τ28]
              have A18 : ∀ j, 0 ≤ τ28.2.1 18 j ∧ τ28.2.1 18 j ≤ 90000 := fun j => hT.2 18 j
              have A19 : ∀ j, 0 ≤ τ28.2.1 19 j ∧ τ28.2.1 19 j ≤ 60 := fun j => hT.2 19 j
              have A25 : ∀ j, 0 ≤ τ28.2.1 25 j ∧ τ28.2.1 25 j ≤ 20000 := fun j => hT.2 25 j
              have A26 : ∀ j, 0 ≤ τ28.2.1 26 j ∧ τ28.2.1 26 j ≤ 20000 := fun j => hT.2 26 j
              have A28 : ∀ j, 0 ≤ τ28.2.1 28 j ∧ τ28.2.1 28 j ≤ 1 := fun j => hT.2 28 j
              have v3 : 0 ≤ τ28.1 3 ∧ τ28.1 3 ≤ 1000 := hT.1 3
              have v5 : 0 ≤ τ28.1 5 ∧ τ28.1 5 ≤ 1500 := hT.1 5
              have v6 : 0 ≤ τ28.1 6 ∧ τ28.1 6 ≤ 30000 := hT.1 6
              have v7 : 0 ≤ τ28.1 7 ∧ τ28.1 7 ≤ 90000 := hT.1 7
              have v8 : 0 ≤ τ28.1 8 ∧ τ28.1 8 ≤ 20000 := hT.1 8
              have v9 : 0 ≤ τ28.1 9 ∧ τ28.1 9 ≤ 20000 := hT.1 9
              have v20 : 0 ≤ τ28.1 20 ∧ τ28.1 20 ≤ 19 := hT.1 20
              have v22 : 0 ≤ τ28.1 22 ∧ τ28.1 22 ≤ 1499 := hT.1 22
              have v25 : 0 ≤ τ28.1 25 ∧ τ28.1 25 ≤ 300 := hT.1 25
              have v26 : 0 ≤ τ28.1 26 ∧ τ28.1 26 ≤ 5000010 := hT.1 26
              have v28 : 0 ≤ τ28.1 28 ∧ τ28.1 28 ≤ 1 := hT.1 28
              have v29 : 0 ≤ τ28.1 29 ∧ τ28.1 29 ≤ 300 := hT.1 29
              have a18_22 : 0 ≤ τ28.2.1 18 (τ28.1 22) ∧ τ28.2.1 18 (τ28.1 22) ≤ 90000 := hT.2 18 _
              have a19_22 : 0 ≤ τ28.2.1 19 (τ28.1 22) ∧ τ28.2.1 19 (τ28.1 22) ≤ 60 := hT.2 19 _
              have a25_22 : 0 ≤ τ28.2.1 25 (τ28.1 22) ∧ τ28.2.1 25 (τ28.1 22) ≤ 20000 := hT.2 25 _
              have a26_22 : 0 ≤ τ28.2.1 26 (τ28.1 22) ∧ τ28.2.1 26 (τ28.1 22) ≤ 20000 := hT.2 26 _
              have a28_9 : 0 ≤ τ28.2.1 28 (τ28.1 9) ∧ τ28.2.1 28 (τ28.1 9) ≤ 1 := hT.2 28 _
              have av9 : σ.1 9 ≤ τ28.1 9 := ag.1 9 (by decide)
              have hz : τ28.2.1 28 (τ28.1 9 - 1) = 0 := by rw [show τ28.1 9 - 1 = σ.1 9 from by omega]; exact q26_6
              have Z4 : τ28.2.1 25 (τ28.1 22) + τ28.2.1 26 (τ28.1 22) = τ28.1 9 := by omega
              have ce := ca_eq q26_4 (n := σ.2.1 25 (σ.1 22)) (by omega)
              have Y10 : ca (τ28.2.1 28) (τ28.1 9) ≤ ca (τ28.2.1 28) (τ28.2.1 25 (τ28.1 22)) + τ28.1 29 := by rw [y25_22_τ28, ce, q26_5]; omega
              have Y12 : ¬ τ28.1 28 = 0 → τ28.2.1 25 (τ28.1 22) < τ28.1 9 ∧ τ28.2.1 28 (τ28.1 9 - 1) = 0 := fun _ => ⟨by omega, hz⟩
              have Y13 := j_eqw q26_4 (show σ.2.1 25 (σ.1 22) ≤ σ.1 9 from by omega)
              refine ⟨fun c29 => ?_, fun c29 => ?_⟩
              ·
                refine h193 _ _ ?_
                refine ⟨(show 0 ≤ 0 ∧ 0 ≤ 1 from by (first | omega | (simp only [st_s] <;> omega) | assumption | omega)), ?_⟩
                replace ag := ag_v (i := 28) (x := 0) ag (Or.inl rfl)
                replace hT := mT_v (i := 28) hT (show (0 : Int) ≤ 0 ∧ 0 ≤ 1 from by (first | omega | (simp only [st_s] <;> omega) | assumption | omega))
                obtain ⟨τ_196, e_τ_196⟩ : ∃ z : S0, z = s_v τ28 28 0 := ⟨_, rfl⟩
                rw [← e_τ_196]
                replace hT : m_T τ_196 := by rw [e_τ_196]; exact hT
                replace ag : m_ag σ τ_196 := by rw [e_τ_196]; exact ag
                have w3_τ_196 : τ_196.1 3 = τ28.1 3 := by rw [e_τ_196]; rfl
                have w5_τ_196 : τ_196.1 5 = τ28.1 5 := by rw [e_τ_196]; rfl
                have w6_τ_196 : τ_196.1 6 = τ28.1 6 := by rw [e_τ_196]; rfl
                have w7_τ_196 : τ_196.1 7 = τ28.1 7 := by rw [e_τ_196]; rfl
                have w8_τ_196 : τ_196.1 8 = τ28.1 8 := by rw [e_τ_196]; rfl
                have w9_τ_196 : τ_196.1 9 = τ28.1 9 := by rw [e_τ_196]; rfl
                have w20_τ_196 : τ_196.1 20 = τ28.1 20 := by rw [e_τ_196]; rfl
                have w22_τ_196 : τ_196.1 22 = τ28.1 22 := by rw [e_τ_196]; rfl
                have w25_τ_196 : τ_196.1 25 = τ28.1 25 := by rw [e_τ_196]; rfl
                have w26_τ_196 : τ_196.1 26 = τ28.1 26 := by rw [e_τ_196]; rfl
                have w28_τ_196 : τ_196.1 28 = 0 := by rw [e_τ_196]; rfl
                have w29_τ_196 : τ_196.1 29 = τ28.1 29 := by rw [e_τ_196]; rfl
                have g18_τ_196 : τ_196.2.1 18 = τ28.2.1 18 := by rw [e_τ_196]; rfl
                have g19_τ_196 : τ_196.2.1 19 = τ28.2.1 19 := by rw [e_τ_196]; rfl
                have g25_τ_196 : τ_196.2.1 25 = τ28.2.1 25 := by rw [e_τ_196]; rfl
                have g26_τ_196 : τ_196.2.1 26 = τ28.2.1 26 := by rw [e_τ_196]; rfl
                have g28_τ_196 : τ_196.2.1 28 = τ28.2.1 28 := by rw [e_τ_196]; rfl
                have W3 : τ_196.1 3 = σ.1 3 := by omega
                have W5 : τ_196.1 5 = σ.1 5 := by omega
                have W6 : τ_196.1 6 = σ.1 6 := by omega
                have W7 : τ_196.1 7 = σ.1 7 := by omega
                have W8 : τ_196.1 8 = σ.1 8 := by omega
                have W22 : τ_196.1 22 = σ.1 22 := by omega
                have W25 : τ_196.1 25 = σ.1 25 := by omega
                have W29 : τ_196.1 29 = σ.1 29 := by omega
                have G18 : τ_196.2.1 18 = σ.2.1 18 := (g18_τ_196).trans G18
                have G19 : τ_196.2.1 19 = σ.2.1 19 := (g19_τ_196).trans G19
                have G25 : τ_196.2.1 25 = σ.2.1 25 := (g25_τ_196).trans G25
                have y18_22_τ_196 : τ_196.2.1 18 (τ_196.1 22) = (τ28.2.1 18) (τ28.1 22) := by rw [g18_τ_196, w22_τ_196]
                have y19_22_τ_196 : τ_196.2.1 19 (τ_196.1 22) = (τ28.2.1 19) (τ28.1 22) := by rw [g19_τ_196, w22_τ_196]
                have y25_22_τ_196 : τ_196.2.1 25 (τ_196.1 22) = (τ28.2.1 25) (τ28.1 22) := by rw [g25_τ_196, w22_τ_196]
                have y26_22_τ_196 : τ_196.2.1 26 (τ_196.1 22) = (τ28.2.1 26) (τ28.1 22) := by rw [g26_τ_196, w22_τ_196]
                have y28_9_τ_196 : τ_196.2.1 28 (τ_196.1 9) = (τ28.2.1 28) (τ28.1 9) := by rw [g28_τ_196, w9_τ_196]
                have Z4 : τ_196.2.1 25 (τ_196.1 22) + τ_196.2.1 26 (τ_196.1 22) = (τ_196.1 9) := by rw [show (τ_196.2.1 25 (τ_196.1 22) + τ_196.2.1 26 (τ_196.1 22) = (τ_196.1 9)) = (τ28.2.1 25 (τ28.1 22) + τ28.2.1 26 (τ28.1 22) = (τ28.1 9)) from by rw [w9_τ_196, w22_τ_196, g25_τ_196, g26_τ_196]]; exact Z4
                have Y10 : ca (τ_196.2.1 28) ((τ_196.1 9)) ≤ ca (τ_196.2.1 28) (τ_196.2.1 25 (τ_196.1 22)) + (τ_196.1 29) := by rw [show (ca (τ_196.2.1 28) ((τ_196.1 9)) ≤ ca (τ_196.2.1 28) (τ_196.2.1 25 (τ_196.1 22)) + (τ_196.1 29)) = (ca (τ28.2.1 28) ((τ28.1 9)) ≤ ca (τ28.2.1 28) (τ28.2.1 25 (τ28.1 22)) + (τ28.1 29)) from by rw [w9_τ_196, w22_τ_196, w29_τ_196, g25_τ_196, g28_τ_196]]; exact Y10
                have Y13 : j_eq (σ.2.1 25 (σ.1 22)) (σ.2.1 28) (τ_196.2.1 28) := by rw [show (j_eq (σ.2.1 25 (σ.1 22)) (σ.2.1 28) (τ_196.2.1 28)) = (j_eq (σ.2.1 25 (σ.1 22)) (σ.2.1 28) (τ28.2.1 28)) from by rw [g28_τ_196]]; exact Y13
                have A18 : ∀ j, 0 ≤ τ_196.2.1 18 j ∧ τ_196.2.1 18 j ≤ 90000 := fun j => hT.2 18 j
                have A19 : ∀ j, 0 ≤ τ_196.2.1 19 j ∧ τ_196.2.1 19 j ≤ 60 := fun j => hT.2 19 j
                have A25 : ∀ j, 0 ≤ τ_196.2.1 25 j ∧ τ_196.2.1 25 j ≤ 20000 := fun j => hT.2 25 j
                have A26 : ∀ j, 0 ≤ τ_196.2.1 26 j ∧ τ_196.2.1 26 j ≤ 20000 := fun j => hT.2 26 j
                have A28 : ∀ j, 0 ≤ τ_196.2.1 28 j ∧ τ_196.2.1 28 j ≤ 1 := fun j => hT.2 28 j
                have v3 : 0 ≤ τ_196.1 3 ∧ τ_196.1 3 ≤ 1000 := hT.1 3
                have v5 : 0 ≤ τ_196.1 5 ∧ τ_196.1 5 ≤ 1500 := hT.1 5
                have v6 : 0 ≤ τ_196.1 6 ∧ τ_196.1 6 ≤ 30000 := hT.1 6
                have v7 : 0 ≤ τ_196.1 7 ∧ τ_196.1 7 ≤ 90000 := hT.1 7
                have v8 : 0 ≤ τ_196.1 8 ∧ τ_196.1 8 ≤ 20000 := hT.1 8
                have v9 : 0 ≤ τ_196.1 9 ∧ τ_196.1 9 ≤ 20000 := hT.1 9
                have v20 : 0 ≤ τ_196.1 20 ∧ τ_196.1 20 ≤ 19 := hT.1 20
                have v22 : 0 ≤ τ_196.1 22 ∧ τ_196.1 22 ≤ 1499 := hT.1 22
                have v25 : 0 ≤ τ_196.1 25 ∧ τ_196.1 25 ≤ 300 := hT.1 25
                have v26 : 0 ≤ τ_196.1 26 ∧ τ_196.1 26 ≤ 5000010 := hT.1 26
                have v28 : 0 ≤ τ_196.1 28 ∧ τ_196.1 28 ≤ 1 := hT.1 28
                have v29 : 0 ≤ τ_196.1 29 ∧ τ_196.1 29 ≤ 300 := hT.1 29
                have a18_22 : 0 ≤ τ_196.2.1 18 (τ_196.1 22) ∧ τ_196.2.1 18 (τ_196.1 22) ≤ 90000 := hT.2 18 _
                have a19_22 : 0 ≤ τ_196.2.1 19 (τ_196.1 22) ∧ τ_196.2.1 19 (τ_196.1 22) ≤ 60 := hT.2 19 _
                have a25_22 : 0 ≤ τ_196.2.1 25 (τ_196.1 22) ∧ τ_196.2.1 25 (τ_196.1 22) ≤ 20000 := hT.2 25 _
                have a26_22 : 0 ≤ τ_196.2.1 26 (τ_196.1 22) ∧ τ_196.2.1 26 (τ_196.1 22) ≤ 20000 := hT.2 26 _
                have a28_9 : 0 ≤ τ_196.2.1 28 (τ_196.1 9) ∧ τ_196.2.1 28 (τ_196.1 9) ≤ 1 := hT.2 28 _
                have av9 : σ.1 9 ≤ τ_196.1 9 := ag.1 9 (by decide)
                refine h196 _ ?_
                replace ag := ag_v (i := 26) (x := 0) ag (Or.inl rfl)
                replace hT := mT_v (i := 26) hT (show (0 : Int) ≤ 0 ∧ 0 ≤ 5000010 from by (first | omega | (simp only [st_s] <;> omega) | assumption | omega))
                replace ag := ag_v (i := 27) (x := 0) ag (Or.inl rfl)
                replace hT := mT_v (i := 27) hT (show (0 : Int) ≤ 0 ∧ 0 ≤ 1 from by (first | omega | (simp only [st_s] <;> omega) | assumption | omega))
                exact ⟨hT, (show ¬ (σ.1 20) = 0 → (τ_196.1 20) = (σ.1 20) from by (first | omega | (simp only [st_s] <;> omega) | assumption | omega)), (show τ_196.2.1 25 (τ_196.1 22) + τ_196.2.1 26 (τ_196.1 22) = (τ_196.1 9) from Z4), (show ca (τ_196.2.1 28) ((τ_196.1 9)) ≤ ca (τ_196.2.1 28) (τ_196.2.1 25 (τ_196.1 22)) + (τ_196.1 29) from Y10), (show ¬ (τ_196.1 28) = 0 → τ_196.2.1 25 (τ_196.1 22) < (τ_196.1 9) ∧ τ_196.2.1 28 ((τ_196.1 9) - 1) = 0 from by (first | assumption | omega | (intro _; refine ⟨by omega, ?_⟩; first | exact hz | (rw [e_τ_196]; exact hz)))), (show j_eq (σ.2.1 25 (σ.1 22)) (σ.2.1 28) (τ_196.2.1 28) from Y13), (show ((0 : Int)) = 0 from by (first | omega | (simp only [st_s] <;> omega) | assumption | omega)), ag⟩
              ·
                refine ⟨(show 0 ≤ x17 ∧ x17 < 1501 from by (first | omega | (simp only [st_s] <;> omega) | assumption | omega)), ?_⟩
                intro x31 r_x31 e_x31
                have b_x31 : 0 ≤ x31 ∧ x31 ≤ 4 := by rw [e_x31]; exact hT.2 13 _
                refine ⟨fun c32 => ?_, fun c32 => ?_⟩
                ·
                  refine h193 _ _ ?_
                  refine ⟨(show 0 ≤ 0 ∧ 0 ≤ 1 from by (first | omega | (simp only [st_s] <;> omega) | assumption | omega)), ?_⟩
                  replace ag := ag_v (i := 28) (x := 0) ag (Or.inl rfl)
                  replace hT := mT_v (i := 28) hT (show (0 : Int) ≤ 0 ∧ 0 ≤ 1 from by (first | omega | (simp only [st_s] <;> omega) | assumption | omega))
                  obtain ⟨τ_196, e_τ_196⟩ : ∃ z : S0, z = s_v τ28 28 0 := ⟨_, rfl⟩
                  rw [← e_τ_196]
                  replace hT : m_T τ_196 := by rw [e_τ_196]; exact hT
                  replace ag : m_ag σ τ_196 := by rw [e_τ_196]; exact ag
                  have w3_τ_196 : τ_196.1 3 = τ28.1 3 := by rw [e_τ_196]; rfl
                  have w5_τ_196 : τ_196.1 5 = τ28.1 5 := by rw [e_τ_196]; rfl
                  have w6_τ_196 : τ_196.1 6 = τ28.1 6 := by rw [e_τ_196]; rfl
                  have w7_τ_196 : τ_196.1 7 = τ28.1 7 := by rw [e_τ_196]; rfl
                  have w8_τ_196 : τ_196.1 8 = τ28.1 8 := by rw [e_τ_196]; rfl
                  have w9_τ_196 : τ_196.1 9 = τ28.1 9 := by rw [e_τ_196]; rfl
                  have w20_τ_196 : τ_196.1 20 = τ28.1 20 := by rw [e_τ_196]; rfl
                  have w22_τ_196 : τ_196.1 22 = τ28.1 22 := by rw [e_τ_196]; rfl
                  have w25_τ_196 : τ_196.1 25 = τ28.1 25 := by rw [e_τ_196]; rfl
                  have w26_τ_196 : τ_196.1 26 = τ28.1 26 := by rw [e_τ_196]; rfl
                  have w28_τ_196 : τ_196.1 28 = 0 := by rw [e_τ_196]; rfl
                  have w29_τ_196 : τ_196.1 29 = τ28.1 29 := by rw [e_τ_196]; rfl
                  have g18_τ_196 : τ_196.2.1 18 = τ28.2.1 18 := by rw [e_τ_196]; rfl
                  have g19_τ_196 : τ_196.2.1 19 = τ28.2.1 19 := by rw [e_τ_196]; rfl
                  have g25_τ_196 : τ_196.2.1 25 = τ28.2.1 25 := by rw [e_τ_196]; rfl
                  have g26_τ_196 : τ_196.2.1 26 = τ28.2.1 26 := by rw [e_τ_196]; rfl
                  have g28_τ_196 : τ_196.2.1 28 = τ28.2.1 28 := by rw [e_τ_196]; rfl
                  have W3 : τ_196.1 3 = σ.1 3 := by omega
                  have W5 : τ_196.1 5 = σ.1 5 := by omega
                  have W6 : τ_196.1 6 = σ.1 6 := by omega
                  have W7 : τ_196.1 7 = σ.1 7 := by omega
                  have W8 : τ_196.1 8 = σ.1 8 := by omega
                  have W22 : τ_196.1 22 = σ.1 22 := by omega
                  have W25 : τ_196.1 25 = σ.1 25 := by omega
                  have W29 : τ_196.1 29 = σ.1 29 := by omega
                  have G18 : τ_196.2.1 18 = σ.2.1 18 := (g18_τ_196).trans G18
                  have G19 : τ_196.2.1 19 = σ.2.1 19 := (g19_τ_196).trans G19
                  have G25 : τ_196.2.1 25 = σ.2.1 25 := (g25_τ_196).trans G25
                  have y18_22_τ_196 : τ_196.2.1 18 (τ_196.1 22) = (τ28.2.1 18) (τ28.1 22) := by rw [g18_τ_196, w22_τ_196]
                  have y19_22_τ_196 : τ_196.2.1 19 (τ_196.1 22) = (τ28.2.1 19) (τ28.1 22) := by rw [g19_τ_196, w22_τ_196]
                  have y25_22_τ_196 : τ_196.2.1 25 (τ_196.1 22) = (τ28.2.1 25) (τ28.1 22) := by rw [g25_τ_196, w22_τ_196]
                  have y26_22_τ_196 : τ_196.2.1 26 (τ_196.1 22) = (τ28.2.1 26) (τ28.1 22) := by rw [g26_τ_196, w22_τ_196]
                  have y28_9_τ_196 : τ_196.2.1 28 (τ_196.1 9) = (τ28.2.1 28) (τ28.1 9) := by rw [g28_τ_196, w9_τ_196]
                  have Z4 : τ_196.2.1 25 (τ_196.1 22) + τ_196.2.1 26 (τ_196.1 22) = (τ_196.1 9) := by rw [show (τ_196.2.1 25 (τ_196.1 22) + τ_196.2.1 26 (τ_196.1 22) = (τ_196.1 9)) = (τ28.2.1 25 (τ28.1 22) + τ28.2.1 26 (τ28.1 22) = (τ28.1 9)) from by rw [w9_τ_196, w22_τ_196, g25_τ_196, g26_τ_196]]; exact Z4
                  have Y10 : ca (τ_196.2.1 28) ((τ_196.1 9)) ≤ ca (τ_196.2.1 28) (τ_196.2.1 25 (τ_196.1 22)) + (τ_196.1 29) := by rw [show (ca (τ_196.2.1 28) ((τ_196.1 9)) ≤ ca (τ_196.2.1 28) (τ_196.2.1 25 (τ_196.1 22)) + (τ_196.1 29)) = (ca (τ28.2.1 28) ((τ28.1 9)) ≤ ca (τ28.2.1 28) (τ28.2.1 25 (τ28.1 22)) + (τ28.1 29)) from by rw [w9_τ_196, w22_τ_196, w29_τ_196, g25_τ_196, g28_τ_196]]; exact Y10
                  have Y13 : j_eq (σ.2.1 25 (σ.1 22)) (σ.2.1 28) (τ_196.2.1 28) := by rw [show (j_eq (σ.2.1 25 (σ.1 22)) (σ.2.1 28) (τ_196.2.1 28)) = (j_eq (σ.2.1 25 (σ.1 22)) (σ.2.1 28) (τ28.2.1 28)) from by rw [g28_τ_196]]; exact Y13
                  have A18 : ∀ j, 0 ≤ τ_196.2.1 18 j ∧ τ_196.2.1 18 j ≤ 90000 := fun j => hT.2 18 j
                  have A19 : ∀ j, 0 ≤ τ_196.2.1 19 j ∧ τ_196.2.1 19 j ≤ 60 := fun j => hT.2 19 j
                  have A25 : ∀ j, 0 ≤ τ_196.2.1 25 j ∧ τ_196.2.1 25 j ≤ 20000 := fun j => hT.2 25 j
                  have A26 : ∀ j, 0 ≤ τ_196.2.1 26 j ∧ τ_196.2.1 26 j ≤ 20000 := fun j => hT.2 26 j
                  have A28 : ∀ j, 0 ≤ τ_196.2.1 28 j ∧ τ_196.2.1 28 j ≤ 1 := fun j => hT.2 28 j
                  have v3 : 0 ≤ τ_196.1 3 ∧ τ_196.1 3 ≤ 1000 := hT.1 3
                  have v5 : 0 ≤ τ_196.1 5 ∧ τ_196.1 5 ≤ 1500 := hT.1 5
                  have v6 : 0 ≤ τ_196.1 6 ∧ τ_196.1 6 ≤ 30000 := hT.1 6
                  have v7 : 0 ≤ τ_196.1 7 ∧ τ_196.1 7 ≤ 90000 := hT.1 7
                  have v8 : 0 ≤ τ_196.1 8 ∧ τ_196.1 8 ≤ 20000 := hT.1 8
                  have v9 : 0 ≤ τ_196.1 9 ∧ τ_196.1 9 ≤ 20000 := hT.1 9
                  have v20 : 0 ≤ τ_196.1 20 ∧ τ_196.1 20 ≤ 19 := hT.1 20
                  have v22 : 0 ≤ τ_196.1 22 ∧ τ_196.1 22 ≤ 1499 := hT.1 22
                  have v25 : 0 ≤ τ_196.1 25 ∧ τ_196.1 25 ≤ 300 := hT.1 25
                  have v26 : 0 ≤ τ_196.1 26 ∧ τ_196.1 26 ≤ 5000010 := hT.1 26
                  have v28 : 0 ≤ τ_196.1 28 ∧ τ_196.1 28 ≤ 1 := hT.1 28
                  have v29 : 0 ≤ τ_196.1 29 ∧ τ_196.1 29 ≤ 300 := hT.1 29
                  have a18_22 : 0 ≤ τ_196.2.1 18 (τ_196.1 22) ∧ τ_196.2.1 18 (τ_196.1 22) ≤ 90000 := hT.2 18 _
                  have a19_22 : 0 ≤ τ_196.2.1 19 (τ_196.1 22) ∧ τ_196.2.1 19 (τ_196.1 22) ≤ 60 := hT.2 19 _
                  have a25_22 : 0 ≤ τ_196.2.1 25 (τ_196.1 22) ∧ τ_196.2.1 25 (τ_196.1 22) ≤ 20000 := hT.2 25 _
                  have a26_22 : 0 ≤ τ_196.2.1 26 (τ_196.1 22) ∧ τ_196.2.1 26 (τ_196.1 22) ≤ 20000 := hT.2 26 _
                  have a28_9 : 0 ≤ τ_196.2.1 28 (τ_196.1 9) ∧ τ_196.2.1 28 (τ_196.1 9) ≤ 1 := hT.2 28 _
                  have av9 : σ.1 9 ≤ τ_196.1 9 := ag.1 9 (by decide)
                  refine h196 _ ?_
                  replace ag := ag_v (i := 26) (x := 0) ag (Or.inl rfl)
                  replace hT := mT_v (i := 26) hT (show (0 : Int) ≤ 0 ∧ 0 ≤ 5000010 from by (first | omega | (simp only [st_s] <;> omega) | assumption | omega))
                  replace ag := ag_v (i := 27) (x := 0) ag (Or.inl rfl)
                  replace hT := mT_v (i := 27) hT (show (0 : Int) ≤ 0 ∧ 0 ≤ 1 from by (first | omega | (simp only [st_s] <;> omega) | assumption | omega))
                  exact ⟨hT, (show ¬ (σ.1 20) = 0 → (τ_196.1 20) = (σ.1 20) from by (first | omega | (simp only [st_s] <;> omega) | assumption | omega)), (show τ_196.2.1 25 (τ_196.1 22) + τ_196.2.1 26 (τ_196.1 22) = (τ_196.1 9) from Z4), (show ca (τ_196.2.1 28) ((τ_196.1 9)) ≤ ca (τ_196.2.1 28) (τ_196.2.1 25 (τ_196.1 22)) + (τ_196.1 29) from Y10), (show ¬ (τ_196.1 28) = 0 → τ_196.2.1 25 (τ_196.1 22) < (τ_196.1 9) ∧ τ_196.2.1 28 ((τ_196.1 9) - 1) = 0 from by (first | assumption | omega | (intro _; refine ⟨by omega, ?_⟩; first | exact hz | (rw [e_τ_196]; exact hz)))), (show j_eq (σ.2.1 25 (σ.1 22)) (σ.2.1 28) (τ_196.2.1 28) from Y13), (show ((0 : Int)) = 0 from by (first | omega | (simp only [st_s] <;> omega) | assumption | omega)), ag⟩
                ·
                  refine h193 _ _ ?_
                  refine ⟨(show 0 ≤ 1 ∧ 1 ≤ 1 from by (first | omega | (simp only [st_s] <;> omega) | assumption | omega)), ?_⟩
                  replace ag := ag_v (i := 28) (x := 1) ag (Or.inl rfl)
                  replace hT := mT_v (i := 28) hT (show (0 : Int) ≤ 1 ∧ 1 ≤ 1 from by (first | omega | (simp only [st_s] <;> omega) | assumption | omega))
                  obtain ⟨τ_196, e_τ_196⟩ : ∃ z : S0, z = s_v τ28 28 1 := ⟨_, rfl⟩
                  rw [← e_τ_196]
                  replace hT : m_T τ_196 := by rw [e_τ_196]; exact hT
                  replace ag : m_ag σ τ_196 := by rw [e_τ_196]; exact ag
                  have w3_τ_196 : τ_196.1 3 = τ28.1 3 := by rw [e_τ_196]; rfl
                  have w5_τ_196 : τ_196.1 5 = τ28.1 5 := by rw [e_τ_196]; rfl
                  have w6_τ_196 : τ_196.1 6 = τ28.1 6 := by rw [e_τ_196]; rfl
                  have w7_τ_196 : τ_196.1 7 = τ28.1 7 := by rw [e_τ_196]; rfl
                  have w8_τ_196 : τ_196.1 8 = τ28.1 8 := by rw [e_τ_196]; rfl
                  have w9_τ_196 : τ_196.1 9 = τ28.1 9 := by rw [e_τ_196]; rfl
                  have w20_τ_196 : τ_196.1 20 = τ28.1 20 := by rw [e_τ_196]; rfl
                  have w22_τ_196 : τ_196.1 22 = τ28.1 22 := by rw [e_τ_196]; rfl
                  have w25_τ_196 : τ_196.1 25 = τ28.1 25 := by rw [e_τ_196]; rfl
                  have w26_τ_196 : τ_196.1 26 = τ28.1 26 := by rw [e_τ_196]; rfl
                  have w28_τ_196 : τ_196.1 28 = 1 := by rw [e_τ_196]; rfl
                  have w29_τ_196 : τ_196.1 29 = τ28.1 29 := by rw [e_τ_196]; rfl
                  have g18_τ_196 : τ_196.2.1 18 = τ28.2.1 18 := by rw [e_τ_196]; rfl
                  have g19_τ_196 : τ_196.2.1 19 = τ28.2.1 19 := by rw [e_τ_196]; rfl
                  have g25_τ_196 : τ_196.2.1 25 = τ28.2.1 25 := by rw [e_τ_196]; rfl
                  have g26_τ_196 : τ_196.2.1 26 = τ28.2.1 26 := by rw [e_τ_196]; rfl
                  have g28_τ_196 : τ_196.2.1 28 = τ28.2.1 28 := by rw [e_τ_196]; rfl
                  have W3 : τ_196.1 3 = σ.1 3 := by omega
                  have W5 : τ_196.1 5 = σ.1 5 := by omega
                  have W6 : τ_196.1 6 = σ.1 6 := by omega
                  have W7 : τ_196.1 7 = σ.1 7 := by omega
                  have W8 : τ_196.1 8 = σ.1 8 := by omega
                  have W22 : τ_196.1 22 = σ.1 22 := by omega
                  have W25 : τ_196.1 25 = σ.1 25 := by omega
                  have W29 : τ_196.1 29 = σ.1 29 := by omega
                  have G18 : τ_196.2.1 18 = σ.2.1 18 := (g18_τ_196).trans G18
                  have G19 : τ_196.2.1 19 = σ.2.1 19 := (g19_τ_196).trans G19
                  have G25 : τ_196.2.1 25 = σ.2.1 25 := (g25_τ_196).trans G25
                  have y18_22_τ_196 : τ_196.2.1 18 (τ_196.1 22) = (τ28.2.1 18) (τ28.1 22) := by rw [g18_τ_196, w22_τ_196]
                  have y19_22_τ_196 : τ_196.2.1 19 (τ_196.1 22) = (τ28.2.1 19) (τ28.1 22) := by rw [g19_τ_196, w22_τ_196]
                  have y25_22_τ_196 : τ_196.2.1 25 (τ_196.1 22) = (τ28.2.1 25) (τ28.1 22) := by rw [g25_τ_196, w22_τ_196]
                  have y26_22_τ_196 : τ_196.2.1 26 (τ_196.1 22) = (τ28.2.1 26) (τ28.1 22) := by rw [g26_τ_196, w22_τ_196]
                  have y28_9_τ_196 : τ_196.2.1 28 (τ_196.1 9) = (τ28.2.1 28) (τ28.1 9) := by rw [g28_τ_196, w9_τ_196]
                  have Z4 : τ_196.2.1 25 (τ_196.1 22) + τ_196.2.1 26 (τ_196.1 22) = (τ_196.1 9) := by rw [show (τ_196.2.1 25 (τ_196.1 22) + τ_196.2.1 26 (τ_196.1 22) = (τ_196.1 9)) = (τ28.2.1 25 (τ28.1 22) + τ28.2.1 26 (τ28.1 22) = (τ28.1 9)) from by rw [w9_τ_196, w22_τ_196, g25_τ_196, g26_τ_196]]; exact Z4
                  have Y10 : ca (τ_196.2.1 28) ((τ_196.1 9)) ≤ ca (τ_196.2.1 28) (τ_196.2.1 25 (τ_196.1 22)) + (τ_196.1 29) := by rw [show (ca (τ_196.2.1 28) ((τ_196.1 9)) ≤ ca (τ_196.2.1 28) (τ_196.2.1 25 (τ_196.1 22)) + (τ_196.1 29)) = (ca (τ28.2.1 28) ((τ28.1 9)) ≤ ca (τ28.2.1 28) (τ28.2.1 25 (τ28.1 22)) + (τ28.1 29)) from by rw [w9_τ_196, w22_τ_196, w29_τ_196, g25_τ_196, g28_τ_196]]; exact Y10
                  have Y13 : j_eq (σ.2.1 25 (σ.1 22)) (σ.2.1 28) (τ_196.2.1 28) := by rw [show (j_eq (σ.2.1 25 (σ.1 22)) (σ.2.1 28) (τ_196.2.1 28)) = (j_eq (σ.2.1 25 (σ.1 22)) (σ.2.1 28) (τ28.2.1 28)) from by rw [g28_τ_196]]; exact Y13
                  have A18 : ∀ j, 0 ≤ τ_196.2.1 18 j ∧ τ_196.2.1 18 j ≤ 90000 := fun j => hT.2 18 j
                  have A19 : ∀ j, 0 ≤ τ_196.2.1 19 j ∧ τ_196.2.1 19 j ≤ 60 := fun j => hT.2 19 j
                  have A25 : ∀ j, 0 ≤ τ_196.2.1 25 j ∧ τ_196.2.1 25 j ≤ 20000 := fun j => hT.2 25 j
                  have A26 : ∀ j, 0 ≤ τ_196.2.1 26 j ∧ τ_196.2.1 26 j ≤ 20000 := fun j => hT.2 26 j
                  have A28 : ∀ j, 0 ≤ τ_196.2.1 28 j ∧ τ_196.2.1 28 j ≤ 1 := fun j => hT.2 28 j
                  have v3 : 0 ≤ τ_196.1 3 ∧ τ_196.1 3 ≤ 1000 := hT.1 3
                  have v5 : 0 ≤ τ_196.1 5 ∧ τ_196.1 5 ≤ 1500 := hT.1 5
                  have v6 : 0 ≤ τ_196.1 6 ∧ τ_196.1 6 ≤ 30000 := hT.1 6
                  have v7 : 0 ≤ τ_196.1 7 ∧ τ_196.1 7 ≤ 90000 := hT.1 7
                  have v8 : 0 ≤ τ_196.1 8 ∧ τ_196.1 8 ≤ 20000 := hT.1 8
                  have v9 : 0 ≤ τ_196.1 9 ∧ τ_196.1 9 ≤ 20000 := hT.1 9
                  have v20 : 0 ≤ τ_196.1 20 ∧ τ_196.1 20 ≤ 19 := hT.1 20
                  have v22 : 0 ≤ τ_196.1 22 ∧ τ_196.1 22 ≤ 1499 := hT.1 22
                  have v25 : 0 ≤ τ_196.1 25 ∧ τ_196.1 25 ≤ 300 := hT.1 25
                  have v26 : 0 ≤ τ_196.1 26 ∧ τ_196.1 26 ≤ 5000010 := hT.1 26
                  have v28 : 0 ≤ τ_196.1 28 ∧ τ_196.1 28 ≤ 1 := hT.1 28
                  have v29 : 0 ≤ τ_196.1 29 ∧ τ_196.1 29 ≤ 300 := hT.1 29
                  have a18_22 : 0 ≤ τ_196.2.1 18 (τ_196.1 22) ∧ τ_196.2.1 18 (τ_196.1 22) ≤ 90000 := hT.2 18 _
                  have a19_22 : 0 ≤ τ_196.2.1 19 (τ_196.1 22) ∧ τ_196.2.1 19 (τ_196.1 22) ≤ 60 := hT.2 19 _
                  have a25_22 : 0 ≤ τ_196.2.1 25 (τ_196.1 22) ∧ τ_196.2.1 25 (τ_196.1 22) ≤ 20000 := hT.2 25 _
                  have a26_22 : 0 ≤ τ_196.2.1 26 (τ_196.1 22) ∧ τ_196.2.1 26 (τ_196.1 22) ≤ 20000 := hT.2 26 _
                  have a28_9 : 0 ≤ τ_196.2.1 28 (τ_196.1 9) ∧ τ_196.2.1 28 (τ_196.1 9) ≤ 1 := hT.2 28 _
                  have av9 : σ.1 9 ≤ τ_196.1 9 := ag.1 9 (by decide)
                  refine h196 _ ?_
                  replace ag := ag_v (i := 26) (x := 0) ag (Or.inl rfl)
                  replace hT := mT_v (i := 26) hT (show (0 : Int) ≤ 0 ∧ 0 ≤ 5000010 from by (first | omega | (simp only [st_s] <;> omega) | assumption | omega))
                  replace ag := ag_v (i := 27) (x := 0) ag (Or.inl rfl)
                  replace hT := mT_v (i := 27) hT (show (0 : Int) ≤ 0 ∧ 0 ≤ 1 from by (first | omega | (simp only [st_s] <;> omega) | assumption | omega))
                  exact ⟨hT, (show ¬ (σ.1 20) = 0 → (τ_196.1 20) = (σ.1 20) from by (first | omega | (simp only [st_s] <;> omega) | assumption | omega)), (show τ_196.2.1 25 (τ_196.1 22) + τ_196.2.1 26 (τ_196.1 22) = (τ_196.1 9) from Z4), (show ca (τ_196.2.1 28) ((τ_196.1 9)) ≤ ca (τ_196.2.1 28) (τ_196.2.1 25 (τ_196.1 22)) + (τ_196.1 29) from Y10), (show ¬ (τ_196.1 28) = 0 → τ_196.2.1 25 (τ_196.1 22) < (τ_196.1 9) ∧ τ_196.2.1 28 ((τ_196.1 9) - 1) = 0 from by (first | assumption | omega | (intro _; refine ⟨by omega, ?_⟩; first | exact hz | (rw [e_τ_196]; exact hz)))), (show j_eq (σ.2.1 25 (σ.1 22)) (σ.2.1 28) (τ_196.2.1 28) from Y13), (show ((0 : Int)) = 0 from by (first | omega | (simp only [st_s] <;> omega) | assumption | omega)), ag⟩
          ·
            refine ⟨(⟨by (first | omega | (simp only [st_s] <;> omega) | assumption | omega), by (first | omega | (simp only [st_s] <;> omega) | assumption | omega)⟩ : rg ((-1) - (((n1 - 1) - x2) - σ.1 25))), ?_⟩
            refine h162 _ _ _ _ ?_
            refine ⟨_, K_X13_addStep hT (show -300 ≤ ((-1) - (((n1 - 1) - x2) - σ.1 25)) from by (first | omega | (simp only [st_s] <;> omega) | assumption | omega)) (show ((-1) - (((n1 - 1) - x2) - σ.1 25)) ≤ 1499 from by (first | omega | (simp only [st_s] <;> omega) | assumption | omega)) (show 0 ≤ n2 from by (first | omega | (simp only [st_s] <;> omega) | assumption | omega)) (show n2 ≤ 60000 from by (first | omega | (simp only [st_s] <;> omega) | assumption | omega)) (show (σ.1 9) < 20000 from by (first | omega | (simp only [st_s] <;> omega) | assumption | omega)) (show σ.2.1 26 (σ.1 22) < 20000 from by (first | omega | (simp only [st_s] <;> omega) | assumption | omega)) (show (σ.1 22) = (σ.1 5) from by (first | omega | (simp only [st_s] <;> omega) | assumption | omega)), ?_⟩
            intro τ28 hn_τ28 hf_τ28 hq
            obtain ⟨hT, q26_1, q26_2, q26_3, q26_4, q26_5, q26_6, q26_7⟩ := hq
            replace q26_1 : (τ28.1 9) = (σ.1 9) + 1 := q26_1
            replace q26_2 : τ28.2.1 26 (τ28.1 22) = σ.2.1 26 (σ.1 22) + 1 := q26_2
            replace q26_3 : τ28.2.1 27 = st (σ.2.1 27) (σ.1 9) ((-1) - (((n1 - 1) - x2) - σ.1 25)) := q26_3
            replace q26_4 : j_eq ((σ.1 9)) (σ.2.1 28) (τ28.2.1 28) := q26_4
            replace q26_5 : ca (τ28.2.1 28) ((τ28.1 9)) = ca (σ.2.1 28) ((σ.1 9)) := q26_5
            replace q26_6 : τ28.2.1 28 (σ.1 9) = 0 := q26_6
            replace q26_7 : m_ag σ τ28 := q26_7
            replace ag : m_ag σ τ28 := ag_t ag q26_7 rfl
            have w3_τ28 : τ28.1 3 = σ.1 3 := hf_τ28.1 3 (by decide)
            have w5_τ28 : τ28.1 5 = σ.1 5 := hf_τ28.1 5 (by decide)
            have w6_τ28 : τ28.1 6 = σ.1 6 := hf_τ28.1 6 (by decide)
            have w7_τ28 : τ28.1 7 = σ.1 7 := hf_τ28.1 7 (by decide)
            have w8_τ28 : τ28.1 8 = σ.1 8 := hf_τ28.1 8 (by decide)
            have w20_τ28 : τ28.1 20 = σ.1 20 := hf_τ28.1 20 (by decide)
            have w22_τ28 : τ28.1 22 = σ.1 22 := hf_τ28.1 22 (by decide)
            have w25_τ28 : τ28.1 25 = σ.1 25 := hf_τ28.1 25 (by decide)
            have w26_τ28 : τ28.1 26 = σ.1 26 := hf_τ28.1 26 (by decide)
            have w28_τ28 : τ28.1 28 = σ.1 28 := hf_τ28.1 28 (by decide)
            have w29_τ28 : τ28.1 29 = σ.1 29 := hf_τ28.1 29 (by decide)
            have g18_τ28 : τ28.2.1 18 = σ.2.1 18 := hf_τ28.2.1 18 (by decide)
            have g19_τ28 : τ28.2.1 19 = σ.2.1 19 := hf_τ28.2.1 19 (by decide)
            have g25_τ28 : τ28.2.1 25 = σ.2.1 25 := hf_τ28.2.1 25 (by decide)
            have W3 : τ28.1 3 = σ.1 3 := by omega
            have W5 : τ28.1 5 = σ.1 5 := by omega
            have W6 : τ28.1 6 = σ.1 6 := by omega
            have W7 : τ28.1 7 = σ.1 7 := by omega
            have W8 : τ28.1 8 = σ.1 8 := by omega
            have W22 : τ28.1 22 = σ.1 22 := by omega
            have W25 : τ28.1 25 = σ.1 25 := by omega
            have W29 : τ28.1 29 = σ.1 29 := by omega
            have G18 : τ28.2.1 18 = σ.2.1 18 := (g18_τ28).trans G18
            have G19 : τ28.2.1 19 = σ.2.1 19 := (g19_τ28).trans G19
            have G25 : τ28.2.1 25 = σ.2.1 25 := (g25_τ28).trans G25
            have y18_22_τ28 : τ28.2.1 18 (τ28.1 22) = (σ.2.1 18) (σ.1 22) := by rw [g18_τ28, w22_τ28]
            have y19_22_τ28 : τ28.2.1 19 (τ28.1 22) = (σ.2.1 19) (σ.1 22) := by rw [g19_τ28, w22_τ28]
            have y25_22_τ28 : τ28.2.1 25 (τ28.1 22) = (σ.2.1 25) (σ.1 22) := by rw [g25_τ28, w22_τ28]
            have A18 : ∀ j, 0 ≤ τ28.2.1 18 j ∧ τ28.2.1 18 j ≤ 90000 := fun j => hT.2 18 j
            have A19 : ∀ j, 0 ≤ τ28.2.1 19 j ∧ τ28.2.1 19 j ≤ 60 := fun j => hT.2 19 j
            have A25 : ∀ j, 0 ≤ τ28.2.1 25 j ∧ τ28.2.1 25 j ≤ 20000 := fun j => hT.2 25 j
            have A26 : ∀ j, 0 ≤ τ28.2.1 26 j ∧ τ28.2.1 26 j ≤ 20000 := fun j => hT.2 26 j
            have A28 : ∀ j, 0 ≤ τ28.2.1 28 j ∧ τ28.2.1 28 j ≤ 1 := fun j => hT.2 28 j
            have v3 : 0 ≤ τ28.1 3 ∧ τ28.1 3 ≤ 1000 := hT.1 3
            have v5 : 0 ≤ τ28.1 5 ∧ τ28.1 5 ≤ 1500 := hT.1 5
            have v6 : 0 ≤ τ28.1 6 ∧ τ28.1 6 ≤ 30000 := hT.1 6
            have v7 : 0 ≤ τ28.1 7 ∧ τ28.1 7 ≤ 90000 := hT.1 7
            have v8 : 0 ≤ τ28.1 8 ∧ τ28.1 8 ≤ 20000 := hT.1 8
            have v9 : 0 ≤ τ28.1 9 ∧ τ28.1 9 ≤ 20000 := hT.1 9
            have v20 : 0 ≤ τ28.1 20 ∧ τ28.1 20 ≤ 19 := hT.1 20
            have v22 : 0 ≤ τ28.1 22 ∧ τ28.1 22 ≤ 1499 := hT.1 22
            have v25 : 0 ≤ τ28.1 25 ∧ τ28.1 25 ≤ 300 := hT.1 25
            have v26 : 0 ≤ τ28.1 26 ∧ τ28.1 26 ≤ 5000010 := hT.1 26
            have v28 : 0 ≤ τ28.1 28 ∧ τ28.1 28 ≤ 1 := hT.1 28
            have v29 : 0 ≤ τ28.1 29 ∧ τ28.1 29 ≤ 300 := hT.1 29
            have a18_22 : 0 ≤ τ28.2.1 18 (τ28.1 22) ∧ τ28.2.1 18 (τ28.1 22) ≤ 90000 := hT.2 18 _
            have a19_22 : 0 ≤ τ28.2.1 19 (τ28.1 22) ∧ τ28.2.1 19 (τ28.1 22) ≤ 60 := hT.2 19 _
            have a25_22 : 0 ≤ τ28.2.1 25 (τ28.1 22) ∧ τ28.2.1 25 (τ28.1 22) ≤ 20000 := hT.2 25 _
            have a26_22 : 0 ≤ τ28.2.1 26 (τ28.1 22) ∧ τ28.2.1 26 (τ28.1 22) ≤ 20000 := hT.2 26 _
            have a28_9 : 0 ≤ τ28.2.1 28 (τ28.1 9) ∧ τ28.2.1 28 (τ28.1 9) ≤ 1 := hT.2 28 _
            have av9 : σ.1 9 ≤ τ28.1 9 := ag.1 9 (by decide)
            have hz : τ28.2.1 28 (τ28.1 9 - 1) = 0 := by rw [show τ28.1 9 - 1 = σ.1 9 from by omega]; exact q26_6
            have Z4 : τ28.2.1 25 (τ28.1 22) + τ28.2.1 26 (τ28.1 22) = τ28.1 9 := by omega
            have ce := ca_eq q26_4 (n := σ.2.1 25 (σ.1 22)) (by omega)
            have Y10 : ca (τ28.2.1 28) (τ28.1 9) ≤ ca (τ28.2.1 28) (τ28.2.1 25 (τ28.1 22)) + τ28.1 29 := by rw [y25_22_τ28, ce, q26_5]; omega
            have Y12 : ¬ τ28.1 28 = 0 → τ28.2.1 25 (τ28.1 22) < τ28.1 9 ∧ τ28.2.1 28 (τ28.1 9 - 1) = 0 := fun _ => ⟨by omega, hz⟩
            have Y13 := j_eqw q26_4 (show σ.2.1 25 (σ.1 22) ≤ σ.1 9 from by omega)
            refine ⟨fun c29 => ?_, fun c29 => ?_⟩
            ·
              refine h193 _ _ ?_
              refine ⟨(show 0 ≤ 0 ∧ 0 ≤ 1 from by (first | omega | (simp only [st_s] <;> omega) | assumption | omega)), ?_⟩
              replace ag := ag_v (i := 28) (x := 0) ag (Or.inl rfl)
              replace hT := mT_v (i := 28) hT (show (0 : Int) ≤ 0 ∧ 0 ≤ 1 from by (first | omega | (simp only [st_s] <;> omega) | assumption | omega))
              obtain ⟨τ_196, e_τ_196⟩ : ∃ z : S0, z = s_v τ28 28 0 := ⟨_, rfl⟩
              rw [← e_τ_196]
              replace hT : m_T τ_196 := by rw [e_τ_196]; exact hT
              replace ag : m_ag σ τ_196 := by rw [e_τ_196]; exact ag
              have w3_τ_196 : τ_196.1 3 = τ28.1 3 := by rw [e_τ_196]; rfl
              have w5_τ_196 : τ_196.1 5 = τ28.1 5 := by rw [e_τ_196]; rfl
              have w6_τ_196 : τ_196.1 6 = τ28.1 6 := by rw [e_τ_196]; rfl
              have w7_τ_196 : τ_196.1 7 = τ28.1 7 := by rw [e_τ_196]; rfl
              have w8_τ_196 : τ_196.1 8 = τ28.1 8 := by rw [e_τ_196]; rfl
              have w9_τ_196 : τ_196.1 9 = τ28.1 9 := by rw [e_τ_196]; rfl
              have w20_τ_196 : τ_196.1 20 = τ28.1 20 := by rw [e_τ_196]; rfl
              have w22_τ_196 : τ_196.1 22 = τ28.1 22 := by rw [e_τ_196]; rfl
              have w25_τ_196 : τ_196.1 25 = τ28.1 25 := by rw [e_τ_196]; rfl
              have w26_τ_196 : τ_196.1 26 = τ28.1 26 := by rw [e_τ_196]; rfl
              have w28_τ_196 : τ_196.1 28 = 0 := by rw [e_τ_196]; rfl
              have w29_τ_196 : τ_196.1 29 = τ28.1 29 := by rw [e_τ_196]; rfl
              have g18_τ_196 : τ_196.2.1 18 = τ28.2.1 18 := by rw [e_τ_196]; rfl
              have g19_τ_196 : τ_196.2.1 19 = τ28.2.1 19 := by rw [e_τ_196]; rfl
              have g25_τ_196 : τ_196.2.1 25 = τ28.2.1 25 := by rw [e_τ_196]; rfl
              have g26_τ_196 : τ_196.2.1 26 = τ28.2.1 26 := by rw [e_τ_196]; rfl
              have g28_τ_196 : τ_196.2.1 28 = τ28.2.1 28 := by rw [e_τ_196]; rfl
              have W3 : τ_196.1 3 = σ.1 3 := by omega
              have W5 : τ_196.1 5 = σ.1 5 := by omega
              have W6 : τ_196.1 6 = σ.1 6 := by omega
              have W7 : τ_196.1 7 = σ.1 7 := by omega
              have W8 : τ_196.1 8 = σ.1 8 := by omega
              have W22 : τ_196.1 22 = σ.1 22 := by omega
              have W25 : τ_196.1 25 = σ.1 25 := by omega
              have W29 : τ_196.1 29 = σ.1 29 := by omega
              have G18 : τ_196.2.1 18 = σ.2.1 18 := (g18_τ_196).trans G18
              have G19 : τ_196.2.1 19 = σ.2.1 19 := (g19_τ_196).trans G19
              have G25 : τ_196.2.1 25 = σ.2.1 25 := (g25_τ_196).trans G25
              have y18_22_τ_196 : τ_196.2.1 18 (τ_196.1 22) = (τ28.2.1 18) (τ28.1 22) := by rw [g18_τ_196, w22_τ_196]
              have y19_22_τ_196 : τ_196.2.1 19 (τ_196.1 22) = (τ28.2.1 19) (τ28.1 22) := by rw [g19_τ_196, w22_τ_196]
              have y25_22_τ_196 : τ_196.2.1 25 (τ_196.1 22) = (τ28.2.1 25) (τ28.1 22) := by rw [g25_τ_196, w22_τ_196]
              have y26_22_τ_196 : τ_196.2.1 26 (τ_196.1 22) = (τ28.2.1 26) (τ28.1 22) := by rw [g26_τ_196, w22_τ_196]
              have y28_9_τ_196 : τ_196.2.1 28 (τ_196.1 9) = (τ28.2.1 28) (τ28.1 9) := by rw [g28_τ_196, w9_τ_196]
              have Z4 : τ_196.2.1 25 (τ_196.1 22) + τ_196.2.1 26 (τ_196.1 22) = (τ_196.1 9) := by rw [show (τ_196.2.1 25 (τ_196.1 22) + τ_196.2.1 26 (τ_196.1 22) = (τ_196.1 9)) = (τ28.2.1 25 (τ28.1 22) + τ28.2.1 26 (τ28.1 22) = (τ28.1 9)) from by rw [w9_τ_196, w22_τ_196, g25_τ_196, g26_τ_196]]; exact Z4
              have Y10 : ca (τ_196.2.1 28) ((τ_196.1 9)) ≤ ca (τ_196.2.1 28) (τ_196.2.1 25 (τ_196.1 22)) + (τ_196.1 29) := by rw [show (ca (τ_196.2.1 28) ((τ_196.1 9)) ≤ ca (τ_196.2.1 28) (τ_196.2.1 25 (τ_196.1 22)) + (τ_196.1 29)) = (ca (τ28.2.1 28) ((τ28.1 9)) ≤ ca (τ28.2.1 28) (τ28.2.1 25 (τ28.1 22)) + (τ28.1 29)) from by rw [w9_τ_196, w22_τ_196, w29_τ_196, g25_τ_196, g28_τ_196]]; exact Y10
              have Y13 : j_eq (σ.2.1 25 (σ.1 22)) (σ.2.1 28) (τ_196.2.1 28) := by rw [show (j_eq (σ.2.1 25 (σ.1 22)) (σ.2.1 28) (τ_196.2.1 28)) = (j_eq (σ.2.1 25 (σ.1 22)) (σ.2.1 28) (τ28.2.1 28)) from by rw [g28_τ_196]]; exact Y13
              have A18 : ∀ j, 0 ≤ τ_196.2.1 18 j ∧ τ_196.2.1 18 j ≤ 90000 := fun j => hT.2 18 j
              have A19 : ∀ j, 0 ≤ τ_196.2.1 19 j ∧ τ_196.2.1 19 j ≤ 60 := fun j => hT.2 19 j
              have A25 : ∀ j, 0 ≤ τ_196.2.1 25 j ∧ τ_196.2.1 25 j ≤ 20000 := fun j => hT.2 25 j
              have A26 : ∀ j, 0 ≤ τ_196.2.1 26 j ∧ τ_196.2.1 26 j ≤ 20000 := fun j => hT.2 26 j
              have A28 : ∀ j, 0 ≤ τ_196.2.1 28 j ∧ τ_196.2.1 28 j ≤ 1 := fun j => hT.2 28 j
              have v3 : 0 ≤ τ_196.1 3 ∧ τ_196.1 3 ≤ 1000 := hT.1 3
              have v5 : 0 ≤ τ_196.1 5 ∧ τ_196.1 5 ≤ 1500 := hT.1 5
              have v6 : 0 ≤ τ_196.1 6 ∧ τ_196.1 6 ≤ 30000 := hT.1 6
              have v7 : 0 ≤ τ_196.1 7 ∧ τ_196.1 7 ≤ 90000 := hT.1 7
              have v8 : 0 ≤ τ_196.1 8 ∧ τ_196.1 8 ≤ 20000 := hT.1 8
              have v9 : 0 ≤ τ_196.1 9 ∧ τ_196.1 9 ≤ 20000 := hT.1 9
              have v20 : 0 ≤ τ_196.1 20 ∧ τ_196.1 20 ≤ 19 := hT.1 20
              have v22 : 0 ≤ τ_196.1 22 ∧ τ_196.1 22 ≤ 1499 := hT.1 22
              have v25 : 0 ≤ τ_196.1 25 ∧ τ_196.1 25 ≤ 300 := hT.1 25
              have v26 : 0 ≤ τ_196.1 26 ∧ τ_196.1 26 ≤ 5000010 := hT.1 26
              have v28 : 0 ≤ τ_196.1 28 ∧ τ_196.1 28 ≤ 1 := hT.1 28
              have v29 : 0 ≤ τ_196.1 29 ∧ τ_196.1 29 ≤ 300 := hT.1 29
              have a18_22 : 0 ≤ τ_196.2.1 18 (τ_196.1 22) ∧ τ_196.2.1 18 (τ_196.1 22) ≤ 90000 := hT.2 18 _
              have a19_22 : 0 ≤ τ_196.2.1 19 (τ_196.1 22) ∧ τ_196.2.1 19 (τ_196.1 22) ≤ 60 := hT.2 19 _
              have a25_22 : 0 ≤ τ_196.2.1 25 (τ_196.1 22) ∧ τ_196.2.1 25 (τ_196.1 22) ≤ 20000 := hT.2 25 _
              have a26_22 : 0 ≤ τ_196.2.1 26 (τ_196.1 22) ∧ τ_196.2.1 26 (τ_196.1 22) ≤ 20000 := hT.2 26 _
              have a28_9 : 0 ≤ τ_196.2.1 28 (τ_196.1 9) ∧ τ_196.2.1 28 (τ_196.1 9) ≤ 1 := hT.2 28 _
              have av9 : σ.1 9 ≤ τ_196.1 9 := ag.1 9 (by decide)
              refine h196 _ ?_
              replace ag := ag_v (i := 26) (x := 0) ag (Or.inl rfl)
              replace hT := mT_v (i := 26) hT (show (0 : Int) ≤ 0 ∧ 0 ≤ 5000010 from by (first | omega | (simp only [st_s] <;> omega) | assumption | omega))
              replace ag := ag_v (i := 27) (x := 0) ag (Or.inl rfl)
              replace hT := mT_v (i := 27) hT (show (0 : Int) ≤ 0 ∧ 0 ≤ 1 from by (first | omega | (simp only [st_s] <;> omega) | assumption | omega))
              exact ⟨hT, (show ¬ (σ.1 20) = 0 → (τ_196.1 20) = (σ.1 20) from by (first | omega | (simp only [st_s] <;> omega) | assumption | omega)), (show τ_196.2.1 25 (τ_196.1 22) + τ_196.2.1 26 (τ_196.1 22) = (τ_196.1 9) from Z4), (show ca (τ_196.2.1 28) ((τ_196.1 9)) ≤ ca (τ_196.2.1 28) (τ_196.2.1 25 (τ_196.1 22)) + (τ_196.1 29) from Y10), (show ¬ (τ_196.1 28) = 0 → τ_196.2.1 25 (τ_196.1 22) < (τ_196.1 9) ∧ τ_196.2.1 28 ((τ_196.1 9) - 1) = 0 from by (first | assumption | omega | (intro _; refine ⟨by omega, ?_⟩; first | exact hz | (rw [e_τ_196]; exact hz)))), (show j_eq (σ.2.1 25 (σ.1 22)) (σ.2.1 28) (τ_196.2.1 28) from Y13), (show ((0 : Int)) = 0 from by (first | omega | (simp only [st_s] <;> omega) | assumption | omega)), ag⟩
            ·
              refine ⟨(show 0 ≤ ((-1) - (((n1 - 1) - x2) - σ.1 25)) ∧ ((-1) - (((n1 - 1) - x2) - σ.1 25)) < 1501 from by (first | omega | (simp only [st_s] <;> omega) | assumption | omega)), ?_⟩
              intro x31 r_x31 e_x31
              have b_x31 : 0 ≤ x31 ∧ x31 ≤ 4 := by rw [e_x31]; exact hT.2 13 _
              refine ⟨fun c32 => ?_, fun c32 => ?_⟩
              ·
                refine h193 _ _ ?_
                refine ⟨(show 0 ≤ 0 ∧ 0 ≤ 1 from by (first | omega | (simp only [st_s] <;> omega) | assumption | omega)), ?_⟩
                replace ag := ag_v (i := 28) (x := 0) ag (Or.inl rfl)
                replace hT := mT_v (i := 28) hT (show (0 : Int) ≤ 0 ∧ 0 ≤ 1 from by (first | omega | (simp only [st_s] <;> omega) | assumption | omega))
                obtain ⟨τ_196, e_τ_196⟩ : ∃ z : S0, z = s_v τ28 28 0 := ⟨_, rfl⟩
                rw [← e_τ_196]
                replace hT : m_T τ_196 := by rw [e_τ_196]; exact hT
                replace ag : m_ag σ τ_196 := by rw [e_τ_196]; exact ag
                have w3_τ_196 : τ_196.1 3 = τ28.1 3 := by rw [e_τ_196]; rfl
                have w5_τ_196 : τ_196.1 5 = τ28.1 5 := by rw [e_τ_196]; rfl
                have w6_τ_196 : τ_196.1 6 = τ28.1 6 := by rw [e_τ_196]; rfl
                have w7_τ_196 : τ_196.1 7 = τ28.1 7 := by rw [e_τ_196]; rfl
                have w8_τ_196 : τ_196.1 8 = τ28.1 8 := by rw [e_τ_196]; rfl
                have w9_τ_196 : τ_196.1 9 = τ28.1 9 := by rw [e_τ_196]; rfl
                have w20_τ_196 : τ_196.1 20 = τ28.1 20 := by rw [e_τ_196]; rfl
                have w22_τ_196 : τ_196.1 22 = τ28.1 22 := by rw [e_τ_196]; rfl
                have w25_τ_196 : τ_196.1 25 = τ28.1 25 := by rw [e_τ_196]; rfl
                have w26_τ_196 : τ_196.1 26 = τ28.1 26 := by rw [e_τ_196]; rfl
                have w28_τ_196 : τ_196.1 28 = 0 := by rw [e_τ_196]; rfl
                have w29_τ_196 : τ_196.1 29 = τ28.1 29 := by rw [e_τ_196]; rfl
                have g18_τ_196 : τ_196.2.1 18 = τ28.2.1 18 := by rw [e_τ_196]; rfl
                have g19_τ_196 : τ_196.2.1 19 = τ28.2.1 19 := by rw [e_τ_196]; rfl
                have g25_τ_196 : τ_196.2.1 25 = τ28.2.1 25 := by rw [e_τ_196]; rfl
                have g26_τ_196 : τ_196.2.1 26 = τ28.2.1 26 := by rw [e_τ_196]; rfl
                have g28_τ_196 : τ_196.2.1 28 = τ28.2.1 28 := by rw [e_τ_196]; rfl
                have W3 : τ_196.1 3 = σ.1 3 := by omega
                have W5 : τ_196.1 5 = σ.1 5 := by omega
                have W6 : τ_196.1 6 = σ.1 6 := by omega
                have W7 : τ_196.1 7 = σ.1 7 := by omega
                have W8 : τ_196.1 8 = σ.1 8 := by omega
                have W22 : τ_196.1 22 = σ.1 22 := by omega
                have W25 : τ_196.1 25 = σ.1 25 := by omega
                have W29 : τ_196.1 29 = σ.1 29 := by omega
                have G18 : τ_196.2.1 18 = σ.2.1 18 := (g18_τ_196).trans G18
                have G19 : τ_196.2.1 19 = σ.2.1 19 := (g19_τ_196).trans G19
                have G25 : τ_196.2.1 25 = σ.2.1 25 := (g25_τ_196).trans G25
                have y18_22_τ_196 : τ_196.2.1 18 (τ_196.1 22) = (τ28.2.1 18) (τ28.1 22) := by rw [g18_τ_196, w22_τ_196]
                have y19_22_τ_196 : τ_196.2.1 19 (τ_196.1 22) = (τ28.2.1 19) (τ28.1 22) := by rw [g19_τ_196, w22_τ_196]
                have y25_22_τ_196 : τ_196.2.1 25 (τ_196.1 22) = (τ28.2.1 25) (τ28.1 22) := by rw [g25_τ_196, w22_τ_196]
                have y26_22_τ_196 : τ_196.2.1 26 (τ_196.1 22) = (τ28.2.1 26) (τ28.1 22) := by rw [g26_τ_196, w22_τ_196]
                have y28_9_τ_196 : τ_196.2.1 28 (τ_196.1 9) = (τ28.2.1 28) (τ28.1 9) := by rw [g28_τ_196, w9_τ_196]
                have Z4 : τ_196.2.1 25 (τ_196.1 22) + τ_196.2.1 26 (τ_196.1 22) = (τ_196.1 9) := by rw [show (τ_196.2.1 25 (τ_196.1 22) + τ_196.2.1 26 (τ_196.1 22) = (τ_196.1 9)) = (τ28.2.1 25 (τ28.1 22) + τ28.2.1 26 (τ28.1 22) = (τ28.1 9)) from by rw [w9_τ_196, w22_τ_196, g25_τ_196, g26_τ_196]]; exact Z4
                have Y10 : ca (τ_196.2.1 28) ((τ_196.1 9)) ≤ ca (τ_196.2.1 28) (τ_196.2.1 25 (τ_196.1 22)) + (τ_196.1 29) := by rw [show (ca (τ_196.2.1 28) ((τ_196.1 9)) ≤ ca (τ_196.2.1 28) (τ_196.2.1 25 (τ_196.1 22)) + (τ_196.1 29)) = (ca (τ28.2.1 28) ((τ28.1 9)) ≤ ca (τ28.2.1 28) (τ28.2.1 25 (τ28.1 22)) + (τ28.1 29)) from by rw [w9_τ_196, w22_τ_196, w29_τ_196, g25_τ_196, g28_τ_196]]; exact Y10
                have Y13 : j_eq (σ.2.1 25 (σ.1 22)) (σ.2.1 28) (τ_196.2.1 28) := by rw [show (j_eq (σ.2.1 25 (σ.1 22)) (σ.2.1 28) (τ_196.2.1 28)) = (j_eq (σ.2.1 25 (σ.1 22)) (σ.2.1 28) (τ28.2.1 28)) from by rw [g28_τ_196]]; exact Y13
                have A18 : ∀ j, 0 ≤ τ_196.2.1 18 j ∧ τ_196.2.1 18 j ≤ 90000 := fun j => hT.2 18 j
                have A19 : ∀ j, 0 ≤ τ_196.2.1 19 j ∧ τ_196.2.1 19 j ≤ 60 := fun j => hT.2 19 j
                have A25 : ∀ j, 0 ≤ τ_196.2.1 25 j ∧ τ_196.2.1 25 j ≤ 20000 := fun j => hT.2 25 j
                have A26 : ∀ j, 0 ≤ τ_196.2.1 26 j ∧ τ_196.2.1 26 j ≤ 20000 := fun j => hT.2 26 j
                have A28 : ∀ j, 0 ≤ τ_196.2.1 28 j ∧ τ_196.2.1 28 j ≤ 1 := fun j => hT.2 28 j
                have v3 : 0 ≤ τ_196.1 3 ∧ τ_196.1 3 ≤ 1000 := hT.1 3
                have v5 : 0 ≤ τ_196.1 5 ∧ τ_196.1 5 ≤ 1500 := hT.1 5
                have v6 : 0 ≤ τ_196.1 6 ∧ τ_196.1 6 ≤ 30000 := hT.1 6
                have v7 : 0 ≤ τ_196.1 7 ∧ τ_196.1 7 ≤ 90000 := hT.1 7
                have v8 : 0 ≤ τ_196.1 8 ∧ τ_196.1 8 ≤ 20000 := hT.1 8
                have v9 : 0 ≤ τ_196.1 9 ∧ τ_196.1 9 ≤ 20000 := hT.1 9
                have v20 : 0 ≤ τ_196.1 20 ∧ τ_196.1 20 ≤ 19 := hT.1 20
                have v22 : 0 ≤ τ_196.1 22 ∧ τ_196.1 22 ≤ 1499 := hT.1 22
                have v25 : 0 ≤ τ_196.1 25 ∧ τ_196.1 25 ≤ 300 := hT.1 25
                have v26 : 0 ≤ τ_196.1 26 ∧ τ_196.1 26 ≤ 5000010 := hT.1 26
                have v28 : 0 ≤ τ_196.1 28 ∧ τ_196.1 28 ≤ 1 := hT.1 28
                have v29 : 0 ≤ τ_196.1 29 ∧ τ_196.1 29 ≤ 300 := hT.1 29
                have a18_22 : 0 ≤ τ_196.2.1 18 (τ_196.1 22) ∧ τ_196.2.1 18 (τ_196.1 22) ≤ 90000 := hT.2 18 _
                have a19_22 : 0 ≤ τ_196.2.1 19 (τ_196.1 22) ∧ τ_196.2.1 19 (τ_196.1 22) ≤ 60 := hT.2 19 _
                have a25_22 : 0 ≤ τ_196.2.1 25 (τ_196.1 22) ∧ τ_196.2.1 25 (τ_196.1 22) ≤ 20000 := hT.2 25 _
                have a26_22 : 0 ≤ τ_196.2.1 26 (τ_196.1 22) ∧ τ_196.2.1 26 (τ_196.1 22) ≤ 20000 := hT.2 26 _
                have a28_9 : 0 ≤ τ_196.2.1 28 (τ_196.1 9) ∧ τ_196.2.1 28 (τ_196.1 9) ≤ 1 := hT.2 28 _
                have av9 : σ.1 9 ≤ τ_196.1 9 := ag.1 9 (by decide)
                refine h196 _ ?_
                replace ag := ag_v (i := 26) (x := 0) ag (Or.inl rfl)
                replace hT := mT_v (i := 26) hT (show (0 : Int) ≤ 0 ∧ 0 ≤ 5000010 from by (first | omega | (simp only [st_s] <;> omega) | assumption | omega))
                replace ag := ag_v (i := 27) (x := 0) ag (Or.inl rfl)
                replace hT := mT_v (i := 27) hT (show (0 : Int) ≤ 0 ∧ 0 ≤ 1 from by (first | omega | (simp only [st_s] <;> omega) | assumption | omega))
                exact ⟨hT, (show ¬ (σ.1 20) = 0 → (τ_196.1 20) = (σ.1 20) from by (first | omega | (simp only [st_s] <;> omega) | assumption | omega)), (show τ_196.2.1 25 (τ_196.1 22) + τ_196.2.1 26 (τ_196.1 22) = (τ_196.1 9) from Z4), (show ca (τ_196.2.1 28) ((τ_196.1 9)) ≤ ca (τ_196.2.1 28) (τ_196.2.1 25 (τ_196.1 22)) + (τ_196.1 29) from Y10), (show ¬ (τ_196.1 28) = 0 → τ_196.2.1 25 (τ_196.1 22) < (τ_196.1 9) ∧ τ_196.2.1 28 ((τ_196.1 9) - 1) = 0 from by (first | assumption | omega | (intro _; refine ⟨by omega, ?_⟩; first | exact hz | (rw [e_τ_196]; exact hz)))), (show j_eq (σ.2.1 25 (σ.1 22)) (σ.2.1 28) (τ_196.2.1 28) from Y13), (show ((0 : Int)) = 0 from by (first | omega | (simp only [st_s] <;> omega) | assumption | omega)), ag⟩
              ·
                refine h193 _ _ ?_
                refine ⟨(show 0 ≤ 1 ∧ 1 ≤ 1 from by (first | omega | (simp only [st_s] <;> omega) | assumption | omega)), ?_⟩
                replace ag := ag_v (i := 28) (x := 1) ag (Or.inl rfl)
                replace hT := mT_v (i := 28) hT (show (0 : Int) ≤ 1 ∧ 1 ≤ 1 from by (first | omega | (simp only [st_s] <;> omega) | assumption | omega))
                obtain ⟨τ_196, e_τ_196⟩ : ∃ z : S0, z = s_v τ28 28 1 := ⟨_, rfl⟩
                rw [← e_τ_196]
                replace hT : m_T τ_196 := by rw [e_τ_196]; exact hT
                replace ag : m_ag σ τ_196 := by rw [e_τ_196]; exact ag
                have w3_τ_196 : τ_196.1 3 = τ28.1 3 := by rw [e_τ_196]; rfl
                have w5_τ_196 : τ_196.1 5 = τ28.1 5 := by rw [e_τ_196]; rfl
                have w6_τ_196 : τ_196.1 6 = τ28.1 6 := by rw [e_τ_196]; rfl
                have w7_τ_196 : τ_196.1 7 = τ28.1 7 := by rw [e_τ_196]; rfl
                have w8_τ_196 : τ_196.1 8 = τ28.1 8 := by rw [e_τ_196]; rfl
                have w9_τ_196 : τ_196.1 9 = τ28.1 9 := by rw [e_τ_196]; rfl
                have w20_τ_196 : τ_196.1 20 = τ28.1 20 := by rw [e_τ_196]; rfl
                have w22_τ_196 : τ_196.1 22 = τ28.1 22 := by rw [e_τ_196]; rfl
                have w25_τ_196 : τ_196.1 25 = τ28.1 25 := by rw [e_τ_196]; rfl
                have w26_τ_196 : τ_196.1 26 = τ28.1 26 := by rw [e_τ_196]; rfl
                have w28_τ_196 : τ_196.1 28 = 1 := by rw [e_τ_196]; rfl
                have w29_τ_196 : τ_196.1 29 = τ28.1 29 := by rw [e_τ_196]; rfl
                have g18_τ_196 : τ_196.2.1 18 = τ28.2.1 18 := by rw [e_τ_196]; rfl
                have g19_τ_196 : τ_196.2.1 19 = τ28.2.1 19 := by rw [e_τ_196]; rfl
                have g25_τ_196 : τ_196.2.1 25 = τ28.2.1 25 := by rw [e_τ_196]; rfl
                have g26_τ_196 : τ_196.2.1 26 = τ28.2.1 26 := by rw [e_τ_196]; rfl
                have g28_τ_196 : τ_196.2.1 28 = τ28.2.1 28 := by rw [e_τ_196]; rfl
                have W3 : τ_196.1 3 = σ.1 3 := by omega
                have W5 : τ_196.1 5 = σ.1 5 := by omega
                have W6 : τ_196.1 6 = σ.1 6 := by omega
                have W7 : τ_196.1 7 = σ.1 7 := by omega
                have W8 : τ_196.1 8 = σ.1 8 := by omega
                have W22 : τ_196.1 22 = σ.1 22 := by omega
                have W25 : τ_196.1 25 = σ.1 25 := by omega
                have W29 : τ_196.1 29 = σ.1 29 := by omega
                have G18 : τ_196.2.1 18 = σ.2.1 18 := (g18_τ_196).trans G18
                have G19 : τ_196.2.1 19 = σ.2.1 19 := (g19_τ_196).trans G19
                have G25 : τ_196.2.1 25 = σ.2.1 25 := (g25_τ_196).trans G25
                have y18_22_τ_196 : τ_196.2.1 18 (τ_196.1 22) = (τ28.2.1 18) (τ28.1 22) := by rw [g18_τ_196, w22_τ_196]
                have y19_22_τ_196 : τ_196.2.1 19 (τ_196.1 22) = (τ28.2.1 19) (τ28.1 22) := by rw [g19_τ_196, w22_τ_196]
                have y25_22_τ_196 : τ_196.2.1 25 (τ_196.1 22) = (τ28.2.1 25) (τ28.1 22) := by rw [g25_τ_196, w22_τ_196]
                have y26_22_τ_196 : τ_196.2.1 26 (τ_196.1 22) = (τ28.2.1 26) (τ28.1 22) := by rw [g26_τ_196, w22_τ_196]
                have y28_9_τ_196 : τ_196.2.1 28 (τ_196.1 9) = (τ28.2.1 28) (τ28.1 9) := by rw [g28_τ_196, w9_τ_196]
                have Z4 : τ_196.2.1 25 (τ_196.1 22) + τ_196.2.1 26 (τ_196.1 22) = (τ_196.1 9) := by rw [show (τ_196.2.1 25 (τ_196.1 22) + τ_196.2.1 26 (τ_196.1 22) = (τ_196.1 9)) = (τ28.2.1 25 (τ28.1 22) + τ28.2.1 26 (τ28.1 22) = (τ28.1 9)) from by rw [w9_τ_196, w22_τ_196, g25_τ_196, g26_τ_196]]; exact Z4
                have Y10 : ca (τ_196.2.1 28) ((τ_196.1 9)) ≤ ca (τ_196.2.1 28) (τ_196.2.1 25 (τ_196.1 22)) + (τ_196.1 29) := by rw [show (ca (τ_196.2.1 28) ((τ_196.1 9)) ≤ ca (τ_196.2.1 28) (τ_196.2.1 25 (τ_196.1 22)) + (τ_196.1 29)) = (ca (τ28.2.1 28) ((τ28.1 9)) ≤ ca (τ28.2.1 28) (τ28.2.1 25 (τ28.1 22)) + (τ28.1 29)) from by rw [w9_τ_196, w22_τ_196, w29_τ_196, g25_τ_196, g28_τ_196]]; exact Y10
                have Y13 : j_eq (σ.2.1 25 (σ.1 22)) (σ.2.1 28) (τ_196.2.1 28) := by rw [show (j_eq (σ.2.1 25 (σ.1 22)) (σ.2.1 28) (τ_196.2.1 28)) = (j_eq (σ.2.1 25 (σ.1 22)) (σ.2.1 28) (τ28.2.1 28)) from by rw [g28_τ_196]]; exact Y13
                have A18 : ∀ j, 0 ≤ τ_196.2.1 18 j ∧ τ_196.2.1 18 j ≤ 90000 := fun j => hT.2 18 j
                have A19 : ∀ j, 0 ≤ τ_196.2.1 19 j ∧ τ_196.2.1 19 j ≤ 60 := fun j => hT.2 19 j
                have A25 : ∀ j, 0 ≤ τ_196.2.1 25 j ∧ τ_196.2.1 25 j ≤ 20000 := fun j => hT.2 25 j
                have A26 : ∀ j, 0 ≤ τ_196.2.1 26 j ∧ τ_196.2.1 26 j ≤ 20000 := fun j => hT.2 26 j
                have A28 : ∀ j, 0 ≤ τ_196.2.1 28 j ∧ τ_196.2.1 28 j ≤ 1 := fun j => hT.2 28 j
                have v3 : 0 ≤ τ_196.1 3 ∧ τ_196.1 3 ≤ 1000 := hT.1 3
                have v5 : 0 ≤ τ_196.1 5 ∧ τ_196.1 5 ≤ 1500 := hT.1 5
                have v6 : 0 ≤ τ_196.1 6 ∧ τ_196.1 6 ≤ 30000 := hT.1 6
                have v7 : 0 ≤ τ_196.1 7 ∧ τ_196.1 7 ≤ 90000 := hT.1 7
                have v8 : 0 ≤ τ_196.1 8 ∧ τ_196.1 8 ≤ 20000 := hT.1 8
                have v9 : 0 ≤ τ_196.1 9 ∧ τ_196.1 9 ≤ 20000 := hT.1 9
                have v20 : 0 ≤ τ_196.1 20 ∧ τ_196.1 20 ≤ 19 := hT.1 20
                have v22 : 0 ≤ τ_196.1 22 ∧ τ_196.1 22 ≤ 1499 := hT.1 22
                have v25 : 0 ≤ τ_196.1 25 ∧ τ_196.1 25 ≤ 300 := hT.1 25
                have v26 : 0 ≤ τ_196.1 26 ∧ τ_196.1 26 ≤ 5000010 := hT.1 26
                have v28 : 0 ≤ τ_196.1 28 ∧ τ_196.1 28 ≤ 1 := hT.1 28
                have v29 : 0 ≤ τ_196.1 29 ∧ τ_196.1 29 ≤ 300 := hT.1 29
                have a18_22 : 0 ≤ τ_196.2.1 18 (τ_196.1 22) ∧ τ_196.2.1 18 (τ_196.1 22) ≤ 90000 := hT.2 18 _
                have a19_22 : 0 ≤ τ_196.2.1 19 (τ_196.1 22) ∧ τ_196.2.1 19 (τ_196.1 22) ≤ 60 := hT.2 19 _
                have a25_22 : 0 ≤ τ_196.2.1 25 (τ_196.1 22) ∧ τ_196.2.1 25 (τ_196.1 22) ≤ 20000 := hT.2 25 _
                have a26_22 : 0 ≤ τ_196.2.1 26 (τ_196.1 22) ∧ τ_196.2.1 26 (τ_196.1 22) ≤ 20000 := hT.2 26 _
                have a28_9 : 0 ≤ τ_196.2.1 28 (τ_196.1 9) ∧ τ_196.2.1 28 (τ_196.1 9) ≤ 1 := hT.2 28 _
                have av9 : σ.1 9 ≤ τ_196.1 9 := ag.1 9 (by decide)
                refine h196 _ ?_
                replace ag := ag_v (i := 26) (x := 0) ag (Or.inl rfl)
                replace hT := mT_v (i := 26) hT (show (0 : Int) ≤ 0 ∧ 0 ≤ 5000010 from by (first | omega | (simp only [st_s] <;> omega) | assumption | omega))
                replace ag := ag_v (i := 27) (x := 0) ag (Or.inl rfl)
                replace hT := mT_v (i := 27) hT (show (0 : Int) ≤ 0 ∧ 0 ≤ 1 from by (first | omega | (simp only [st_s] <;> omega) | assumption | omega))
                exact ⟨hT, (show ¬ (σ.1 20) = 0 → (τ_196.1 20) = (σ.1 20) from by (first | omega | (simp only [st_s] <;> omega) | assumption | omega)), (show τ_196.2.1 25 (τ_196.1 22) + τ_196.2.1 26 (τ_196.1 22) = (τ_196.1 9) from Z4), (show ca (τ_196.2.1 28) ((τ_196.1 9)) ≤ ca (τ_196.2.1 28) (τ_196.2.1 25 (τ_196.1 22)) + (τ_196.1 29) from Y10), (show ¬ (τ_196.1 28) = 0 → τ_196.2.1 25 (τ_196.1 22) < (τ_196.1 9) ∧ τ_196.2.1 28 ((τ_196.1 9) - 1) = 0 from by (first | assumption | omega | (intro _; refine ⟨by omega, ?_⟩; first | exact hz | (rw [e_τ_196]; exact hz)))), (show j_eq (σ.2.1 25 (σ.1 22)) (σ.2.1 28) (τ_196.2.1 28) from Y13), (show ((0 : Int)) = 0 from by (first | omega | (simp only [st_s] <;> omega) | assumption | omega)), ag⟩
        ·
          refine ⟨_, K_X13_fail hT (show 0 ≤ 5 from by (first | omega | (simp only [st_s] <;> omega) | assumption | omega)) (show 5 ≤ 19 from by (first | omega | (simp only [st_s] <;> omega) | assumption | omega)) (show -1 ≤ n2 from by (first | omega | (simp only [st_s] <;> omega) | assumption | omega)) (show n2 ≤ 60000 from by (first | omega | (simp only [st_s] <;> omega) | assumption | omega)), ?_⟩
          intro τ21 hn_τ21 hf_τ21 hq
          obtain ⟨hT, q19_1, q19_2⟩ := hq
          replace q19_1 : ¬ (σ.1 20) = 0 → (τ21.1 20) = (σ.1 20) := q19_1
          replace q19_2 : (σ.1 20) = 0 → (τ21.1 20) = 5 := q19_2
          replace ag : m_ag σ τ21 := ag_r ag hf_τ21 rfl rfl
          have w3_τ21 : τ21.1 3 = σ.1 3 := hf_τ21.1 3 (by decide)
          have w5_τ21 : τ21.1 5 = σ.1 5 := hf_τ21.1 5 (by decide)
          have w6_τ21 : τ21.1 6 = σ.1 6 := hf_τ21.1 6 (by decide)
          have w7_τ21 : τ21.1 7 = σ.1 7 := hf_τ21.1 7 (by decide)
          have w8_τ21 : τ21.1 8 = σ.1 8 := hf_τ21.1 8 (by decide)
          have w9_τ21 : τ21.1 9 = σ.1 9 := hf_τ21.1 9 (by decide)
          have w22_τ21 : τ21.1 22 = σ.1 22 := hf_τ21.1 22 (by decide)
          have w25_τ21 : τ21.1 25 = σ.1 25 := hf_τ21.1 25 (by decide)
          have w26_τ21 : τ21.1 26 = σ.1 26 := hf_τ21.1 26 (by decide)
          have w28_τ21 : τ21.1 28 = σ.1 28 := hf_τ21.1 28 (by decide)
          have w29_τ21 : τ21.1 29 = σ.1 29 := hf_τ21.1 29 (by decide)
          have g18_τ21 : τ21.2.1 18 = σ.2.1 18 := hf_τ21.2.1 18 (by decide)
          have g19_τ21 : τ21.2.1 19 = σ.2.1 19 := hf_τ21.2.1 19 (by decide)
          have g25_τ21 : τ21.2.1 25 = σ.2.1 25 := hf_τ21.2.1 25 (by decide)
          have g26_τ21 : τ21.2.1 26 = σ.2.1 26 := hf_τ21.2.1 26 (by decide)
          have g28_τ21 : τ21.2.1 28 = σ.2.1 28 := hf_τ21.2.1 28 (by decide)
          have W3 : τ21.1 3 = σ.1 3 := by omega
          have W5 : τ21.1 5 = σ.1 5 := by omega
          have W6 : τ21.1 6 = σ.1 6 := by omega
          have W7 : τ21.1 7 = σ.1 7 := by omega
          have W8 : τ21.1 8 = σ.1 8 := by omega
          have W22 : τ21.1 22 = σ.1 22 := by omega
          have W25 : τ21.1 25 = σ.1 25 := by omega
          have W29 : τ21.1 29 = σ.1 29 := by omega
          have G18 : τ21.2.1 18 = σ.2.1 18 := (g18_τ21).trans G18
          have G19 : τ21.2.1 19 = σ.2.1 19 := (g19_τ21).trans G19
          have G25 : τ21.2.1 25 = σ.2.1 25 := (g25_τ21).trans G25
          have y18_22_τ21 : τ21.2.1 18 (τ21.1 22) = (σ.2.1 18) (σ.1 22) := by rw [g18_τ21, w22_τ21]
          have y19_22_τ21 : τ21.2.1 19 (τ21.1 22) = (σ.2.1 19) (σ.1 22) := by rw [g19_τ21, w22_τ21]
          have y25_22_τ21 : τ21.2.1 25 (τ21.1 22) = (σ.2.1 25) (σ.1 22) := by rw [g25_τ21, w22_τ21]
          have y26_22_τ21 : τ21.2.1 26 (τ21.1 22) = (σ.2.1 26) (σ.1 22) := by rw [g26_τ21, w22_τ21]
          have y28_9_τ21 : τ21.2.1 28 (τ21.1 9) = (σ.2.1 28) (σ.1 9) := by rw [g28_τ21, w9_τ21]
          have Z4 : τ21.2.1 25 (τ21.1 22) + τ21.2.1 26 (τ21.1 22) = (τ21.1 9) := by rw [show (τ21.2.1 25 (τ21.1 22) + τ21.2.1 26 (τ21.1 22) = (τ21.1 9)) = (σ.2.1 25 (σ.1 22) + σ.2.1 26 (σ.1 22) = (σ.1 9)) from by rw [w9_τ21, w22_τ21, g25_τ21, g26_τ21]]; exact Z4
          have Y10 : ca (τ21.2.1 28) ((τ21.1 9)) ≤ ca (τ21.2.1 28) (τ21.2.1 25 (τ21.1 22)) + (τ21.1 29) := by rw [show (ca (τ21.2.1 28) ((τ21.1 9)) ≤ ca (τ21.2.1 28) (τ21.2.1 25 (τ21.1 22)) + (τ21.1 29)) = (ca (σ.2.1 28) ((σ.1 9)) ≤ ca (σ.2.1 28) (σ.2.1 25 (σ.1 22)) + (σ.1 29)) from by rw [w9_τ21, w22_τ21, w29_τ21, g25_τ21, g28_τ21]]; exact Y10
          have Y12 : ¬ (τ21.1 28) = 0 → τ21.2.1 25 (τ21.1 22) < (τ21.1 9) ∧ τ21.2.1 28 ((τ21.1 9) - 1) = 0 := by rw [show (¬ (τ21.1 28) = 0 → τ21.2.1 25 (τ21.1 22) < (τ21.1 9) ∧ τ21.2.1 28 ((τ21.1 9) - 1) = 0) = (¬ (σ.1 28) = 0 → σ.2.1 25 (σ.1 22) < (σ.1 9) ∧ σ.2.1 28 ((σ.1 9) - 1) = 0) from by rw [w9_τ21, w22_τ21, w28_τ21, g25_τ21, g28_τ21]]; exact Y12
          have Y13 : j_eq (σ.2.1 25 (σ.1 22)) (σ.2.1 28) (τ21.2.1 28) := by rw [show (j_eq (σ.2.1 25 (σ.1 22)) (σ.2.1 28) (τ21.2.1 28)) = (j_eq (σ.2.1 25 (σ.1 22)) (σ.2.1 28) (σ.2.1 28)) from by rw [g28_τ21]]; exact Y13
          have A18 : ∀ j, 0 ≤ τ21.2.1 18 j ∧ τ21.2.1 18 j ≤ 90000 := fun j => hT.2 18 j
          have A19 : ∀ j, 0 ≤ τ21.2.1 19 j ∧ τ21.2.1 19 j ≤ 60 := fun j => hT.2 19 j
          have A25 : ∀ j, 0 ≤ τ21.2.1 25 j ∧ τ21.2.1 25 j ≤ 20000 := fun j => hT.2 25 j
          have A26 : ∀ j, 0 ≤ τ21.2.1 26 j ∧ τ21.2.1 26 j ≤ 20000 := fun j => hT.2 26 j
          have A28 : ∀ j, 0 ≤ τ21.2.1 28 j ∧ τ21.2.1 28 j ≤ 1 := fun j => hT.2 28 j
          have v3 : 0 ≤ τ21.1 3 ∧ τ21.1 3 ≤ 1000 := hT.1 3
          have v5 : 0 ≤ τ21.1 5 ∧ τ21.1 5 ≤ 1500 := hT.1 5
          have v6 : 0 ≤ τ21.1 6 ∧ τ21.1 6 ≤ 30000 := hT.1 6
          have v7 : 0 ≤ τ21.1 7 ∧ τ21.1 7 ≤ 90000 := hT.1 7
          have v8 : 0 ≤ τ21.1 8 ∧ τ21.1 8 ≤ 20000 := hT.1 8
          have v9 : 0 ≤ τ21.1 9 ∧ τ21.1 9 ≤ 20000 := hT.1 9
          have v20 : 0 ≤ τ21.1 20 ∧ τ21.1 20 ≤ 19 := hT.1 20
          have v22 : 0 ≤ τ21.1 22 ∧ τ21.1 22 ≤ 1499 := hT.1 22
          have v25 : 0 ≤ τ21.1 25 ∧ τ21.1 25 ≤ 300 := hT.1 25
          have v26 : 0 ≤ τ21.1 26 ∧ τ21.1 26 ≤ 5000010 := hT.1 26
          have v28 : 0 ≤ τ21.1 28 ∧ τ21.1 28 ≤ 1 := hT.1 28
          have v29 : 0 ≤ τ21.1 29 ∧ τ21.1 29 ≤ 300 := hT.1 29
          have a18_22 : 0 ≤ τ21.2.1 18 (τ21.1 22) ∧ τ21.2.1 18 (τ21.1 22) ≤ 90000 := hT.2 18 _
          have a19_22 : 0 ≤ τ21.2.1 19 (τ21.1 22) ∧ τ21.2.1 19 (τ21.1 22) ≤ 60 := hT.2 19 _
          have a25_22 : 0 ≤ τ21.2.1 25 (τ21.1 22) ∧ τ21.2.1 25 (τ21.1 22) ≤ 20000 := hT.2 25 _
          have a26_22 : 0 ≤ τ21.2.1 26 (τ21.1 22) ∧ τ21.2.1 26 (τ21.1 22) ≤ 20000 := hT.2 26 _
          have a28_9 : 0 ≤ τ21.2.1 28 (τ21.1 9) ∧ τ21.2.1 28 (τ21.1 9) ≤ 1 := hT.2 28 _
          have av9 : σ.1 9 ≤ τ21.1 9 := ag.1 9 (by decide)
          refine h196 _ ?_
          replace ag := ag_v (i := 26) (x := 0) ag (Or.inl rfl)
          replace hT := mT_v (i := 26) hT (show (0 : Int) ≤ 0 ∧ 0 ≤ 5000010 from by (first | omega | (simp only [st_s] <;> omega) | assumption | omega))
          replace ag := ag_v (i := 27) (x := 0) ag (Or.inl rfl)
          replace hT := mT_v (i := 27) hT (show (0 : Int) ≤ 0 ∧ 0 ≤ 1 from by (first | omega | (simp only [st_s] <;> omega) | assumption | omega))
          exact ⟨hT, (show ¬ (σ.1 20) = 0 → (τ21.1 20) = (σ.1 20) from by (first | omega | (simp only [st_s] <;> omega) | assumption | omega)), (show τ21.2.1 25 (τ21.1 22) + τ21.2.1 26 (τ21.1 22) = (τ21.1 9) from Z4), (show ca (τ21.2.1 28) ((τ21.1 9)) ≤ ca (τ21.2.1 28) (τ21.2.1 25 (τ21.1 22)) + (τ21.1 29) from Y10), (show ¬ (τ21.1 28) = 0 → τ21.2.1 25 (τ21.1 22) < (τ21.1 9) ∧ τ21.2.1 28 ((τ21.1 9) - 1) = 0 from Y12), (show j_eq (σ.2.1 25 (σ.1 22)) (σ.2.1 28) (τ21.2.1 28) from Y13), (show ((0 : Int)) = 0 from by (first | omega | (simp only [st_s] <;> omega) | assumption | omega)), ag⟩
      ·
        refine ⟨fun c22 => ?_, fun c22 => ?_⟩
        ·
          refine h82 _ _ _ ?_
          refine ⟨_, K_X13_fail hT (show 0 ≤ 14 from by (first | omega | (simp only [st_s] <;> omega) | assumption | omega)) (show 14 ≤ 19 from by (first | omega | (simp only [st_s] <;> omega) | assumption | omega)) (show -1 ≤ n2 from by (first | omega | (simp only [st_s] <;> omega) | assumption | omega)) (show n2 ≤ 60000 from by (first | omega | (simp only [st_s] <;> omega) | assumption | omega)), ?_⟩
          intro τ35 hn_τ35 hf_τ35 hq
          obtain ⟨hT, q33_1, q33_2⟩ := hq
          replace q33_1 : ¬ (σ.1 20) = 0 → (τ35.1 20) = (σ.1 20) := q33_1
          replace q33_2 : (σ.1 20) = 0 → (τ35.1 20) = 14 := q33_2
          replace ag : m_ag σ τ35 := ag_r ag hf_τ35 rfl rfl
          have w3_τ35 : τ35.1 3 = σ.1 3 := hf_τ35.1 3 (by decide)
          have w5_τ35 : τ35.1 5 = σ.1 5 := hf_τ35.1 5 (by decide)
          have w6_τ35 : τ35.1 6 = σ.1 6 := hf_τ35.1 6 (by decide)
          have w7_τ35 : τ35.1 7 = σ.1 7 := hf_τ35.1 7 (by decide)
          have w8_τ35 : τ35.1 8 = σ.1 8 := hf_τ35.1 8 (by decide)
          have w9_τ35 : τ35.1 9 = σ.1 9 := hf_τ35.1 9 (by decide)
          have w22_τ35 : τ35.1 22 = σ.1 22 := hf_τ35.1 22 (by decide)
          have w25_τ35 : τ35.1 25 = σ.1 25 := hf_τ35.1 25 (by decide)
          have w26_τ35 : τ35.1 26 = σ.1 26 := hf_τ35.1 26 (by decide)
          have w28_τ35 : τ35.1 28 = σ.1 28 := hf_τ35.1 28 (by decide)
          have w29_τ35 : τ35.1 29 = σ.1 29 := hf_τ35.1 29 (by decide)
          have g18_τ35 : τ35.2.1 18 = σ.2.1 18 := hf_τ35.2.1 18 (by decide)
          have g19_τ35 : τ35.2.1 19 = σ.2.1 19 := hf_τ35.2.1 19 (by decide)
          have g25_τ35 : τ35.2.1 25 = σ.2.1 25 := hf_τ35.2.1 25 (by decide)
          have g26_τ35 : τ35.2.1 26 = σ.2.1 26 := hf_τ35.2.1 26 (by decide)
          have g28_τ35 : τ35.2.1 28 = σ.2.1 28 := hf_τ35.2.1 28 (by decide)
          have W3 : τ35.1 3 = σ.1 3 := by omega
          have W5 : τ35.1 5 = σ.1 5 := by omega
          have W6 : τ35.1 6 = σ.1 6 := by omega
          have W7 : τ35.1 7 = σ.1 7 := by omega
          have W8 : τ35.1 8 = σ.1 8 := by omega
          have W22 : τ35.1 22 = σ.1 22 := by omega
          have W25 : τ35.1 25 = σ.1 25 := by omega
          have W29 : τ35.1 29 = σ.1 29 := by omega
          have G18 : τ35.2.1 18 = σ.2.1 18 := (g18_τ35).trans G18
          have G19 : τ35.2.1 19 = σ.2.1 19 := (g19_τ35).trans G19
          have G25 : τ35.2.1 25 = σ.2.1 25 := (g25_τ35).trans G25
          have y18_22_τ35 : τ35.2.1 18 (τ35.1 22) = (σ.2.1 18) (σ.1 22) := by rw [g18_τ35, w22_τ35]
          have y19_22_τ35 : τ35.2.1 19 (τ35.1 22) = (σ.2.1 19) (σ.1 22) := by rw [g19_τ35, w22_τ35]
          have y25_22_τ35 : τ35.2.1 25 (τ35.1 22) = (σ.2.1 25) (σ.1 22) := by rw [g25_τ35, w22_τ35]
          have y26_22_τ35 : τ35.2.1 26 (τ35.1 22) = (σ.2.1 26) (σ.1 22) := by rw [g26_τ35, w22_τ35]
          have y28_9_τ35 : τ35.2.1 28 (τ35.1 9) = (σ.2.1 28) (σ.1 9) := by rw [g28_τ35, w9_τ35]
          have Z4 : τ35.2.1 25 (τ35.1 22) + τ35.2.1 26 (τ35.1 22) = (τ35.1 9) := by rw [show (τ35.2.1 25 (τ35.1 22) + τ35.2.1 26 (τ35.1 22) = (τ35.1 9)) = (σ.2.1 25 (σ.1 22) + σ.2.1 26 (σ.1 22) = (σ.1 9)) from by rw [w9_τ35, w22_τ35, g25_τ35, g26_τ35]]; exact Z4
          have Y10 : ca (τ35.2.1 28) ((τ35.1 9)) ≤ ca (τ35.2.1 28) (τ35.2.1 25 (τ35.1 22)) + (τ35.1 29) := by rw [show (ca (τ35.2.1 28) ((τ35.1 9)) ≤ ca (τ35.2.1 28) (τ35.2.1 25 (τ35.1 22)) + (τ35.1 29)) = (ca (σ.2.1 28) ((σ.1 9)) ≤ ca (σ.2.1 28) (σ.2.1 25 (σ.1 22)) + (σ.1 29)) from by rw [w9_τ35, w22_τ35, w29_τ35, g25_τ35, g28_τ35]]; exact Y10
          have Y12 : ¬ (τ35.1 28) = 0 → τ35.2.1 25 (τ35.1 22) < (τ35.1 9) ∧ τ35.2.1 28 ((τ35.1 9) - 1) = 0 := by rw [show (¬ (τ35.1 28) = 0 → τ35.2.1 25 (τ35.1 22) < (τ35.1 9) ∧ τ35.2.1 28 ((τ35.1 9) - 1) = 0) = (¬ (σ.1 28) = 0 → σ.2.1 25 (σ.1 22) < (σ.1 9) ∧ σ.2.1 28 ((σ.1 9) - 1) = 0) from by rw [w9_τ35, w22_τ35, w28_τ35, g25_τ35, g28_τ35]]; exact Y12
          have Y13 : j_eq (σ.2.1 25 (σ.1 22)) (σ.2.1 28) (τ35.2.1 28) := by rw [show (j_eq (σ.2.1 25 (σ.1 22)) (σ.2.1 28) (τ35.2.1 28)) = (j_eq (σ.2.1 25 (σ.1 22)) (σ.2.1 28) (σ.2.1 28)) from by rw [g28_τ35]]; exact Y13
          have A18 : ∀ j, 0 ≤ τ35.2.1 18 j ∧ τ35.2.1 18 j ≤ 90000 := fun j => hT.2 18 j
          have A19 : ∀ j, 0 ≤ τ35.2.1 19 j ∧ τ35.2.1 19 j ≤ 60 := fun j => hT.2 19 j
          have A25 : ∀ j, 0 ≤ τ35.2.1 25 j ∧ τ35.2.1 25 j ≤ 20000 := fun j => hT.2 25 j
          have A26 : ∀ j, 0 ≤ τ35.2.1 26 j ∧ τ35.2.1 26 j ≤ 20000 := fun j => hT.2 26 j
          have A28 : ∀ j, 0 ≤ τ35.2.1 28 j ∧ τ35.2.1 28 j ≤ 1 := fun j => hT.2 28 j
          have v3 : 0 ≤ τ35.1 3 ∧ τ35.1 3 ≤ 1000 := hT.1 3
          have v5 : 0 ≤ τ35.1 5 ∧ τ35.1 5 ≤ 1500 := hT.1 5
          have v6 : 0 ≤ τ35.1 6 ∧ τ35.1 6 ≤ 30000 := hT.1 6
          have v7 : 0 ≤ τ35.1 7 ∧ τ35.1 7 ≤ 90000 := hT.1 7
          have v8 : 0 ≤ τ35.1 8 ∧ τ35.1 8 ≤ 20000 := hT.1 8
          have v9 : 0 ≤ τ35.1 9 ∧ τ35.1 9 ≤ 20000 := hT.1 9
          have v20 : 0 ≤ τ35.1 20 ∧ τ35.1 20 ≤ 19 := hT.1 20
          have v22 : 0 ≤ τ35.1 22 ∧ τ35.1 22 ≤ 1499 := hT.1 22
          have v25 : 0 ≤ τ35.1 25 ∧ τ35.1 25 ≤ 300 := hT.1 25
          have v26 : 0 ≤ τ35.1 26 ∧ τ35.1 26 ≤ 5000010 := hT.1 26
          have v28 : 0 ≤ τ35.1 28 ∧ τ35.1 28 ≤ 1 := hT.1 28
          have v29 : 0 ≤ τ35.1 29 ∧ τ35.1 29 ≤ 300 := hT.1 29
          have a18_22 : 0 ≤ τ35.2.1 18 (τ35.1 22) ∧ τ35.2.1 18 (τ35.1 22) ≤ 90000 := hT.2 18 _
          have a19_22 : 0 ≤ τ35.2.1 19 (τ35.1 22) ∧ τ35.2.1 19 (τ35.1 22) ≤ 60 := hT.2 19 _
          have a25_22 : 0 ≤ τ35.2.1 25 (τ35.1 22) ∧ τ35.2.1 25 (τ35.1 22) ≤ 20000 := hT.2 25 _
          have a26_22 : 0 ≤ τ35.2.1 26 (τ35.1 22) ∧ τ35.2.1 26 (τ35.1 22) ≤ 20000 := hT.2 26 _
          have a28_9 : 0 ≤ τ35.2.1 28 (τ35.1 9) ∧ τ35.2.1 28 (τ35.1 9) ≤ 1 := hT.2 28 _
          have av9 : σ.1 9 ≤ τ35.1 9 := ag.1 9 (by decide)
          refine h196 _ ?_
          replace ag := ag_v (i := 26) (x := 0) ag (Or.inl rfl)
          replace hT := mT_v (i := 26) hT (show (0 : Int) ≤ 0 ∧ 0 ≤ 5000010 from by (first | omega | (simp only [st_s] <;> omega) | assumption | omega))
          replace ag := ag_v (i := 27) (x := 0) ag (Or.inl rfl)
          replace hT := mT_v (i := 27) hT (show (0 : Int) ≤ 0 ∧ 0 ≤ 1 from by (first | omega | (simp only [st_s] <;> omega) | assumption | omega))
          exact ⟨hT, (show ¬ (σ.1 20) = 0 → (τ35.1 20) = (σ.1 20) from by (first | omega | (simp only [st_s] <;> omega) | assumption | omega)), (show τ35.2.1 25 (τ35.1 22) + τ35.2.1 26 (τ35.1 22) = (τ35.1 9) from Z4), (show ca (τ35.2.1 28) ((τ35.1 9)) ≤ ca (τ35.2.1 28) (τ35.2.1 25 (τ35.1 22)) + (τ35.1 29) from Y10), (show ¬ (τ35.1 28) = 0 → τ35.2.1 25 (τ35.1 22) < (τ35.1 9) ∧ τ35.2.1 28 ((τ35.1 9) - 1) = 0 from Y12), (show j_eq (σ.2.1 25 (σ.1 22)) (σ.2.1 28) (τ35.2.1 28) from Y13), (show ((0 : Int)) = 0 from by (first | omega | (simp only [st_s] <;> omega) | assumption | omega)), ag⟩
        ·
          refine h82 _ _ _ ?_
          refine ⟨_, K_X13_fail hT (show 0 ≤ 5 from by (first | omega | (simp only [st_s] <;> omega) | assumption | omega)) (show 5 ≤ 19 from by (first | omega | (simp only [st_s] <;> omega) | assumption | omega)) (show -1 ≤ n2 from by (first | omega | (simp only [st_s] <;> omega) | assumption | omega)) (show n2 ≤ 60000 from by (first | omega | (simp only [st_s] <;> omega) | assumption | omega)), ?_⟩
          intro τ35 hn_τ35 hf_τ35 hq
          obtain ⟨hT, q33_1, q33_2⟩ := hq
          replace q33_1 : ¬ (σ.1 20) = 0 → (τ35.1 20) = (σ.1 20) := q33_1
          replace q33_2 : (σ.1 20) = 0 → (τ35.1 20) = 5 := q33_2
          replace ag : m_ag σ τ35 := ag_r ag hf_τ35 rfl rfl
          have w3_τ35 : τ35.1 3 = σ.1 3 := hf_τ35.1 3 (by decide)
          have w5_τ35 : τ35.1 5 = σ.1 5 := hf_τ35.1 5 (by decide)
          have w6_τ35 : τ35.1 6 = σ.1 6 := hf_τ35.1 6 (by decide)
          have w7_τ35 : τ35.1 7 = σ.1 7 := hf_τ35.1 7 (by decide)
          have w8_τ35 : τ35.1 8 = σ.1 8 := hf_τ35.1 8 (by decide)
          have w9_τ35 : τ35.1 9 = σ.1 9 := hf_τ35.1 9 (by decide)
          have w22_τ35 : τ35.1 22 = σ.1 22 := hf_τ35.1 22 (by decide)
          have w25_τ35 : τ35.1 25 = σ.1 25 := hf_τ35.1 25 (by decide)
          have w26_τ35 : τ35.1 26 = σ.1 26 := hf_τ35.1 26 (by decide)
          have w28_τ35 : τ35.1 28 = σ.1 28 := hf_τ35.1 28 (by decide)
          have w29_τ35 : τ35.1 29 = σ.1 29 := hf_τ35.1 29 (by decide)
          have g18_τ35 : τ35.2.1 18 = σ.2.1 18 := hf_τ35.2.1 18 (by decide)
          have g19_τ35 : τ35.2.1 19 = σ.2.1 19 := hf_τ35.2.1 19 (by decide)
          have g25_τ35 : τ35.2.1 25 = σ.2.1 25 := hf_τ35.2.1 25 (by decide)
          have g26_τ35 : τ35.2.1 26 = σ.2.1 26 := hf_τ35.2.1 26 (by decide)
          have g28_τ35 : τ35.2.1 28 = σ.2.1 28 := hf_τ35.2.1 28 (by decide)
          have W3 : τ35.1 3 = σ.1 3 := by omega
          have W5 : τ35.1 5 = σ.1 5 := by omega
          have W6 : τ35.1 6 = σ.1 6 := by omega
          have W7 : τ35.1 7 = σ.1 7 := by omega
          have W8 : τ35.1 8 = σ.1 8 := by omega
          have W22 : τ35.1 22 = σ.1 22 := by omega
          have W25 : τ35.1 25 = σ.1 25 := by omega
          have W29 : τ35.1 29 = σ.1 29 := by omega
          have G18 : τ35.2.1 18 = σ.2.1 18 := (g18_τ35).trans G18
          have G19 : τ35.2.1 19 = σ.2.1 19 := (g19_τ35).trans G19
          have G25 : τ35.2.1 25 = σ.2.1 25 := (g25_τ35).trans G25
          have y18_22_τ35 : τ35.2.1 18 (τ35.1 22) = (σ.2.1 18) (σ.1 22) := by rw [g18_τ35, w22_τ35]
          have y19_22_τ35 : τ35.2.1 19 (τ35.1 22) = (σ.2.1 19) (σ.1 22) := by rw [g19_τ35, w22_τ35]
          have y25_22_τ35 : τ35.2.1 25 (τ35.1 22) = (σ.2.1 25) (σ.1 22) := by rw [g25_τ35, w22_τ35]
          have y26_22_τ35 : τ35.2.1 26 (τ35.1 22) = (σ.2.1 26) (σ.1 22) := by rw [g26_τ35, w22_τ35]
          have y28_9_τ35 : τ35.2.1 28 (τ35.1 9) = (σ.2.1 28) (σ.1 9) := by rw [g28_τ35, w9_τ35]
          have Z4 : τ35.2.1 25 (τ35.1 22) + τ35.2.1 26 (τ35.1 22) = (τ35.1 9) := by rw [show (τ35.2.1 25 (τ35.1 22) + τ35.2.1 26 (τ35.1 22) = (τ35.1 9)) = (σ.2.1 25 (σ.1 22) + σ.2.1 26 (σ.1 22) = (σ.1 9)) from by rw [w9_τ35, w22_τ35, g25_τ35, g26_τ35]]; exact Z4
          have Y10 : ca (τ35.2.1 28) ((τ35.1 9)) ≤ ca (τ35.2.1 28) (τ35.2.1 25 (τ35.1 22)) + (τ35.1 29) := by rw [show (ca (τ35.2.1 28) ((τ35.1 9)) ≤ ca (τ35.2.1 28) (τ35.2.1 25 (τ35.1 22)) + (τ35.1 29)) = (ca (σ.2.1 28) ((σ.1 9)) ≤ ca (σ.2.1 28) (σ.2.1 25 (σ.1 22)) + (σ.1 29)) from by rw [w9_τ35, w22_τ35, w29_τ35, g25_τ35, g28_τ35]]; exact Y10
          have Y12 : ¬ (τ35.1 28) = 0 → τ35.2.1 25 (τ35.1 22) < (τ35.1 9) ∧ τ35.2.1 28 ((τ35.1 9) - 1) = 0 := by rw [show (¬ (τ35.1 28) = 0 → τ35.2.1 25 (τ35.1 22) < (τ35.1 9) ∧ τ35.2.1 28 ((τ35.1 9) - 1) = 0) = (¬ (σ.1 28) = 0 → σ.2.1 25 (σ.1 22) < (σ.1 9) ∧ σ.2.1 28 ((σ.1 9) - 1) = 0) from by rw [w9_τ35, w22_τ35, w28_τ35, g25_τ35, g28_τ35]]; exact Y12
          have Y13 : j_eq (σ.2.1 25 (σ.1 22)) (σ.2.1 28) (τ35.2.1 28) := by rw [show (j_eq (σ.2.1 25 (σ.1 22)) (σ.2.1 28) (τ35.2.1 28)) = (j_eq (σ.2.1 25 (σ.1 22)) (σ.2.1 28) (σ.2.1 28)) from by rw [g28_τ35]]; exact Y13
          have A18 : ∀ j, 0 ≤ τ35.2.1 18 j ∧ τ35.2.1 18 j ≤ 90000 := fun j => hT.2 18 j
          have A19 : ∀ j, 0 ≤ τ35.2.1 19 j ∧ τ35.2.1 19 j ≤ 60 := fun j => hT.2 19 j
          have A25 : ∀ j, 0 ≤ τ35.2.1 25 j ∧ τ35.2.1 25 j ≤ 20000 := fun j => hT.2 25 j
          have A26 : ∀ j, 0 ≤ τ35.2.1 26 j ∧ τ35.2.1 26 j ≤ 20000 := fun j => hT.2 26 j
          have A28 : ∀ j, 0 ≤ τ35.2.1 28 j ∧ τ35.2.1 28 j ≤ 1 := fun j => hT.2 28 j
          have v3 : 0 ≤ τ35.1 3 ∧ τ35.1 3 ≤ 1000 := hT.1 3
          have v5 : 0 ≤ τ35.1 5 ∧ τ35.1 5 ≤ 1500 := hT.1 5
          have v6 : 0 ≤ τ35.1 6 ∧ τ35.1 6 ≤ 30000 := hT.1 6
          have v7 : 0 ≤ τ35.1 7 ∧ τ35.1 7 ≤ 90000 := hT.1 7
          have v8 : 0 ≤ τ35.1 8 ∧ τ35.1 8 ≤ 20000 := hT.1 8
          have v9 : 0 ≤ τ35.1 9 ∧ τ35.1 9 ≤ 20000 := hT.1 9
          have v20 : 0 ≤ τ35.1 20 ∧ τ35.1 20 ≤ 19 := hT.1 20
          have v22 : 0 ≤ τ35.1 22 ∧ τ35.1 22 ≤ 1499 := hT.1 22
          have v25 : 0 ≤ τ35.1 25 ∧ τ35.1 25 ≤ 300 := hT.1 25
          have v26 : 0 ≤ τ35.1 26 ∧ τ35.1 26 ≤ 5000010 := hT.1 26
          have v28 : 0 ≤ τ35.1 28 ∧ τ35.1 28 ≤ 1 := hT.1 28
          have v29 : 0 ≤ τ35.1 29 ∧ τ35.1 29 ≤ 300 := hT.1 29
          have a18_22 : 0 ≤ τ35.2.1 18 (τ35.1 22) ∧ τ35.2.1 18 (τ35.1 22) ≤ 90000 := hT.2 18 _
          have a19_22 : 0 ≤ τ35.2.1 19 (τ35.1 22) ∧ τ35.2.1 19 (τ35.1 22) ≤ 60 := hT.2 19 _
          have a25_22 : 0 ≤ τ35.2.1 25 (τ35.1 22) ∧ τ35.2.1 25 (τ35.1 22) ≤ 20000 := hT.2 25 _
          have a26_22 : 0 ≤ τ35.2.1 26 (τ35.1 22) ∧ τ35.2.1 26 (τ35.1 22) ≤ 20000 := hT.2 26 _
          have a28_9 : 0 ≤ τ35.2.1 28 (τ35.1 9) ∧ τ35.2.1 28 (τ35.1 9) ≤ 1 := hT.2 28 _
          have av9 : σ.1 9 ≤ τ35.1 9 := ag.1 9 (by decide)
          refine h196 _ ?_
          replace ag := ag_v (i := 26) (x := 0) ag (Or.inl rfl)
          replace hT := mT_v (i := 26) hT (show (0 : Int) ≤ 0 ∧ 0 ≤ 5000010 from by (first | omega | (simp only [st_s] <;> omega) | assumption | omega))
          replace ag := ag_v (i := 27) (x := 0) ag (Or.inl rfl)
          replace hT := mT_v (i := 27) hT (show (0 : Int) ≤ 0 ∧ 0 ≤ 1 from by (first | omega | (simp only [st_s] <;> omega) | assumption | omega))
          exact ⟨hT, (show ¬ (σ.1 20) = 0 → (τ35.1 20) = (σ.1 20) from by (first | omega | (simp only [st_s] <;> omega) | assumption | omega)), (show τ35.2.1 25 (τ35.1 22) + τ35.2.1 26 (τ35.1 22) = (τ35.1 9) from Z4), (show ca (τ35.2.1 28) ((τ35.1 9)) ≤ ca (τ35.2.1 28) (τ35.2.1 25 (τ35.1 22)) + (τ35.1 29) from Y10), (show ¬ (τ35.1 28) = 0 → τ35.2.1 25 (τ35.1 22) < (τ35.1 9) ∧ τ35.2.1 28 ((τ35.1 9) - 1) = 0 from Y12), (show j_eq (σ.2.1 25 (σ.1 22)) (σ.2.1 28) (τ35.2.1 28) from Y13), (show ((0 : Int)) = 0 from by (first | omega | (simp only [st_s] <;> omega) | assumption | omega)), ag⟩
    ·
      refine ⟨_, K_X13_fail hT (show 0 ≤ 5 from by (first | omega | (simp only [st_s] <;> omega) | assumption | omega)) (show 5 ≤ 19 from by (first | omega | (simp only [st_s] <;> omega) | assumption | omega)) (show -1 ≤ n2 from by (first | omega | (simp only [st_s] <;> omega) | assumption | omega)) (show n2 ≤ 60000 from by (first | omega | (simp only [st_s] <;> omega) | assumption | omega)), ?_⟩
      intro τ25 hn_τ25 hf_τ25 hq
      obtain ⟨hT, q23_1, q23_2⟩ := hq
      replace q23_1 : ¬ (σ.1 20) = 0 → (τ25.1 20) = (σ.1 20) := q23_1
      replace q23_2 : (σ.1 20) = 0 → (τ25.1 20) = 5 := q23_2
      replace ag : m_ag σ τ25 := ag_r ag hf_τ25 rfl rfl
      have w3_τ25 : τ25.1 3 = σ.1 3 := hf_τ25.1 3 (by decide)
      have w5_τ25 : τ25.1 5 = σ.1 5 := hf_τ25.1 5 (by decide)
      have w6_τ25 : τ25.1 6 = σ.1 6 := hf_τ25.1 6 (by decide)
      have w7_τ25 : τ25.1 7 = σ.1 7 := hf_τ25.1 7 (by decide)
      have w8_τ25 : τ25.1 8 = σ.1 8 := hf_τ25.1 8 (by decide)
      have w9_τ25 : τ25.1 9 = σ.1 9 := hf_τ25.1 9 (by decide)
      have w22_τ25 : τ25.1 22 = σ.1 22 := hf_τ25.1 22 (by decide)
      have w25_τ25 : τ25.1 25 = σ.1 25 := hf_τ25.1 25 (by decide)
      have w26_τ25 : τ25.1 26 = σ.1 26 := hf_τ25.1 26 (by decide)
      have w28_τ25 : τ25.1 28 = σ.1 28 := hf_τ25.1 28 (by decide)
      have w29_τ25 : τ25.1 29 = σ.1 29 := hf_τ25.1 29 (by decide)
      have g18_τ25 : τ25.2.1 18 = σ.2.1 18 := hf_τ25.2.1 18 (by decide)
      have g19_τ25 : τ25.2.1 19 = σ.2.1 19 := hf_τ25.2.1 19 (by decide)
      have g25_τ25 : τ25.2.1 25 = σ.2.1 25 := hf_τ25.2.1 25 (by decide)
      have g26_τ25 : τ25.2.1 26 = σ.2.1 26 := hf_τ25.2.1 26 (by decide)
      have g28_τ25 : τ25.2.1 28 = σ.2.1 28 := hf_τ25.2.1 28 (by decide)
      have W3 : τ25.1 3 = σ.1 3 := by omega
      have W5 : τ25.1 5 = σ.1 5 := by omega
      have W6 : τ25.1 6 = σ.1 6 := by omega
      have W7 : τ25.1 7 = σ.1 7 := by omega
      have W8 : τ25.1 8 = σ.1 8 := by omega
      have W22 : τ25.1 22 = σ.1 22 := by omega
      have W25 : τ25.1 25 = σ.1 25 := by omega
      have W29 : τ25.1 29 = σ.1 29 := by omega
      have G18 : τ25.2.1 18 = σ.2.1 18 := (g18_τ25).trans G18
      have G19 : τ25.2.1 19 = σ.2.1 19 := (g19_τ25).trans G19
      have G25 : τ25.2.1 25 = σ.2.1 25 := (g25_τ25).trans G25
      have y18_22_τ25 : τ25.2.1 18 (τ25.1 22) = (σ.2.1 18) (σ.1 22) := by rw [g18_τ25, w22_τ25]
      have y19_22_τ25 : τ25.2.1 19 (τ25.1 22) = (σ.2.1 19) (σ.1 22) := by rw [g19_τ25, w22_τ25]
      have y25_22_τ25 : τ25.2.1 25 (τ25.1 22) = (σ.2.1 25) (σ.1 22) := by rw [g25_τ25, w22_τ25]
      have y26_22_τ25 : τ25.2.1 26 (τ25.1 22) = (σ.2.1 26) (σ.1 22) := by rw [g26_τ25, w22_τ25]
      have y28_9_τ25 : τ25.2.1 28 (τ25.1 9) = (σ.2.1 28) (σ.1 9) := by rw [g28_τ25, w9_τ25]
      have Z4 : τ25.2.1 25 (τ25.1 22) + τ25.2.1 26 (τ25.1 22) = (τ25.1 9) := by rw [show (τ25.2.1 25 (τ25.1 22) + τ25.2.1 26 (τ25.1 22) = (τ25.1 9)) = (σ.2.1 25 (σ.1 22) + σ.2.1 26 (σ.1 22) = (σ.1 9)) from by rw [w9_τ25, w22_τ25, g25_τ25, g26_τ25]]; exact Z4
      have Y10 : ca (τ25.2.1 28) ((τ25.1 9)) ≤ ca (τ25.2.1 28) (τ25.2.1 25 (τ25.1 22)) + (τ25.1 29) := by rw [show (ca (τ25.2.1 28) ((τ25.1 9)) ≤ ca (τ25.2.1 28) (τ25.2.1 25 (τ25.1 22)) + (τ25.1 29)) = (ca (σ.2.1 28) ((σ.1 9)) ≤ ca (σ.2.1 28) (σ.2.1 25 (σ.1 22)) + (σ.1 29)) from by rw [w9_τ25, w22_τ25, w29_τ25, g25_τ25, g28_τ25]]; exact Y10
      have Y12 : ¬ (τ25.1 28) = 0 → τ25.2.1 25 (τ25.1 22) < (τ25.1 9) ∧ τ25.2.1 28 ((τ25.1 9) - 1) = 0 := by rw [show (¬ (τ25.1 28) = 0 → τ25.2.1 25 (τ25.1 22) < (τ25.1 9) ∧ τ25.2.1 28 ((τ25.1 9) - 1) = 0) = (¬ (σ.1 28) = 0 → σ.2.1 25 (σ.1 22) < (σ.1 9) ∧ σ.2.1 28 ((σ.1 9) - 1) = 0) from by rw [w9_τ25, w22_τ25, w28_τ25, g25_τ25, g28_τ25]]; exact Y12
      have Y13 : j_eq (σ.2.1 25 (σ.1 22)) (σ.2.1 28) (τ25.2.1 28) := by rw [show (j_eq (σ.2.1 25 (σ.1 22)) (σ.2.1 28) (τ25.2.1 28)) = (j_eq (σ.2.1 25 (σ.1 22)) (σ.2.1 28) (σ.2.1 28)) from by rw [g28_τ25]]; exact Y13
      have A18 : ∀ j, 0 ≤ τ25.2.1 18 j ∧ τ25.2.1 18 j ≤ 90000 := fun j => hT.2 18 j
      have A19 : ∀ j, 0 ≤ τ25.2.1 19 j ∧ τ25.2.1 19 j ≤ 60 := fun j => hT.2 19 j
      have A25 : ∀ j, 0 ≤ τ25.2.1 25 j ∧ τ25.2.1 25 j ≤ 20000 := fun j => hT.2 25 j
      have A26 : ∀ j, 0 ≤ τ25.2.1 26 j ∧ τ25.2.1 26 j ≤ 20000 := fun j => hT.2 26 j
      have A28 : ∀ j, 0 ≤ τ25.2.1 28 j ∧ τ25.2.1 28 j ≤ 1 := fun j => hT.2 28 j
      have v3 : 0 ≤ τ25.1 3 ∧ τ25.1 3 ≤ 1000 := hT.1 3
      have v5 : 0 ≤ τ25.1 5 ∧ τ25.1 5 ≤ 1500 := hT.1 5
      have v6 : 0 ≤ τ25.1 6 ∧ τ25.1 6 ≤ 30000 := hT.1 6
      have v7 : 0 ≤ τ25.1 7 ∧ τ25.1 7 ≤ 90000 := hT.1 7
      have v8 : 0 ≤ τ25.1 8 ∧ τ25.1 8 ≤ 20000 := hT.1 8
      have v9 : 0 ≤ τ25.1 9 ∧ τ25.1 9 ≤ 20000 := hT.1 9
      have v20 : 0 ≤ τ25.1 20 ∧ τ25.1 20 ≤ 19 := hT.1 20
      have v22 : 0 ≤ τ25.1 22 ∧ τ25.1 22 ≤ 1499 := hT.1 22
      have v25 : 0 ≤ τ25.1 25 ∧ τ25.1 25 ≤ 300 := hT.1 25
      have v26 : 0 ≤ τ25.1 26 ∧ τ25.1 26 ≤ 5000010 := hT.1 26
      have v28 : 0 ≤ τ25.1 28 ∧ τ25.1 28 ≤ 1 := hT.1 28
      have v29 : 0 ≤ τ25.1 29 ∧ τ25.1 29 ≤ 300 := hT.1 29
      have a18_22 : 0 ≤ τ25.2.1 18 (τ25.1 22) ∧ τ25.2.1 18 (τ25.1 22) ≤ 90000 := hT.2 18 _
      have a19_22 : 0 ≤ τ25.2.1 19 (τ25.1 22) ∧ τ25.2.1 19 (τ25.1 22) ≤ 60 := hT.2 19 _
      have a25_22 : 0 ≤ τ25.2.1 25 (τ25.1 22) ∧ τ25.2.1 25 (τ25.1 22) ≤ 20000 := hT.2 25 _
      have a26_22 : 0 ≤ τ25.2.1 26 (τ25.1 22) ∧ τ25.2.1 26 (τ25.1 22) ≤ 20000 := hT.2 26 _
      have a28_9 : 0 ≤ τ25.2.1 28 (τ25.1 9) ∧ τ25.2.1 28 (τ25.1 9) ≤ 1 := hT.2 28 _
      have av9 : σ.1 9 ≤ τ25.1 9 := ag.1 9 (by decide)
      refine h196 _ ?_
      replace ag := ag_v (i := 26) (x := 0) ag (Or.inl rfl)
      replace hT := mT_v (i := 26) hT (show (0 : Int) ≤ 0 ∧ 0 ≤ 5000010 from by (first | omega | (simp only [st_s] <;> omega) | assumption | omega))
      replace ag := ag_v (i := 27) (x := 0) ag (Or.inl rfl)
      replace hT := mT_v (i := 27) hT (show (0 : Int) ≤ 0 ∧ 0 ≤ 1 from by (first | omega | (simp only [st_s] <;> omega) | assumption | omega))
      exact ⟨hT, (show ¬ (σ.1 20) = 0 → (τ25.1 20) = (σ.1 20) from by (first | omega | (simp only [st_s] <;> omega) | assumption | omega)), (show τ25.2.1 25 (τ25.1 22) + τ25.2.1 26 (τ25.1 22) = (τ25.1 9) from Z4), (show ca (τ25.2.1 28) ((τ25.1 9)) ≤ ca (τ25.2.1 28) (τ25.2.1 25 (τ25.1 22)) + (τ25.1 29) from Y10), (show ¬ (τ25.1 28) = 0 → τ25.2.1 25 (τ25.1 22) < (τ25.1 9) ∧ τ25.2.1 28 ((τ25.1 9) - 1) = 0 from Y12), (show j_eq (σ.2.1 25 (σ.1 22)) (σ.2.1 28) (τ25.2.1 28) from Y13), (show ((0 : Int)) = 0 from by (first | omega | (simp only [st_s] <;> omega) | assumption | omega)), ag⟩
  ·
    refine h31 _ _ _ _ _ _ ?_
    refine ⟨fun c6 => ?_, fun c6 => ?_⟩
    ·
      refine ⟨(⟨by (first | omega | (simp only [st_s] <;> omega) | assumption | omega), by (first | omega | (simp only [st_s] <;> omega) | assumption | omega)⟩ : rg ((x2 + σ.1 25) + σ.1 29)), ?_⟩
      refine ⟨fun c8 => ?_, fun c8 => ?_⟩
      ·
        refine ⟨fun c9 => ?_, fun c9 => ?_⟩
        ·
          refine ⟨fun c10 => ?_, fun c10 => ?_⟩
          ·
            refine ⟨fun c11 => ?_, fun c11 => ?_⟩
            ·
              refine ⟨(show 0 ≤ ((n1 - 1) - x2) ∧ ((n1 - 1) - x2) < 300 from by (first | omega | (simp only [st_s] <;> omega) | assumption | omega)), ?_⟩
              intro x13 r_x13 e_x13
              have b_x13 : 0 ≤ x13 ∧ x13 ≤ 1499 := by rw [e_x13]; exact hT.2 39 _
              refine h162 _ _ _ _ ?_
              refine ⟨_, K_X13_addStep hT (show -300 ≤ x13 from by (first | omega | (simp only [st_s] <;> omega) | assumption | omega)) (show x13 ≤ 1499 from by (first | omega | (simp only [st_s] <;> omega) | assumption | omega)) (show 0 ≤ n2 from by (first | omega | (simp only [st_s] <;> omega) | assumption | omega)) (show n2 ≤ 60000 from by (first | omega | (simp only [st_s] <;> omega) | assumption | omega)) (show (σ.1 9) < 20000 from by (first | omega | (simp only [st_s] <;> omega) | assumption | omega)) (show σ.2.1 26 (σ.1 22) < 20000 from by (first | omega | (simp only [st_s] <;> omega) | assumption | omega)) (show (σ.1 22) = (σ.1 5) from by (first | omega | (simp only [st_s] <;> omega) | assumption | omega)), ?_⟩
              intro τ28 hn_τ28 hf_τ28 hq
              obtain ⟨hT, q26_1, q26_2, q26_3, q26_4, q26_5, q26_6, q26_7⟩ := hq
              replace q26_1 : (τ28.1 9) = (σ.1 9) + 1 := q26_1
              replace q26_2 : τ28.2.1 26 (τ28.1 22) = σ.2.1 26 (σ.1 22) + 1 := q26_2
              replace q26_3 : τ28.2.1 27 = st (σ.2.1 27) (σ.1 9) x13 := q26_3
              replace q26_4 : j_eq ((σ.1 9)) (σ.2.1 28) (τ28.2.1 28) := q26_4
              replace q26_5 : ca (τ28.2.1 28) ((τ28.1 9)) = ca (σ.2.1 28) ((σ.1 9)) := q26_5
              replace q26_6 : τ28.2.1 28 (σ.1 9) = 0 := q26_6
              replace q26_7 : m_ag σ τ28 := q26_7
              replace ag : m_ag σ τ28 := ag_t ag q26_7 rfl
              have w3_τ28 : τ28.1 3 = σ.1 3 := hf_τ28.1 3 (by decide)
              have w5_τ28 : τ28.1 5 = σ.1 5 := hf_τ28.1 5 (by decide)
              have w6_τ28 : τ28.1 6 = σ.1 6 := hf_τ28.1 6 (by decide)
              have w7_τ28 : τ28.1 7 = σ.1 7 := hf_τ28.1 7 (by decide)
              have w8_τ28 : τ28.1 8 = σ.1 8 := hf_τ28.1 8 (by decide)
              have w20_τ28 : τ28.1 20 = σ.1 20 := hf_τ28.1 20 (by decide)
              have w22_τ28 : τ28.1 22 = σ.1 22 := hf_τ28.1 22 (by decide)
              have w25_τ28 : τ28.1 25 = σ.1 25 := hf_τ28.1 25 (by decide)
              have w26_τ28 : τ28.1 26 = σ.1 26 := hf_τ28.1 26 (by decide)
              have w28_τ28 : τ28.1 28 = σ.1 28 := hf_τ28.1 28 (by decide)
              have w29_τ28 : τ28.1 29 = σ.1 29 := hf_τ28.1 29 (by decide)
              have g18_τ28 : τ28.2.1 18 = σ.2.1 18 := hf_τ28.2.1 18 (by decide)
              have g19_τ28 : τ28.2.1 19 = σ.2.1 19 := hf_τ28.2.1 19 (by decide)
              have g25_τ28 : τ28.2.1 25 = σ.2.1 25 := hf_τ28.2.1 25 (by decide)
              have W3 : τ28.1 3 = σ.1 3 := by omega
              have W5 : τ28.1 5 = σ.1 5 := by omega
              have W6 : τ28.1 6 = σ.1 6 := by omega
              have W7 : τ28.1 7 = σ.1 7 := by omega
              have W8 : τ28.1 8 = σ.1 8 := by omega
              have W22 : τ28.1 22 = σ.1 22 := by omega
              have W25 : τ28.1 25 = σ.1 25 := by omega
              have W29 : τ28.1 29 = σ.1 29 := by omega
              have G18 : τ28.2.1 18 = σ.2.1 18 := (g18_τ28).trans G18
              have G19 : τ28.2.1 19 = σ.2.1 19 := (g19_τ28).trans G19
              have G25 : τ28.2.1 25 = σ.2.1 25 := (g25_τ28).trans G25
              have y18_22_τ28 : τ28.2.1 18 (τ28.1 22) = (σ.2.1 18) (σ.1 22) := by rw [g18_τ28, w22_τ28]
              have y19_22_τ28 : τ28.2.1 19 (τ28.1 22) = (σ.2.1 19) (σ.1 22) := by rw [g19_τ28, w22_τ28]
              have y25_22_τ28 : τ28.2.1 25 (τ28.1 22) = (σ.2.1 25) (σ.1 22) := by rw [g25_τ28, w22_τ28]
              have A18 : ∀ j, 0 ≤ τ28.2.1 18 j ∧ τ28.2.1 18 j ≤ 90000 := fun j => hT.2 18 j
              have A19 : ∀ j, 0 ≤ τ28.2.1 19 j ∧ τ28.2.1 19 j ≤ 60 := fun j => hT.2 19 j
              have A25 : ∀ j, 0 ≤ τ28.2.1 25 j ∧ τ28.2.1 25 j ≤ 20000 := fun j => hT.2 25 j
              have A26 : ∀ j, 0 ≤ τ28.2.1 26 j ∧ τ28.2.1 26 j ≤ 20000 := fun j => hT.2 26 j
              have A28 : ∀ j, 0 ≤ τ28.2.1 28 j ∧ τ28.2.1 28 j ≤ 1 := fun j => hT.2 28 j
              have v3 : 0 ≤ τ28.1 3 ∧ τ28.1 3 ≤ 1000 := hT.1 3
              have v5 : 0 ≤ τ28.1 5 ∧ τ28.1 5 ≤ 1500 := hT.1 5
              have v6 : 0 ≤ τ28.1 6 ∧ τ28.1 6 ≤ 30000 := hT.1 6
              have v7 : 0 ≤ τ28.1 7 ∧ τ28.1 7 ≤ 90000 := hT.1 7
              have v8 : 0 ≤ τ28.1 8 ∧ τ28.1 8 ≤ 20000 := hT.1 8
              have v9 : 0 ≤ τ28.1 9 ∧ τ28.1 9 ≤ 20000 := hT.1 9
              have v20 : 0 ≤ τ28.1 20 ∧ τ28.1 20 ≤ 19 := hT.1 20
              have v22 : 0 ≤ τ28.1 22 ∧ τ28.1 22 ≤ 1499 := hT.1 22
              have v25 : 0 ≤ τ28.1 25 ∧ τ28.1 25 ≤ 300 := hT.1 25
              have v26 : 0 ≤ τ28.1 26 ∧ τ28.1 26 ≤ 5000010 := hT.1 26
              have v28 : 0 ≤ τ28.1 28 ∧ τ28.1 28 ≤ 1 := hT.1 28
              have v29 : 0 ≤ τ28.1 29 ∧ τ28.1 29 ≤ 300 := hT.1 29
              have a18_22 : 0 ≤ τ28.2.1 18 (τ28.1 22) ∧ τ28.2.1 18 (τ28.1 22) ≤ 90000 := hT.2 18 _
              have a19_22 : 0 ≤ τ28.2.1 19 (τ28.1 22) ∧ τ28.2.1 19 (τ28.1 22) ≤ 60 := hT.2 19 _
              have a25_22 : 0 ≤ τ28.2.1 25 (τ28.1 22) ∧ τ28.2.1 25 (τ28.1 22) ≤ 20000 := hT.2 25 _
              have a26_22 : 0 ≤ τ28.2.1 26 (τ28.1 22) ∧ τ28.2.1 26 (τ28.1 22) ≤ 20000 := hT.2 26 _
              have a28_9 : 0 ≤ τ28.2.1 28 (τ28.1 9) ∧ τ28.2.1 28 (τ28.1 9) ≤ 1 := hT.2 28 _
              have av9 : σ.1 9 ≤ τ28.1 9 := ag.1 9 (by decide)
              have hz : τ28.2.1 28 (τ28.1 9 - 1) = 0 := by rw [show τ28.1 9 - 1 = σ.1 9 from by omega]; exact q26_6
              have Z4 : τ28.2.1 25 (τ28.1 22) + τ28.2.1 26 (τ28.1 22) = τ28.1 9 := by omega
              have ce := ca_eq q26_4 (n := σ.2.1 25 (σ.1 22)) (by omega)
              have Y10 : ca (τ28.2.1 28) (τ28.1 9) ≤ ca (τ28.2.1 28) (τ28.2.1 25 (τ28.1 22)) + τ28.1 29 := by rw [y25_22_τ28, ce, q26_5]; omega
              have Y12 : ¬ τ28.1 28 = 0 → τ28.2.1 25 (τ28.1 22) < τ28.1 9 ∧ τ28.2.1 28 (τ28.1 9 - 1) = 0 := fun _ => ⟨by omega, hz⟩
              have Y13 := j_eqw q26_4 (show σ.2.1 25 (σ.1 22) ≤ σ.1 9 from by omega)
              refine ⟨fun c29 => ?_, fun c29 => ?_⟩
              ·
                refine h193 _ _ ?_
                refine ⟨(show 0 ≤ 0 ∧ 0 ≤ 1 from by (first | omega | (simp only [st_s] <;> omega) | assumption | omega)), ?_⟩
                replace ag := ag_v (i := 28) (x := 0) ag (Or.inl rfl)
                replace hT := mT_v (i := 28) hT (show (0 : Int) ≤ 0 ∧ 0 ≤ 1 from by (first | omega | (simp only [st_s] <;> omega) | assumption | omega))
                obtain ⟨τ_196, e_τ_196⟩ : ∃ z : S0, z = s_v τ28 28 0 := ⟨_, rfl⟩
                rw [← e_τ_196]
                replace hT : m_T τ_196 := by rw [e_τ_196]; exact hT
                replace ag : m_ag σ τ_196 := by rw [e_τ_196]; exact ag
                have w3_τ_196 : τ_196.1 3 = τ28.1 3 := by rw [e_τ_196]; rfl
                have w5_τ_196 : τ_196.1 5 = τ28.1 5 := by rw [e_τ_196]; rfl
                have w6_τ_196 : τ_196.1 6 = τ28.1 6 := by rw [e_τ_196]; rfl
                have w7_τ_196 : τ_196.1 7 = τ28.1 7 := by rw [e_τ_196]; rfl
                have w8_τ_196 : τ_196.1 8 = τ28.1 8 := by rw [e_τ_196]; rfl
                have w9_τ_196 : τ_196.1 9 = τ28.1 9 := by rw [e_τ_196]; rfl
                have w20_τ_196 : τ_196.1 20 = τ28.1 20 := by rw [e_τ_196]; rfl
                have w22_τ_196 : τ_196.1 22 = τ28.1 22 := by rw [e_τ_196]; rfl
                have w25_τ_196 : τ_196.1 25 = τ28.1 25 := by rw [e_τ_196]; rfl
                have w26_τ_196 : τ_196.1 26 = τ28.1 26 := by rw [e_τ_196]; rfl
                have w28_τ_196 : τ_196.1 28 = 0 := by rw [e_τ_196]; rfl
                have w29_τ_196 : τ_196.1 29 = τ28.1 29 := by rw [e_τ_196]; rfl
                have g18_τ_196 : τ_196.2.1 18 = τ28.2.1 18 := by rw [e_τ_196]; rfl
                have g19_τ_196 : τ_196.2.1 19 = τ28.2.1 19 := by rw [e_τ_196]; rfl
                have g25_τ_196 : τ_196.2.1 25 = τ28.2.1 25 := by rw [e_τ_196]; rfl
                have g26_τ_196 : τ_196.2.1 26 = τ28.2.1 26 := by rw [e_τ_196]; rfl
                have g28_τ_196 : τ_196.2.1 28 = τ28.2.1 28 := by rw [e_τ_196]; rfl
                have W3 : τ_196.1 3 = σ.1 3 := by omega
                have W5 : τ_196.1 5 = σ.1 5 := by omega
                have W6 : τ_196.1 6 = σ.1 6 := by omega
                have W7 : τ_196.1 7 = σ.1 7 := by omega
                have W8 : τ_196.1 8 = σ.1 8 := by omega
                have W22 : τ_196.1 22 = σ.1 22 := by omega
                have W25 : τ_196.1 25 = σ.1 25 := by omega
                have W29 : τ_196.1 29 = σ.1 29 := by omega
                have G18 : τ_196.2.1 18 = σ.2.1 18 := (g18_τ_196).trans G18
                have G19 : τ_196.2.1 19 = σ.2.1 19 := (g19_τ_196).trans G19
                have G25 : τ_196.2.1 25 = σ.2.1 25 := (g25_τ_196).trans G25
                have y18_22_τ_196 : τ_196.2.1 18 (τ_196.1 22) = (τ28.2.1 18) (τ28.1 22) := by rw [g18_τ_196, w22_τ_196]
                have y19_22_τ_196 : τ_196.2.1 19 (τ_196.1 22) = (τ28.2.1 19) (τ28.1 22) := by rw [g19_τ_196, w22_τ_196]
                have y25_22_τ_196 : τ_196.2.1 25 (τ_196.1 22) = (τ28.2.1 25) (τ28.1 22) := by rw [g25_τ_196, w22_τ_196]
                have y26_22_τ_196 : τ_196.2.1 26 (τ_196.1 22) = (τ28.2.1 26) (τ28.1 22) := by rw [g26_τ_196, w22_τ_196]
                have y28_9_τ_196 : τ_196.2.1 28 (τ_196.1 9) = (τ28.2.1 28) (τ28.1 9) := by rw [g28_τ_196, w9_τ_196]
                have Z4 : τ_196.2.1 25 (τ_196.1 22) + τ_196.2.1 26 (τ_196.1 22) = (τ_196.1 9) := by rw [show (τ_196.2.1 25 (τ_196.1 22) + τ_196.2.1 26 (τ_196.1 22) = (τ_196.1 9)) = (τ28.2.1 25 (τ28.1 22) + τ28.2.1 26 (τ28.1 22) = (τ28.1 9)) from by rw [w9_τ_196, w22_τ_196, g25_τ_196, g26_τ_196]]; exact Z4
                have Y10 : ca (τ_196.2.1 28) ((τ_196.1 9)) ≤ ca (τ_196.2.1 28) (τ_196.2.1 25 (τ_196.1 22)) + (τ_196.1 29) := by rw [show (ca (τ_196.2.1 28) ((τ_196.1 9)) ≤ ca (τ_196.2.1 28) (τ_196.2.1 25 (τ_196.1 22)) + (τ_196.1 29)) = (ca (τ28.2.1 28) ((τ28.1 9)) ≤ ca (τ28.2.1 28) (τ28.2.1 25 (τ28.1 22)) + (τ28.1 29)) from by rw [w9_τ_196, w22_τ_196, w29_τ_196, g25_τ_196, g28_τ_196]]; exact Y10
                have Y13 : j_eq (σ.2.1 25 (σ.1 22)) (σ.2.1 28) (τ_196.2.1 28) := by rw [show (j_eq (σ.2.1 25 (σ.1 22)) (σ.2.1 28) (τ_196.2.1 28)) = (j_eq (σ.2.1 25 (σ.1 22)) (σ.2.1 28) (τ28.2.1 28)) from by rw [g28_τ_196]]; exact Y13
                have A18 : ∀ j, 0 ≤ τ_196.2.1 18 j ∧ τ_196.2.1 18 j ≤ 90000 := fun j => hT.2 18 j
                have A19 : ∀ j, 0 ≤ τ_196.2.1 19 j ∧ τ_196.2.1 19 j ≤ 60 := fun j => hT.2 19 j
                have A25 : ∀ j, 0 ≤ τ_196.2.1 25 j ∧ τ_196.2.1 25 j ≤ 20000 := fun j => hT.2 25 j
                have A26 : ∀ j, 0 ≤ τ_196.2.1 26 j ∧ τ_196.2.1 26 j ≤ 20000 := fun j => hT.2 26 j
                have A28 : ∀ j, 0 ≤ τ_196.2.1 28 j ∧ τ_196.2.1 28 j ≤ 1 := fun j => hT.2 28 j
                have v3 : 0 ≤ τ_196.1 3 ∧ τ_196.1 3 ≤ 1000 := hT.1 3
                have v5 : 0 ≤ τ_196.1 5 ∧ τ_196.1 5 ≤ 1500 := hT.1 5
                have v6 : 0 ≤ τ_196.1 6 ∧ τ_196.1 6 ≤ 30000 := hT.1 6
                have v7 : 0 ≤ τ_196.1 7 ∧ τ_196.1 7 ≤ 90000 := hT.1 7
                have v8 : 0 ≤ τ_196.1 8 ∧ τ_196.1 8 ≤ 20000 := hT.1 8
                have v9 : 0 ≤ τ_196.1 9 ∧ τ_196.1 9 ≤ 20000 := hT.1 9
                have v20 : 0 ≤ τ_196.1 20 ∧ τ_196.1 20 ≤ 19 := hT.1 20
                have v22 : 0 ≤ τ_196.1 22 ∧ τ_196.1 22 ≤ 1499 := hT.1 22
                have v25 : 0 ≤ τ_196.1 25 ∧ τ_196.1 25 ≤ 300 := hT.1 25
                have v26 : 0 ≤ τ_196.1 26 ∧ τ_196.1 26 ≤ 5000010 := hT.1 26
                have v28 : 0 ≤ τ_196.1 28 ∧ τ_196.1 28 ≤ 1 := hT.1 28
                have v29 : 0 ≤ τ_196.1 29 ∧ τ_196.1 29 ≤ 300 := hT.1 29
                have a18_22 : 0 ≤ τ_196.2.1 18 (τ_196.1 22) ∧ τ_196.2.1 18 (τ_196.1 22) ≤ 90000 := hT.2 18 _
                have a19_22 : 0 ≤ τ_196.2.1 19 (τ_196.1 22) ∧ τ_196.2.1 19 (τ_196.1 22) ≤ 60 := hT.2 19 _
                have a25_22 : 0 ≤ τ_196.2.1 25 (τ_196.1 22) ∧ τ_196.2.1 25 (τ_196.1 22) ≤ 20000 := hT.2 25 _
                have a26_22 : 0 ≤ τ_196.2.1 26 (τ_196.1 22) ∧ τ_196.2.1 26 (τ_196.1 22) ≤ 20000 := hT.2 26 _
                have a28_9 : 0 ≤ τ_196.2.1 28 (τ_196.1 9) ∧ τ_196.2.1 28 (τ_196.1 9) ≤ 1 := hT.2 28 _
                have av9 : σ.1 9 ≤ τ_196.1 9 := ag.1 9 (by decide)
                refine h196 _ ?_
                replace ag := ag_v (i := 26) (x := 0) ag (Or.inl rfl)
                replace hT := mT_v (i := 26) hT (show (0 : Int) ≤ 0 ∧ 0 ≤ 5000010 from by (first | omega | (simp only [st_s] <;> omega) | assumption | omega))
                replace ag := ag_v (i := 27) (x := 0) ag (Or.inl rfl)
                replace hT := mT_v (i := 27) hT (show (0 : Int) ≤ 0 ∧ 0 ≤ 1 from by (first | omega | (simp only [st_s] <;> omega) | assumption | omega))
                exact ⟨hT, (show ¬ (σ.1 20) = 0 → (τ_196.1 20) = (σ.1 20) from by (first | omega | (simp only [st_s] <;> omega) | assumption | omega)), (show τ_196.2.1 25 (τ_196.1 22) + τ_196.2.1 26 (τ_196.1 22) = (τ_196.1 9) from Z4), (show ca (τ_196.2.1 28) ((τ_196.1 9)) ≤ ca (τ_196.2.1 28) (τ_196.2.1 25 (τ_196.1 22)) + (τ_196.1 29) from Y10), (show ¬ (τ_196.1 28) = 0 → τ_196.2.1 25 (τ_196.1 22) < (τ_196.1 9) ∧ τ_196.2.1 28 ((τ_196.1 9) - 1) = 0 from by (first | assumption | omega | (intro _; refine ⟨by omega, ?_⟩; first | exact hz | (rw [e_τ_196]; exact hz)))), (show j_eq (σ.2.1 25 (σ.1 22)) (σ.2.1 28) (τ_196.2.1 28) from Y13), (show ((0 : Int)) = 0 from by (first | omega | (simp only [st_s] <;> omega) | assumption | omega)), ag⟩
              ·
                refine ⟨(show 0 ≤ x13 ∧ x13 < 1501 from by (first | omega | (simp only [st_s] <;> omega) | assumption | omega)), ?_⟩
                intro x31 r_x31 e_x31
                have b_x31 : 0 ≤ x31 ∧ x31 ≤ 4 := by rw [e_x31]; exact hT.2 13 _
                refine ⟨fun c32 => ?_, fun c32 => ?_⟩
                ·
                  refine h193 _ _ ?_
                  refine ⟨(show 0 ≤ 0 ∧ 0 ≤ 1 from by (first | omega | (simp only [st_s] <;> omega) | assumption | omega)), ?_⟩
                  replace ag := ag_v (i := 28) (x := 0) ag (Or.inl rfl)
                  replace hT := mT_v (i := 28) hT (show (0 : Int) ≤ 0 ∧ 0 ≤ 1 from by (first | omega | (simp only [st_s] <;> omega) | assumption | omega))
                  obtain ⟨τ_196, e_τ_196⟩ : ∃ z : S0, z = s_v τ28 28 0 := ⟨_, rfl⟩
                  rw [← e_τ_196]
                  replace hT : m_T τ_196 := by rw [e_τ_196]; exact hT
                  replace ag : m_ag σ τ_196 := by rw [e_τ_196]; exact ag
                  have w3_τ_196 : τ_196.1 3 = τ28.1 3 := by rw [e_τ_196]; rfl
                  have w5_τ_196 : τ_196.1 5 = τ28.1 5 := by rw [e_τ_196]; rfl
                  have w6_τ_196 : τ_196.1 6 = τ28.1 6 := by rw [e_τ_196]; rfl
                  have w7_τ_196 : τ_196.1 7 = τ28.1 7 := by rw [e_τ_196]; rfl
                  have w8_τ_196 : τ_196.1 8 = τ28.1 8 := by rw [e_τ_196]; rfl
                  have w9_τ_196 : τ_196.1 9 = τ28.1 9 := by rw [e_τ_196]; rfl
                  have w20_τ_196 : τ_196.1 20 = τ28.1 20 := by rw [e_τ_196]; rfl
                  have w22_τ_196 : τ_196.1 22 = τ28.1 22 := by rw [e_τ_196]; rfl
                  have w25_τ_196 : τ_196.1 25 = τ28.1 25 := by rw [e_τ_196]; rfl
                  have w26_τ_196 : τ_196.1 26 = τ28.1 26 := by rw [e_τ_196]; rfl
                  have w28_τ_196 : τ_196.1 28 = 0 := by rw [e_τ_196]; rfl
                  have w29_τ_196 : τ_196.1 29 = τ28.1 29 := by rw [e_τ_196]; rfl
                  have g18_τ_196 : τ_196.2.1 18 = τ28.2.1 18 := by rw [e_τ_196]; rfl
                  have g19_τ_196 : τ_196.2.1 19 = τ28.2.1 19 := by rw [e_τ_196]; rfl
                  have g25_τ_196 : τ_196.2.1 25 = τ28.2.1 25 := by rw [e_τ_196]; rfl
                  have g26_τ_196 : τ_196.2.1 26 = τ28.2.1 26 := by rw [e_τ_196]; rfl
                  have g28_τ_196 : τ_196.2.1 28 = τ28.2.1 28 := by rw [e_τ_196]; rfl
                  have W3 : τ_196.1 3 = σ.1 3 := by omega
                  have W5 : τ_196.1 5 = σ.1 5 := by omega
                  have W6 : τ_196.1 6 = σ.1 6 := by omega
                  have W7 : τ_196.1 7 = σ.1 7 := by omega
                  have W8 : τ_196.1 8 = σ.1 8 := by omega
                  have W22 : τ_196.1 22 = σ.1 22 := by omega
                  have W25 : τ_196.1 25 = σ.1 25 := by omega
                  have W29 : τ_196.1 29 = σ.1 29 := by omega
                  have G18 : τ_196.2.1 18 = σ.2.1 18 := (g18_τ_196).trans G18
                  have G19 : τ_196.2.1 19 = σ.2.1 19 := (g19_τ_196).trans G19
                  have G25 : τ_196.2.1 25 = σ.2.1 25 := (g25_τ_196).trans G25
                  have y18_22_τ_196 : τ_196.2.1 18 (τ_196.1 22) = (τ28.2.1 18) (τ28.1 22) := by rw [g18_τ_196, w22_τ_196]
                  have y19_22_τ_196 : τ_196.2.1 19 (τ_196.1 22) = (τ28.2.1 19) (τ28.1 22) := by rw [g19_τ_196, w22_τ_196]
                  have y25_22_τ_196 : τ_196.2.1 25 (τ_196.1 22) = (τ28.2.1 25) (τ28.1 22) := by rw [g25_τ_196, w22_τ_196]
                  have y26_22_τ_196 : τ_196.2.1 26 (τ_196.1 22) = (τ28.2.1 26) (τ28.1 22) := by rw [g26_τ_196, w22_τ_196]
                  have y28_9_τ_196 : τ_196.2.1 28 (τ_196.1 9) = (τ28.2.1 28) (τ28.1 9) := by rw [g28_τ_196, w9_τ_196]
                  have Z4 : τ_196.2.1 25 (τ_196.1 22) + τ_196.2.1 26 (τ_196.1 22) = (τ_196.1 9) := by rw [show (τ_196.2.1 25 (τ_196.1 22) + τ_196.2.1 26 (τ_196.1 22) = (τ_196.1 9)) = (τ28.2.1 25 (τ28.1 22) + τ28.2.1 26 (τ28.1 22) = (τ28.1 9)) from by rw [w9_τ_196, w22_τ_196, g25_τ_196, g26_τ_196]]; exact Z4
                  have Y10 : ca (τ_196.2.1 28) ((τ_196.1 9)) ≤ ca (τ_196.2.1 28) (τ_196.2.1 25 (τ_196.1 22)) + (τ_196.1 29) := by rw [show (ca (τ_196.2.1 28) ((τ_196.1 9)) ≤ ca (τ_196.2.1 28) (τ_196.2.1 25 (τ_196.1 22)) + (τ_196.1 29)) = (ca (τ28.2.1 28) ((τ28.1 9)) ≤ ca (τ28.2.1 28) (τ28.2.1 25 (τ28.1 22)) + (τ28.1 29)) from by rw [w9_τ_196, w22_τ_196, w29_τ_196, g25_τ_196, g28_τ_196]]; exact Y10
                  have Y13 : j_eq (σ.2.1 25 (σ.1 22)) (σ.2.1 28) (τ_196.2.1 28) := by rw [show (j_eq (σ.2.1 25 (σ.1 22)) (σ.2.1 28) (τ_196.2.1 28)) = (j_eq (σ.2.1 25 (σ.1 22)) (σ.2.1 28) (τ28.2.1 28)) from by rw [g28_τ_196]]; exact Y13
                  have A18 : ∀ j, 0 ≤ τ_196.2.1 18 j ∧ τ_196.2.1 18 j ≤ 90000 := fun j => hT.2 18 j
                  have A19 : ∀ j, 0 ≤ τ_196.2.1 19 j ∧ τ_196.2.1 19 j ≤ 60 := fun j => hT.2 19 j
                  have A25 : ∀ j, 0 ≤ τ_196.2.1 25 j ∧ τ_196.2.1 25 j ≤ 20000 := fun j => hT.2 25 j
                  have A26 : ∀ j, 0 ≤ τ_196.2.1 26 j ∧ τ_196.2.1 26 j ≤ 20000 := fun j => hT.2 26 j
                  have A28 : ∀ j, 0 ≤ τ_196.2.1 28 j ∧ τ_196.2.1 28 j ≤ 1 := fun j => hT.2 28 j
                  have v3 : 0 ≤ τ_196.1 3 ∧ τ_196.1 3 ≤ 1000 := hT.1 3
                  have v5 : 0 ≤ τ_196.1 5 ∧ τ_196.1 5 ≤ 1500 := hT.1 5
                  have v6 : 0 ≤ τ_196.1 6 ∧ τ_196.1 6 ≤ 30000 := hT.1 6
                  have v7 : 0 ≤ τ_196.1 7 ∧ τ_196.1 7 ≤ 90000 := hT.1 7
                  have v8 : 0 ≤ τ_196.1 8 ∧ τ_196.1 8 ≤ 20000 := hT.1 8
                  have v9 : 0 ≤ τ_196.1 9 ∧ τ_196.1 9 ≤ 20000 := hT.1 9
                  have v20 : 0 ≤ τ_196.1 20 ∧ τ_196.1 20 ≤ 19 := hT.1 20
                  have v22 : 0 ≤ τ_196.1 22 ∧ τ_196.1 22 ≤ 1499 := hT.1 22
                  have v25 : 0 ≤ τ_196.1 25 ∧ τ_196.1 25 ≤ 300 := hT.1 25
                  have v26 : 0 ≤ τ_196.1 26 ∧ τ_196.1 26 ≤ 5000010 := hT.1 26
                  have v28 : 0 ≤ τ_196.1 28 ∧ τ_196.1 28 ≤ 1 := hT.1 28
                  have v29 : 0 ≤ τ_196.1 29 ∧ τ_196.1 29 ≤ 300 := hT.1 29
                  have a18_22 : 0 ≤ τ_196.2.1 18 (τ_196.1 22) ∧ τ_196.2.1 18 (τ_196.1 22) ≤ 90000 := hT.2 18 _
                  have a19_22 : 0 ≤ τ_196.2.1 19 (τ_196.1 22) ∧ τ_196.2.1 19 (τ_196.1 22) ≤ 60 := hT.2 19 _
                  have a25_22 : 0 ≤ τ_196.2.1 25 (τ_196.1 22) ∧ τ_196.2.1 25 (τ_196.1 22) ≤ 20000 := hT.2 25 _
                  have a26_22 : 0 ≤ τ_196.2.1 26 (τ_196.1 22) ∧ τ_196.2.1 26 (τ_196.1 22) ≤ 20000 := hT.2 26 _
                  have a28_9 : 0 ≤ τ_196.2.1 28 (τ_196.1 9) ∧ τ_196.2.1 28 (τ_196.1 9) ≤ 1 := hT.2 28 _
                  have av9 : σ.1 9 ≤ τ_196.1 9 := ag.1 9 (by decide)
                  refine h196 _ ?_
                  replace ag := ag_v (i := 26) (x := 0) ag (Or.inl rfl)
                  replace hT := mT_v (i := 26) hT (show (0 : Int) ≤ 0 ∧ 0 ≤ 5000010 from by (first | omega | (simp only [st_s] <;> omega) | assumption | omega))
                  replace ag := ag_v (i := 27) (x := 0) ag (Or.inl rfl)
                  replace hT := mT_v (i := 27) hT (show (0 : Int) ≤ 0 ∧ 0 ≤ 1 from by (first | omega | (simp only [st_s] <;> omega) | assumption | omega))
                  exact ⟨hT, (show ¬ (σ.1 20) = 0 → (τ_196.1 20) = (σ.1 20) from by (first | omega | (simp only [st_s] <;> omega) | assumption | omega)), (show τ_196.2.1 25 (τ_196.1 22) + τ_196.2.1 26 (τ_196.1 22) = (τ_196.1 9) from Z4), (show ca (τ_196.2.1 28) ((τ_196.1 9)) ≤ ca (τ_196.2.1 28) (τ_196.2.1 25 (τ_196.1 22)) + (τ_196.1 29) from Y10), (show ¬ (τ_196.1 28) = 0 → τ_196.2.1 25 (τ_196.1 22) < (τ_196.1 9) ∧ τ_196.2.1 28 ((τ_196.1 9) - 1) = 0 from by (first | assumption | omega | (intro _; refine ⟨by omega, ?_⟩; first | exact hz | (rw [e_τ_196]; exact hz)))), (show j_eq (σ.2.1 25 (σ.1 22)) (σ.2.1 28) (τ_196.2.1 28) from Y13), (show ((0 : Int)) = 0 from by (first | omega | (simp only [st_s] <;> omega) | assumption | omega)), ag⟩
                ·
                  refine h193 _ _ ?_
                  refine ⟨(show 0 ≤ 1 ∧ 1 ≤ 1 from by (first | omega | (simp only [st_s] <;> omega) | assumption | omega)), ?_⟩
                  replace ag := ag_v (i := 28) (x := 1) ag (Or.inl rfl)
                  replace hT := mT_v (i := 28) hT (show (0 : Int) ≤ 1 ∧ 1 ≤ 1 from by (first | omega | (simp only [st_s] <;> omega) | assumption | omega))
                  obtain ⟨τ_196, e_τ_196⟩ : ∃ z : S0, z = s_v τ28 28 1 := ⟨_, rfl⟩
                  rw [← e_τ_196]
                  replace hT : m_T τ_196 := by rw [e_τ_196]; exact hT
                  replace ag : m_ag σ τ_196 := by rw [e_τ_196]; exact ag
                  have w3_τ_196 : τ_196.1 3 = τ28.1 3 := by rw [e_τ_196]; rfl
                  have w5_τ_196 : τ_196.1 5 = τ28.1 5 := by rw [e_τ_196]; rfl
                  have w6_τ_196 : τ_196.1 6 = τ28.1 6 := by rw [e_τ_196]; rfl
                  have w7_τ_196 : τ_196.1 7 = τ28.1 7 := by rw [e_τ_196]; rfl
                  have w8_τ_196 : τ_196.1 8 = τ28.1 8 := by rw [e_τ_196]; rfl
                  have w9_τ_196 : τ_196.1 9 = τ28.1 9 := by rw [e_τ_196]; rfl
                  have w20_τ_196 : τ_196.1 20 = τ28.1 20 := by rw [e_τ_196]; rfl
                  have w22_τ_196 : τ_196.1 22 = τ28.1 22 := by rw [e_τ_196]; rfl
                  have w25_τ_196 : τ_196.1 25 = τ28.1 25 := by rw [e_τ_196]; rfl
                  have w26_τ_196 : τ_196.1 26 = τ28.1 26 := by rw [e_τ_196]; rfl
                  have w28_τ_196 : τ_196.1 28 = 1 := by rw [e_τ_196]; rfl
                  have w29_τ_196 : τ_196.1 29 = τ28.1 29 := by rw [e_τ_196]; rfl
                  have g18_τ_196 : τ_196.2.1 18 = τ28.2.1 18 := by rw [e_τ_196]; rfl
                  have g19_τ_196 : τ_196.2.1 19 = τ28.2.1 19 := by rw [e_τ_196]; rfl
                  have g25_τ_196 : τ_196.2.1 25 = τ28.2.1 25 := by rw [e_τ_196]; rfl
                  have g26_τ_196 : τ_196.2.1 26 = τ28.2.1 26 := by rw [e_τ_196]; rfl
                  have g28_τ_196 : τ_196.2.1 28 = τ28.2.1 28 := by rw [e_τ_196]; rfl
                  have W3 : τ_196.1 3 = σ.1 3 := by omega
                  have W5 : τ_196.1 5 = σ.1 5 := by omega
                  have W6 : τ_196.1 6 = σ.1 6 := by omega
                  have W7 : τ_196.1 7 = σ.1 7 := by omega
                  have W8 : τ_196.1 8 = σ.1 8 := by omega
                  have W22 : τ_196.1 22 = σ.1 22 := by omega
                  have W25 : τ_196.1 25 = σ.1 25 := by omega
                  have W29 : τ_196.1 29 = σ.1 29 := by omega
                  have G18 : τ_196.2.1 18 = σ.2.1 18 := (g18_τ_196).trans G18
                  have G19 : τ_196.2.1 19 = σ.2.1 19 := (g19_τ_196).trans G19
                  have G25 : τ_196.2.1 25 = σ.2.1 25 := (g25_τ_196).trans G25
                  have y18_22_τ_196 : τ_196.2.1 18 (τ_196.1 22) = (τ28.2.1 18) (τ28.1 22) := by rw [g18_τ_196, w22_τ_196]
                  have y19_22_τ_196 : τ_196.2.1 19 (τ_196.1 22) = (τ28.2.1 19) (τ28.1 22) := by rw [g19_τ_196, w22_τ_196]
                  have y25_22_τ_196 : τ_196.2.1 25 (τ_196.1 22) = (τ28.2.1 25) (τ28.1 22) := by rw [g25_τ_196, w22_τ_196]
                  have y26_22_τ_196 : τ_196.2.1 26 (τ_196.1 22) = (τ28.2.1 26) (τ28.1 22) := by rw [g26_τ_196, w22_τ_196]
                  have y28_9_τ_196 : τ_196.2.1 28 (τ_196.1 9) = (τ28.2.1 28) (τ28.1 9) := by rw [g28_τ_196, w9_τ_196]
                  have Z4 : τ_196.2.1 25 (τ_196.1 22) + τ_196.2.1 26 (τ_196.1 22) = (τ_196.1 9) := by rw [show (τ_196.2.1 25 (τ_196.1 22) + τ_196.2.1 26 (τ_196.1 22) = (τ_196.1 9)) = (τ28.2.1 25 (τ28.1 22) + τ28.2.1 26 (τ28.1 22) = (τ28.1 9)) from by rw [w9_τ_196, w22_τ_196, g25_τ_196, g26_τ_196]]; exact Z4
                  have Y10 : ca (τ_196.2.1 28) ((τ_196.1 9)) ≤ ca (τ_196.2.1 28) (τ_196.2.1 25 (τ_196.1 22)) + (τ_196.1 29) := by rw [show (ca (τ_196.2.1 28) ((τ_196.1 9)) ≤ ca (τ_196.2.1 28) (τ_196.2.1 25 (τ_196.1 22)) + (τ_196.1 29)) = (ca (τ28.2.1 28) ((τ28.1 9)) ≤ ca (τ28.2.1 28) (τ28.2.1 25 (τ28.1 22)) + (τ28.1 29)) from by rw [w9_τ_196, w22_τ_196, w29_τ_196, g25_τ_196, g28_τ_196]]; exact Y10
                  have Y13 : j_eq (σ.2.1 25 (σ.1 22)) (σ.2.1 28) (τ_196.2.1 28) := by rw [show (j_eq (σ.2.1 25 (σ.1 22)) (σ.2.1 28) (τ_196.2.1 28)) = (j_eq (σ.2.1 25 (σ.1 22)) (σ.2.1 28) (τ28.2.1 28)) from by rw [g28_τ_196]]; exact Y13
                  have A18 : ∀ j, 0 ≤ τ_196.2.1 18 j ∧ τ_196.2.1 18 j ≤ 90000 := fun j => hT.2 18 j
                  have A19 : ∀ j, 0 ≤ τ_196.2.1 19 j ∧ τ_196.2.1 19 j ≤ 60 := fun j => hT.2 19 j
                  have A25 : ∀ j, 0 ≤ τ_196.2.1 25 j ∧ τ_196.2.1 25 j ≤ 20000 := fun j => hT.2 25 j
                  have A26 : ∀ j, 0 ≤ τ_196.2.1 26 j ∧ τ_196.2.1 26 j ≤ 20000 := fun j => hT.2 26 j
                  have A28 : ∀ j, 0 ≤ τ_196.2.1 28 j ∧ τ_196.2.1 28 j ≤ 1 := fun j => hT.2 28 j
                  have v3 : 0 ≤ τ_196.1 3 ∧ τ_196.1 3 ≤ 1000 := hT.1 3
                  have v5 : 0 ≤ τ_196.1 5 ∧ τ_196.1 5 ≤ 1500 := hT.1 5
                  have v6 : 0 ≤ τ_196.1 6 ∧ τ_196.1 6 ≤ 30000 := hT.1 6
                  have v7 : 0 ≤ τ_196.1 7 ∧ τ_196.1 7 ≤ 90000 := hT.1 7
                  have v8 : 0 ≤ τ_196.1 8 ∧ τ_196.1 8 ≤ 20000 := hT.1 8
                  have v9 : 0 ≤ τ_196.1 9 ∧ τ_196.1 9 ≤ 20000 := hT.1 9
                  have v20 : 0 ≤ τ_196.1 20 ∧ τ_196.1 20 ≤ 19 := hT.1 20
                  have v22 : 0 ≤ τ_196.1 22 ∧ τ_196.1 22 ≤ 1499 := hT.1 22
                  have v25 : 0 ≤ τ_196.1 25 ∧ τ_196.1 25 ≤ 300 := hT.1 25
                  have v26 : 0 ≤ τ_196.1 26 ∧ τ_196.1 26 ≤ 5000010 := hT.1 26
                  have v28 : 0 ≤ τ_196.1 28 ∧ τ_196.1 28 ≤ 1 := hT.1 28
                  have v29 : 0 ≤ τ_196.1 29 ∧ τ_196.1 29 ≤ 300 := hT.1 29
                  have a18_22 : 0 ≤ τ_196.2.1 18 (τ_196.1 22) ∧ τ_196.2.1 18 (τ_196.1 22) ≤ 90000 := hT.2 18 _
                  have a19_22 : 0 ≤ τ_196.2.1 19 (τ_196.1 22) ∧ τ_196.2.1 19 (τ_196.1 22) ≤ 60 := hT.2 19 _
                  have a25_22 : 0 ≤ τ_196.2.1 25 (τ_196.1 22) ∧ τ_196.2.1 25 (τ_196.1 22) ≤ 20000 := hT.2 25 _
                  have a26_22 : 0 ≤ τ_196.2.1 26 (τ_196.1 22) ∧ τ_196.2.1 26 (τ_196.1 22) ≤ 20000 := hT.2 26 _
                  have a28_9 : 0 ≤ τ_196.2.1 28 (τ_196.1 9) ∧ τ_196.2.1 28 (τ_196.1 9) ≤ 1 := hT.2 28 _
                  have av9 : σ.1 9 ≤ τ_196.1 9 := ag.1 9 (by decide)
                  refine h196 _ ?_
                  replace ag := ag_v (i := 26) (x := 0) ag (Or.inl rfl)
                  replace hT := mT_v (i := 26) hT (show (0 : Int) ≤ 0 ∧ 0 ≤ 5000010 from by (first | omega | (simp only [st_s] <;> omega) | assumption | omega))
                  replace ag := ag_v (i := 27) (x := 0) ag (Or.inl rfl)
                  replace hT := mT_v (i := 27) hT (show (0 : Int) ≤ 0 ∧ 0 ≤ 1 from by (first | omega | (simp only [st_s] <;> omega) | assumption | omega))
                  exact ⟨hT, (show ¬ (σ.1 20) = 0 → (τ_196.1 20) = (σ.1 20) from by (first | omega | (simp only [st_s] <;> omega) | assumption | omega)), (show τ_196.2.1 25 (τ_196.1 22) + τ_196.2.1 26 (τ_196.1 22) = (τ_196.1 9) from Z4), (show ca (τ_196.2.1 28) ((τ_196.1 9)) ≤ ca (τ_196.2.1 28) (τ_196.2.1 25 (τ_196.1 22)) + (τ_196.1 29) from Y10), (show ¬ (τ_196.1 28) = 0 → τ_196.2.1 25 (τ_196.1 22) < (τ_196.1 9) ∧ τ_196.2.1 28 ((τ_196.1 9) - 1) = 0 from by (first | assumption | omega | (intro _; refine ⟨by omega, ?_⟩; first | exact hz | (rw [e_τ_196]; exact hz)))), (show j_eq (σ.2.1 25 (σ.1 22)) (σ.2.1 28) (τ_196.2.1 28) from Y13), (show ((0 : Int)) = 0 from by (first | omega | (simp only [st_s] <;> omega) | assumption | omega)), ag⟩
            ·
              refine ⟨(show 0 ≤ σ.1 22 ∧ σ.1 22 < 1501 from by (first | omega | (simp only [st_s] <;> omega) | assumption | omega)), ?_⟩
              intro x15 r_x15 e_x15
              have b_x15 : 0 ≤ x15 ∧ x15 ≤ 90000 := by rw [e_x15]; exact hT.2 18 _
              refine ⟨(show 0 ≤ (x15 + (n1 - 1)) ∧ (x15 + (n1 - 1)) < 90100 from by (first | omega | (simp only [st_s] <;> omega) | assumption | omega)), ?_⟩
              intro x17 r_x17 e_x17
              have b_x17 : 0 ≤ x17 ∧ x17 ≤ 1499 := by rw [e_x17]; exact hT.2 20 _
              refine h162 _ _ _ _ ?_
              refine ⟨_, K_X13_addStep hT (show -300 ≤ x17 from by (first | omega | (simp only [st_s] <;> omega) | assumption | omega)) (show x17 ≤ 1499 from by (first | omega | (simp only [st_s] <;> omega) | assumption | omega)) (show 0 ≤ n2 from by (first | omega | (simp only [st_s] <;> omega) | assumption | omega)) (show n2 ≤ 60000 from by (first | omega | (simp only [st_s] <;> omega) | assumption | omega)) (show (σ.1 9) < 20000 from by (first | omega | (simp only [st_s] <;> omega) | assumption | omega)) (show σ.2.1 26 (σ.1 22) < 20000 from by (first | omega | (simp only [st_s] <;> omega) | assumption | omega)) (show (σ.1 22) = (σ.1 5) from by (first | omega | (simp only [st_s] <;> omega) | assumption | omega)), ?_⟩
              intro τ28 hn_τ28 hf_τ28 hq
              obtain ⟨hT, q26_1, q26_2, q26_3, q26_4, q26_5, q26_6, q26_7⟩ := hq
              replace q26_1 : (τ28.1 9) = (σ.1 9) + 1 := q26_1
              replace q26_2 : τ28.2.1 26 (τ28.1 22) = σ.2.1 26 (σ.1 22) + 1 := q26_2
              replace q26_3 : τ28.2.1 27 = st (σ.2.1 27) (σ.1 9) x17 := q26_3
              replace q26_4 : j_eq ((σ.1 9)) (σ.2.1 28) (τ28.2.1 28) := q26_4
              replace q26_5 : ca (τ28.2.1 28) ((τ28.1 9)) = ca (σ.2.1 28) ((σ.1 9)) := q26_5
              replace q26_6 : τ28.2.1 28 (σ.1 9) = 0 := q26_6
              replace q26_7 : m_ag σ τ28 := q26_7
              replace ag : m_ag σ τ28 := ag_t ag q26_7 rfl
              have w3_τ28 : τ28.1 3 = σ.1 3 := hf_τ28.1 3 (by decide)
              have w5_τ28 : τ28.1 5 = σ.1 5 := hf_τ28.1 5 (by decide)
              have w6_τ28 : τ28.1 6 = σ.1 6 := hf_τ28.1 6 (by decide)
              have w7_τ28 : τ28.1 7 = σ.1 7 := hf_τ28.1 7 (by decide)
              have w8_τ28 : τ28.1 8 = σ.1 8 := hf_τ28.1 8 (by decide)
              have w20_τ28 : τ28.1 20 = σ.1 20 := hf_τ28.1 20 (by decide)
              have w22_τ28 : τ28.1 22 = σ.1 22 := hf_τ28.1 22 (by decide)
              have w25_τ28 : τ28.1 25 = σ.1 25 := hf_τ28.1 25 (by decide)
              have w26_τ28 : τ28.1 26 = σ.1 26 := hf_τ28.1 26 (by decide)
              have w28_τ28 : τ28.1 28 = σ.1 28 := hf_τ28.1 28 (by decide)
              have w29_τ28 : τ28.1 29 = σ.1 29 := hf_τ28.1 29 (by decide)
              have g18_τ28 : τ28.2.1 18 = σ.2.1 18 := hf_τ28.2.1 18 (by decide)
              have g19_τ28 : τ28.2.1 19 = σ.2.1 19 := hf_τ28.2.1 19 (by decide)
              have g25_τ28 : τ28.2.1 25 = σ.2.1 25 := hf_τ28.2.1 25 (by decide)
              have W3 : τ28.1 3 = σ.1 3 := by omega
              have W5 : τ28.1 5 = σ.1 5 := by omega
              have W6 : τ28.1 6 = σ.1 6 := by omega
              have W7 : τ28.1 7 = σ.1 7 := by omega
              have W8 : τ28.1 8 = σ.1 8 := by omega
              have W22 : τ28.1 22 = σ.1 22 := by omega
              have W25 : τ28.1 25 = σ.1 25 := by omega
              have W29 : τ28.1 29 = σ.1 29 := by omega
              have G18 : τ28.2.1 18 = σ.2.1 18 := (g18_τ28).trans G18
              have G19 : τ28.2.1 19 = σ.2.1 19 := (g19_τ28).trans G19
              have G25 : τ28.2.1 25 = σ.2.1 25 := (g25_τ28).trans G25
              have y18_22_τ28 : τ28.2.1 18 (τ28.1 22) = (σ.2.1 18) (σ.1 22) := by rw [g18_τ28, w22_τ28]
              have y19_22_τ28 : τ28.2.1 19 (τ28.1 22) = (σ.2.1 19) (σ.1 22) := by rw [g19_τ28, w22_τ28]
              have y25_22_τ28 : τ28.2.1 25 (τ28.1 22) = (σ.2.1 25) (σ.1 22) := by rw [g25_τ28, w22_τ28]
              have A18 : ∀ j, 0 ≤ τ28.2.1 18 j ∧ τ28.2.1 18 j ≤ 90000 := fun j => hT.2 18 j
              have A19 : ∀ j, 0 ≤ τ28.2.1 19 j ∧ τ28.2.1 19 j ≤ 60 := fun j => hT.2 19 j
              have A25 : ∀ j, 0 ≤ τ28.2.1 25 j ∧ τ28.2.1 25 j ≤ 20000 := fun j => hT.2 25 j
              have A26 : ∀ j, 0 ≤ τ28.2.1 26 j ∧ τ28.2.1 26 j ≤ 20000 := fun j => hT.2 26 j
              have A28 : ∀ j, 0 ≤ τ28.2.1 28 j ∧ τ28.2.1 28 j ≤ 1 := fun j => hT.2 28 j
              have v3 : 0 ≤ τ28.1 3 ∧ τ28.1 3 ≤ 1000 := hT.1 3
              have v5 : 0 ≤ τ28.1 5 ∧ τ28.1 5 ≤ 1500 := hT.1 5
              have v6 : 0 ≤ τ28.1 6 ∧ τ28.1 6 ≤ 30000 := hT.1 6
              have v7 : 0 ≤ τ28.1 7 ∧ τ28.1 7 ≤ 90000 := hT.1 7
              have v8 : 0 ≤ τ28.1 8 ∧ τ28.1 8 ≤ 20000 := hT.1 8
              have v9 : 0 ≤ τ28.1 9 ∧ τ28.1 9 ≤ 20000 := hT.1 9
              have v20 : 0 ≤ τ28.1 20 ∧ τ28.1 20 ≤ 19 := hT.1 20
              have v22 : 0 ≤ τ28.1 22 ∧ τ28.1 22 ≤ 1499 := hT.1 22
              have v25 : 0 ≤ τ28.1 25 ∧ τ28.1 25 ≤ 300 := hT.1 25
              have v26 : 0 ≤ τ28.1 26 ∧ τ28.1 26 ≤ 5000010 := hT.1 26
              have v28 : 0 ≤ τ28.1 28 ∧ τ28.1 28 ≤ 1 := hT.1 28
              have v29 : 0 ≤ τ28.1 29 ∧ τ28.1 29 ≤ 300 := hT.1 29
              have a18_22 : 0 ≤ τ28.2.1 18 (τ28.1 22) ∧ τ28.2.1 18 (τ28.1 22) ≤ 90000 := hT.2 18 _
              have a19_22 : 0 ≤ τ28.2.1 19 (τ28.1 22) ∧ τ28.2.1 19 (τ28.1 22) ≤ 60 := hT.2 19 _
              have a25_22 : 0 ≤ τ28.2.1 25 (τ28.1 22) ∧ τ28.2.1 25 (τ28.1 22) ≤ 20000 := hT.2 25 _
              have a26_22 : 0 ≤ τ28.2.1 26 (τ28.1 22) ∧ τ28.2.1 26 (τ28.1 22) ≤ 20000 := hT.2 26 _
              have a28_9 : 0 ≤ τ28.2.1 28 (τ28.1 9) ∧ τ28.2.1 28 (τ28.1 9) ≤ 1 := hT.2 28 _
              have av9 : σ.1 9 ≤ τ28.1 9 := ag.1 9 (by decide)
              have hz : τ28.2.1 28 (τ28.1 9 - 1) = 0 := by rw [show τ28.1 9 - 1 = σ.1 9 from by omega]; exact q26_6
              have Z4 : τ28.2.1 25 (τ28.1 22) + τ28.2.1 26 (τ28.1 22) = τ28.1 9 := by omega
              have ce := ca_eq q26_4 (n := σ.2.1 25 (σ.1 22)) (by omega)
              have Y10 : ca (τ28.2.1 28) (τ28.1 9) ≤ ca (τ28.2.1 28) (τ28.2.1 25 (τ28.1 22)) + τ28.1 29 := by rw [y25_22_τ28, ce, q26_5]; omega
              have Y12 : ¬ τ28.1 28 = 0 → τ28.2.1 25 (τ28.1 22) < τ28.1 9 ∧ τ28.2.1 28 (τ28.1 9 - 1) = 0 := fun _ => ⟨by omega, hz⟩
              have Y13 := j_eqw q26_4 (show σ.2.1 25 (σ.1 22) ≤ σ.1 9 from by omega)
              refine ⟨fun c29 => ?_, fun c29 => ?_⟩
              ·
                refine h193 _ _ ?_
                refine ⟨(show 0 ≤ 0 ∧ 0 ≤ 1 from by (first | omega | (simp only [st_s] <;> omega) | assumption | omega)), ?_⟩
                replace ag := ag_v (i := 28) (x := 0) ag (Or.inl rfl)
                replace hT := mT_v (i := 28) hT (show (0 : Int) ≤ 0 ∧ 0 ≤ 1 from by (first | omega | (simp only [st_s] <;> omega) | assumption | omega))
                obtain ⟨τ_196, e_τ_196⟩ : ∃ z : S0, z = s_v τ28 28 0 := ⟨_, rfl⟩
                rw [← e_τ_196]
                replace hT : m_T τ_196 := by rw [e_τ_196]; exact hT
                replace ag : m_ag σ τ_196 := by rw [e_τ_196]; exact ag
                have w3_τ_196 : τ_196.1 3 = τ28.1 3 := by rw [e_τ_196]; rfl
                have w5_τ_196 : τ_196.1 5 = τ28.1 5 := by rw [e_τ_196]; rfl
                have w6_τ_196 : τ_196.1 6 = τ28.1 6 := by rw [e_τ_196]; rfl
                have w7_τ_196 : τ_196.1 7 = τ28.1 7 := by rw [e_τ_196]; rfl
                have w8_τ_196 : τ_196.1 8 = τ28.1 8 := by rw [e_τ_196]; rfl
                have w9_τ_196 : τ_196.1 9 = τ28.1 9 := by rw [e_τ_196]; rfl
                have w20_τ_196 : τ_196.1 20 = τ28.1 20 := by rw [e_τ_196]; rfl
                have w22_τ_196 : τ_196.1 22 = τ28.1 22 := by rw [e_τ_196]; rfl
                have w25_τ_196 : τ_196.1 25 = τ28.1 25 := by rw [e_τ_196]; rfl
                have w26_τ_196 : τ_196.1 26 = τ28.1 26 := by rw [e_τ_196]; rfl
                have w28_τ_196 : τ_196.1 28 = 0 := by rw [e_τ_196]; rfl
                have w29_τ_196 : τ_196.1 29 = τ28.1 29 := by rw [e_τ_196]; rfl
                have g18_τ_196 : τ_196.2.1 18 = τ28.2.1 18 := by rw [e_τ_196]; rfl
                have g19_τ_196 : τ_196.2.1 19 = τ28.2.1 19 := by rw [e_τ_196]; rfl
                have g25_τ_196 : τ_196.2.1 25 = τ28.2.1 25 := by rw [e_τ_196]; rfl
                have g26_τ_196 : τ_196.2.1 26 = τ28.2.1 26 := by rw [e_τ_196]; rfl
                have g28_τ_196 : τ_196.2.1 28 = τ28.2.1 28 := by rw [e_τ_196]; rfl
                have W3 : τ_196.1 3 = σ.1 3 := by omega
                have W5 : τ_196.1 5 = σ.1 5 := by omega
                have W6 : τ_196.1 6 = σ.1 6 := by omega
                have W7 : τ_196.1 7 = σ.1 7 := by omega
                have W8 : τ_196.1 8 = σ.1 8 := by omega
                have W22 : τ_196.1 22 = σ.1 22 := by omega
                have W25 : τ_196.1 25 = σ.1 25 := by omega
                have W29 : τ_196.1 29 = σ.1 29 := by omega
                have G18 : τ_196.2.1 18 = σ.2.1 18 := (g18_τ_196).trans G18
                have G19 : τ_196.2.1 19 = σ.2.1 19 := (g19_τ_196).trans G19
                have G25 : τ_196.2.1 25 = σ.2.1 25 := (g25_τ_196).trans G25
                have y18_22_τ_196 : τ_196.2.1 18 (τ_196.1 22) = (τ28.2.1 18) (τ28.1 22) := by rw [g18_τ_196, w22_τ_196]
                have y19_22_τ_196 : τ_196.2.1 19 (τ_196.1 22) = (τ28.2.1 19) (τ28.1 22) := by rw [g19_τ_196, w22_τ_196]
                have y25_22_τ_196 : τ_196.2.1 25 (τ_196.1 22) = (τ28.2.1 25) (τ28.1 22) := by rw [g25_τ_196, w22_τ_196]
                have y26_22_τ_196 : τ_196.2.1 26 (τ_196.1 22) = (τ28.2.1 26) (τ28.1 22) := by rw [g26_τ_196, w22_τ_196]
                have y28_9_τ_196 : τ_196.2.1 28 (τ_196.1 9) = (τ28.2.1 28) (τ28.1 9) := by rw [g28_τ_196, w9_τ_196]
                have Z4 : τ_196.2.1 25 (τ_196.1 22) + τ_196.2.1 26 (τ_196.1 22) = (τ_196.1 9) := by rw [show (τ_196.2.1 25 (τ_196.1 22) + τ_196.2.1 26 (τ_196.1 22) = (τ_196.1 9)) = (τ28.2.1 25 (τ28.1 22) + τ28.2.1 26 (τ28.1 22) = (τ28.1 9)) from by rw [w9_τ_196, w22_τ_196, g25_τ_196, g26_τ_196]]; exact Z4
                have Y10 : ca (τ_196.2.1 28) ((τ_196.1 9)) ≤ ca (τ_196.2.1 28) (τ_196.2.1 25 (τ_196.1 22)) + (τ_196.1 29) := by rw [show (ca (τ_196.2.1 28) ((τ_196.1 9)) ≤ ca (τ_196.2.1 28) (τ_196.2.1 25 (τ_196.1 22)) + (τ_196.1 29)) = (ca (τ28.2.1 28) ((τ28.1 9)) ≤ ca (τ28.2.1 28) (τ28.2.1 25 (τ28.1 22)) + (τ28.1 29)) from by rw [w9_τ_196, w22_τ_196, w29_τ_196, g25_τ_196, g28_τ_196]]; exact Y10
                have Y13 : j_eq (σ.2.1 25 (σ.1 22)) (σ.2.1 28) (τ_196.2.1 28) := by rw [show (j_eq (σ.2.1 25 (σ.1 22)) (σ.2.1 28) (τ_196.2.1 28)) = (j_eq (σ.2.1 25 (σ.1 22)) (σ.2.1 28) (τ28.2.1 28)) from by rw [g28_τ_196]]; exact Y13
                have A18 : ∀ j, 0 ≤ τ_196.2.1 18 j ∧ τ_196.2.1 18 j ≤ 90000 := fun j => hT.2 18 j
                have A19 : ∀ j, 0 ≤ τ_196.2.1 19 j ∧ τ_196.2.1 19 j ≤ 60 := fun j => hT.2 19 j
                have A25 : ∀ j, 0 ≤ τ_196.2.1 25 j ∧ τ_196.2.1 25 j ≤ 20000 := fun j => hT.2 25 j
                have A26 : ∀ j, 0 ≤ τ_196.2.1 26 j ∧ τ_196.2.1 26 j ≤ 20000 := fun j => hT.2 26 j
                have A28 : ∀ j, 0 ≤ τ_196.2.1 28 j ∧ τ_196.2.1 28 j ≤ 1 := fun j => hT.2 28 j
                have v3 : 0 ≤ τ_196.1 3 ∧ τ_196.1 3 ≤ 1000 := hT.1 3
                have v5 : 0 ≤ τ_196.1 5 ∧ τ_196.1 5 ≤ 1500 := hT.1 5
                have v6 : 0 ≤ τ_196.1 6 ∧ τ_196.1 6 ≤ 30000 := hT.1 6
                have v7 : 0 ≤ τ_196.1 7 ∧ τ_196.1 7 ≤ 90000 := hT.1 7
                have v8 : 0 ≤ τ_196.1 8 ∧ τ_196.1 8 ≤ 20000 := hT.1 8
                have v9 : 0 ≤ τ_196.1 9 ∧ τ_196.1 9 ≤ 20000 := hT.1 9
                have v20 : 0 ≤ τ_196.1 20 ∧ τ_196.1 20 ≤ 19 := hT.1 20
                have v22 : 0 ≤ τ_196.1 22 ∧ τ_196.1 22 ≤ 1499 := hT.1 22
                have v25 : 0 ≤ τ_196.1 25 ∧ τ_196.1 25 ≤ 300 := hT.1 25
                have v26 : 0 ≤ τ_196.1 26 ∧ τ_196.1 26 ≤ 5000010 := hT.1 26
                have v28 : 0 ≤ τ_196.1 28 ∧ τ_196.1 28 ≤ 1 := hT.1 28
                have v29 : 0 ≤ τ_196.1 29 ∧ τ_196.1 29 ≤ 300 := hT.1 29
                have a18_22 : 0 ≤ τ_196.2.1 18 (τ_196.1 22) ∧ τ_196.2.1 18 (τ_196.1 22) ≤ 90000 := hT.2 18 _
                have a19_22 : 0 ≤ τ_196.2.1 19 (τ_196.1 22) ∧ τ_196.2.1 19 (τ_196.1 22) ≤ 60 := hT.2 19 _
                have a25_22 : 0 ≤ τ_196.2.1 25 (τ_196.1 22) ∧ τ_196.2.1 25 (τ_196.1 22) ≤ 20000 := hT.2 25 _
                have a26_22 : 0 ≤ τ_196.2.1 26 (τ_196.1 22) ∧ τ_196.2.1 26 (τ_196.1 22) ≤ 20000 := hT.2 26 _
                have a28_9 : 0 ≤ τ_196.2.1 28 (τ_196.1 9) ∧ τ_196.2.1 28 (τ_196.1 9) ≤ 1 := hT.2 28 _
                have av9 : σ.1 9 ≤ τ_196.1 9 := ag.1 9 (by decide)
                refine h196 _ ?_
                replace ag := ag_v (i := 26) (x := 0) ag (Or.inl rfl)
                replace hT := mT_v (i := 26) hT (show (0 : Int) ≤ 0 ∧ 0 ≤ 5000010 from by (first | omega | (simp only [st_s] <;> omega) | assumption | omega))
                replace ag := ag_v (i := 27) (x := 0) ag (Or.inl rfl)
                replace hT := mT_v (i := 27) hT (show (0 : Int) ≤ 0 ∧ 0 ≤ 1 from by (first | omega | (simp only [st_s] <;> omega) | assumption | omega))
                exact ⟨hT, (show ¬ (σ.1 20) = 0 → (τ_196.1 20) = (σ.1 20) from by (first | omega | (simp only [st_s] <;> omega) | assumption | omega)), (show τ_196.2.1 25 (τ_196.1 22) + τ_196.2.1 26 (τ_196.1 22) = (τ_196.1 9) from Z4), (show ca (τ_196.2.1 28) ((τ_196.1 9)) ≤ ca (τ_196.2.1 28) (τ_196.2.1 25 (τ_196.1 22)) + (τ_196.1 29) from Y10), (show ¬ (τ_196.1 28) = 0 → τ_196.2.1 25 (τ_196.1 22) < (τ_196.1 9) ∧ τ_196.2.1 28 ((τ_196.1 9) - 1) = 0 from by (first | assumption | omega | (intro _; refine ⟨by omega, ?_⟩; first | exact hz | (rw [e_τ_196]; exact hz)))), (show j_eq (σ.2.1 25 (σ.1 22)) (σ.2.1 28) (τ_196.2.1 28) from Y13), (show ((0 : Int)) = 0 from by (first | omega | (simp only [st_s] <;> omega) | assumption | omega)), ag⟩
              ·
                refine ⟨(show 0 ≤ x17 ∧ x17 < 1501 from by (first | omega | (simp only [st_s] <;> omega) | assumption | omega)), ?_⟩
                intro x31 r_x31 e_x31
                have b_x31 : 0 ≤ x31 ∧ x31 ≤ 4 := by rw [e_x31]; exact hT.2 13 _
                refine ⟨fun c32 => ?_, fun c32 => ?_⟩
                ·
                  refine h193 _ _ ?_
                  refine ⟨(show 0 ≤ 0 ∧ 0 ≤ 1 from by (first | omega | (simp only [st_s] <;> omega) | assumption | omega)), ?_⟩
                  replace ag := ag_v (i := 28) (x := 0) ag (Or.inl rfl)
                  replace hT := mT_v (i := 28) hT (show (0 : Int) ≤ 0 ∧ 0 ≤ 1 from by (first | omega | (simp only [st_s] <;> omega) | assumption | omega))
                  obtain ⟨τ_196, e_τ_196⟩ : ∃ z : S0, z = s_v τ28 28 0 := ⟨_, rfl⟩
                  rw [← e_τ_196]
                  replace hT : m_T τ_196 := by rw [e_τ_196]; exact hT
                  replace ag : m_ag σ τ_196 := by rw [e_τ_196]; exact ag
                  have w3_τ_196 : τ_196.1 3 = τ28.1 3 := by rw [e_τ_196]; rfl
                  have w5_τ_196 : τ_196.1 5 = τ28.1 5 := by rw [e_τ_196]; rfl
                  have w6_τ_196 : τ_196.1 6 = τ28.1 6 := by rw [e_τ_196]; rfl
                  have w7_τ_196 : τ_196.1 7 = τ28.1 7 := by rw [e_τ_196]; rfl
                  have w8_τ_196 : τ_196.1 8 = τ28.1 8 := by rw [e_τ_196]; rfl
                  have w9_τ_196 : τ_196.1 9 = τ28.1 9 := by rw [e_τ_196]; rfl
                  have w20_τ_196 : τ_196.1 20 = τ28.1 20 := by rw [e_τ_196]; rfl
                  have w22_τ_196 : τ_196.1 22 = τ28.1 22 := by rw [e_τ_196]; rfl
                  have w25_τ_196 : τ_196.1 25 = τ28.1 25 := by rw [e_τ_196]; rfl
                  have w26_τ_196 : τ_196.1 26 = τ28.1 26 := by rw [e_τ_196]; rfl
                  have w28_τ_196 : τ_196.1 28 = 0 := by rw [e_τ_196]; rfl
                  have w29_τ_196 : τ_196.1 29 = τ28.1 29 := by rw [e_τ_196]; rfl
                  have g18_τ_196 : τ_196.2.1 18 = τ28.2.1 18 := by rw [e_τ_196]; rfl
                  have g19_τ_196 : τ_196.2.1 19 = τ28.2.1 19 := by rw [e_τ_196]; rfl
                  have g25_τ_196 : τ_196.2.1 25 = τ28.2.1 25 := by rw [e_τ_196]; rfl
                  have g26_τ_196 : τ_196.2.1 26 = τ28.2.1 26 := by rw [e_τ_196]; rfl
                  have g28_τ_196 : τ_196.2.1 28 = τ28.2.1 28 := by rw [e_τ_196]; rfl
                  have W3 : τ_196.1 3 = σ.1 3 := by omega
                  have W5 : τ_196.1 5 = σ.1 5 := by omega
                  have W6 : τ_196.1 6 = σ.1 6 := by omega
                  have W7 : τ_196.1 7 = σ.1 7 := by omega
                  have W8 : τ_196.1 8 = σ.1 8 := by omega
                  have W22 : τ_196.1 22 = σ.1 22 := by omega
                  have W25 : τ_196.1 25 = σ.1 25 := by omega
                  have W29 : τ_196.1 29 = σ.1 29 := by omega
                  have G18 : τ_196.2.1 18 = σ.2.1 18 := (g18_τ_196).trans G18
                  have G19 : τ_196.2.1 19 = σ.2.1 19 := (g19_τ_196).trans G19
                  have G25 : τ_196.2.1 25 = σ.2.1 25 := (g25_τ_196).trans G25
                  have y18_22_τ_196 : τ_196.2.1 18 (τ_196.1 22) = (τ28.2.1 18) (τ28.1 22) := by rw [g18_τ_196, w22_τ_196]
                  have y19_22_τ_196 : τ_196.2.1 19 (τ_196.1 22) = (τ28.2.1 19) (τ28.1 22) := by rw [g19_τ_196, w22_τ_196]
                  have y25_22_τ_196 : τ_196.2.1 25 (τ_196.1 22) = (τ28.2.1 25) (τ28.1 22) := by rw [g25_τ_196, w22_τ_196]
                  have y26_22_τ_196 : τ_196.2.1 26 (τ_196.1 22) = (τ28.2.1 26) (τ28.1 22) := by rw [g26_τ_196, w22_τ_196]
                  have y28_9_τ_196 : τ_196.2.1 28 (τ_196.1 9) = (τ28.2.1 28) (τ28.1 9) := by rw [g28_τ_196, w9_τ_196]
                  have Z4 : τ_196.2.1 25 (τ_196.1 22) + τ_196.2.1 26 (τ_196.1 22) = (τ_196.1 9) := by rw [show (τ_196.2.1 25 (τ_196.1 22) + τ_196.2.1 26 (τ_196.1 22) = (τ_196.1 9)) = (τ28.2.1 25 (τ28.1 22) + τ28.2.1 26 (τ28.1 22) = (τ28.1 9)) from by rw [w9_τ_196, w22_τ_196, g25_τ_196, g26_τ_196]]; exact Z4
                  have Y10 : ca (τ_196.2.1 28) ((τ_196.1 9)) ≤ ca (τ_196.2.1 28) (τ_196.2.1 25 (τ_196.1 22)) + (τ_196.1 29) := by rw [show (ca (τ_196.2.1 28) ((τ_196.1 9)) ≤ ca (τ_196.2.1 28) (τ_196.2.1 25 (τ_196.1 22)) + (τ_196.1 29)) = (ca (τ28.2.1 28) ((τ28.1 9)) ≤ ca (τ28.2.1 28) (τ28.2.1 25 (τ28.1 22)) + (τ28.1 29)) from by rw [w9_τ_196, w22_τ_196, w29_τ_196, g25_τ_196, g28_τ_196]]; exact Y10
                  have Y13 : j_eq (σ.2.1 25 (σ.1 22)) (σ.2.1 28) (τ_196.2.1 28) := by rw [show (j_eq (σ.2.1 25 (σ.1 22)) (σ.2.1 28) (τ_196.2.1 28)) = (j_eq (σ.2.1 25 (σ.1 22)) (σ.2.1 28) (τ28.2.1 28)) from by rw [g28_τ_196]]; exact Y13
                  have A18 : ∀ j, 0 ≤ τ_196.2.1 18 j ∧ τ_196.2.1 18 j ≤ 90000 := fun j => hT.2 18 j
                  have A19 : ∀ j, 0 ≤ τ_196.2.1 19 j ∧ τ_196.2.1 19 j ≤ 60 := fun j => hT.2 19 j
                  have A25 : ∀ j, 0 ≤ τ_196.2.1 25 j ∧ τ_196.2.1 25 j ≤ 20000 := fun j => hT.2 25 j
                  have A26 : ∀ j, 0 ≤ τ_196.2.1 26 j ∧ τ_196.2.1 26 j ≤ 20000 := fun j => hT.2 26 j
                  have A28 : ∀ j, 0 ≤ τ_196.2.1 28 j ∧ τ_196.2.1 28 j ≤ 1 := fun j => hT.2 28 j
                  have v3 : 0 ≤ τ_196.1 3 ∧ τ_196.1 3 ≤ 1000 := hT.1 3
                  have v5 : 0 ≤ τ_196.1 5 ∧ τ_196.1 5 ≤ 1500 := hT.1 5
                  have v6 : 0 ≤ τ_196.1 6 ∧ τ_196.1 6 ≤ 30000 := hT.1 6
                  have v7 : 0 ≤ τ_196.1 7 ∧ τ_196.1 7 ≤ 90000 := hT.1 7
                  have v8 : 0 ≤ τ_196.1 8 ∧ τ_196.1 8 ≤ 20000 := hT.1 8
                  have v9 : 0 ≤ τ_196.1 9 ∧ τ_196.1 9 ≤ 20000 := hT.1 9
                  have v20 : 0 ≤ τ_196.1 20 ∧ τ_196.1 20 ≤ 19 := hT.1 20
                  have v22 : 0 ≤ τ_196.1 22 ∧ τ_196.1 22 ≤ 1499 := hT.1 22
                  have v25 : 0 ≤ τ_196.1 25 ∧ τ_196.1 25 ≤ 300 := hT.1 25
                  have v26 : 0 ≤ τ_196.1 26 ∧ τ_196.1 26 ≤ 5000010 := hT.1 26
                  have v28 : 0 ≤ τ_196.1 28 ∧ τ_196.1 28 ≤ 1 := hT.1 28
                  have v29 : 0 ≤ τ_196.1 29 ∧ τ_196.1 29 ≤ 300 := hT.1 29
                  have a18_22 : 0 ≤ τ_196.2.1 18 (τ_196.1 22) ∧ τ_196.2.1 18 (τ_196.1 22) ≤ 90000 := hT.2 18 _
                  have a19_22 : 0 ≤ τ_196.2.1 19 (τ_196.1 22) ∧ τ_196.2.1 19 (τ_196.1 22) ≤ 60 := hT.2 19 _
                  have a25_22 : 0 ≤ τ_196.2.1 25 (τ_196.1 22) ∧ τ_196.2.1 25 (τ_196.1 22) ≤ 20000 := hT.2 25 _
                  have a26_22 : 0 ≤ τ_196.2.1 26 (τ_196.1 22) ∧ τ_196.2.1 26 (τ_196.1 22) ≤ 20000 := hT.2 26 _
                  have a28_9 : 0 ≤ τ_196.2.1 28 (τ_196.1 9) ∧ τ_196.2.1 28 (τ_196.1 9) ≤ 1 := hT.2 28 _
                  have av9 : σ.1 9 ≤ τ_196.1 9 := ag.1 9 (by decide)
                  refine h196 _ ?_
                  replace ag := ag_v (i := 26) (x := 0) ag (Or.inl rfl)
                  replace hT := mT_v (i := 26) hT (show (0 : Int) ≤ 0 ∧ 0 ≤ 5000010 from by (first | omega | (simp only [st_s] <;> omega) | assumption | omega))
                  replace ag := ag_v (i := 27) (x := 0) ag (Or.inl rfl)
                  replace hT := mT_v (i := 27) hT (show (0 : Int) ≤ 0 ∧ 0 ≤ 1 from by (first | omega | (simp only [st_s] <;> omega) | assumption | omega))
                  exact ⟨hT, (show ¬ (σ.1 20) = 0 → (τ_196.1 20) = (σ.1 20) from by (first | omega | (simp only [st_s] <;> omega) | assumption | omega)), (show τ_196.2.1 25 (τ_196.1 22) + τ_196.2.1 26 (τ_196.1 22) = (τ_196.1 9) from Z4), (show ca (τ_196.2.1 28) ((τ_196.1 9)) ≤ ca (τ_196.2.1 28) (τ_196.2.1 25 (τ_196.1 22)) + (τ_196.1 29) from Y10), (show ¬ (τ_196.1 28) = 0 → τ_196.2.1 25 (τ_196.1 22) < (τ_196.1 9) ∧ τ_196.2.1 28 ((τ_196.1 9) - 1) = 0 from by (first | assumption | omega | (intro _; refine ⟨by omega, ?_⟩; first | exact hz | (rw [e_τ_196]; exact hz)))), (show j_eq (σ.2.1 25 (σ.1 22)) (σ.2.1 28) (τ_196.2.1 28) from Y13), (show ((0 : Int)) = 0 from by (first | omega | (simp only [st_s] <;> omega) | assumption | omega)), ag⟩
                ·
                  refine h193 _ _ ?_
                  refine ⟨(show 0 ≤ 1 ∧ 1 ≤ 1 from by (first | omega | (simp only [st_s] <;> omega) | assumption | omega)), ?_⟩
                  replace ag := ag_v (i := 28) (x := 1) ag (Or.inl rfl)
                  replace hT := mT_v (i := 28) hT (show (0 : Int) ≤ 1 ∧ 1 ≤ 1 from by (first | omega | (simp only [st_s] <;> omega) | assumption | omega))
                  obtain ⟨τ_196, e_τ_196⟩ : ∃ z : S0, z = s_v τ28 28 1 := ⟨_, rfl⟩
                  rw [← e_τ_196]
                  replace hT : m_T τ_196 := by rw [e_τ_196]; exact hT
                  replace ag : m_ag σ τ_196 := by rw [e_τ_196]; exact ag
                  have w3_τ_196 : τ_196.1 3 = τ28.1 3 := by rw [e_τ_196]; rfl
                  have w5_τ_196 : τ_196.1 5 = τ28.1 5 := by rw [e_τ_196]; rfl
                  have w6_τ_196 : τ_196.1 6 = τ28.1 6 := by rw [e_τ_196]; rfl
                  have w7_τ_196 : τ_196.1 7 = τ28.1 7 := by rw [e_τ_196]; rfl
                  have w8_τ_196 : τ_196.1 8 = τ28.1 8 := by rw [e_τ_196]; rfl
                  have w9_τ_196 : τ_196.1 9 = τ28.1 9 := by rw [e_τ_196]; rfl
                  have w20_τ_196 : τ_196.1 20 = τ28.1 20 := by rw [e_τ_196]; rfl
                  have w22_τ_196 : τ_196.1 22 = τ28.1 22 := by rw [e_τ_196]; rfl
                  have w25_τ_196 : τ_196.1 25 = τ28.1 25 := by rw [e_τ_196]; rfl
                  have w26_τ_196 : τ_196.1 26 = τ28.1 26 := by rw [e_τ_196]; rfl
                  have w28_τ_196 : τ_196.1 28 = 1 := by rw [e_τ_196]; rfl
                  have w29_τ_196 : τ_196.1 29 = τ28.1 29 := by rw [e_τ_196]; rfl
                  have g18_τ_196 : τ_196.2.1 18 = τ28.2.1 18 := by rw [e_τ_196]; rfl
                  have g19_τ_196 : τ_196.2.1 19 = τ28.2.1 19 := by rw [e_τ_196]; rfl
                  have g25_τ_196 : τ_196.2.1 25 = τ28.2.1 25 := by rw [e_τ_196]; rfl
                  have g26_τ_196 : τ_196.2.1 26 = τ28.2.1 26 := by rw [e_τ_196]; rfl
                  have g28_τ_196 : τ_196.2.1 28 = τ28.2.1 28 := by rw [e_τ_196]; rfl
                  have W3 : τ_196.1 3 = σ.1 3 := by omega
                  have W5 : τ_196.1 5 = σ.1 5 := by omega
                  have W6 : τ_196.1 6 = σ.1 6 := by omega
                  have W7 : τ_196.1 7 = σ.1 7 := by omega
                  have W8 : τ_196.1 8 = σ.1 8 := by omega
                  have W22 : τ_196.1 22 = σ.1 22 := by omega
                  have W25 : τ_196.1 25 = σ.1 25 := by omega
                  have W29 : τ_196.1 29 = σ.1 29 := by omega
                  have G18 : τ_196.2.1 18 = σ.2.1 18 := (g18_τ_196).trans G18
                  have G19 : τ_196.2.1 19 = σ.2.1 19 := (g19_τ_196).trans G19
                  have G25 : τ_196.2.1 25 = σ.2.1 25 := (g25_τ_196).trans G25
                  have y18_22_τ_196 : τ_196.2.1 18 (τ_196.1 22) = (τ28.2.1 18) (τ28.1 22) := by rw [g18_τ_196, w22_τ_196]
                  have y19_22_τ_196 : τ_196.2.1 19 (τ_196.1 22) = (τ28.2.1 19) (τ28.1 22) := by rw [g19_τ_196, w22_τ_196]
                  have y25_22_τ_196 : τ_196.2.1 25 (τ_196.1 22) = (τ28.2.1 25) (τ28.1 22) := by rw [g25_τ_196, w22_τ_196]
                  have y26_22_τ_196 : τ_196.2.1 26 (τ_196.1 22) = (τ28.2.1 26) (τ28.1 22) := by rw [g26_τ_196, w22_τ_196]
                  have y28_9_τ_196 : τ_196.2.1 28 (τ_196.1 9) = (τ28.2.1 28) (τ28.1 9) := by rw [g28_τ_196, w9_τ_196]
                  have Z4 : τ_196.2.1 25 (τ_196.1 22) + τ_196.2.1 26 (τ_196.1 22) = (τ_196.1 9) := by rw [show (τ_196.2.1 25 (τ_196.1 22) + τ_196.2.1 26 (τ_196.1 22) = (τ_196.1 9)) = (τ28.2.1 25 (τ28.1 22) + τ28.2.1 26 (τ28.1 22) = (τ28.1 9)) from by rw [w9_τ_196, w22_τ_196, g25_τ_196, g26_τ_196]]; exact Z4
                  have Y10 : ca (τ_196.2.1 28) ((τ_196.1 9)) ≤ ca (τ_196.2.1 28) (τ_196.2.1 25 (τ_196.1 22)) + (τ_196.1 29) := by rw [show (ca (τ_196.2.1 28) ((τ_196.1 9)) ≤ ca (τ_196.2.1 28) (τ_196.2.1 25 (τ_196.1 22)) + (τ_196.1 29)) = (ca (τ28.2.1 28) ((τ28.1 9)) ≤ ca (τ28.2.1 28) (τ28.2.1 25 (τ28.1 22)) + (τ28.1 29)) from by rw [w9_τ_196, w22_τ_196, w29_τ_196, g25_τ_196, g28_τ_196]]; exact Y10
                  have Y13 : j_eq (σ.2.1 25 (σ.1 22)) (σ.2.1 28) (τ_196.2.1 28) := by rw [show (j_eq (σ.2.1 25 (σ.1 22)) (σ.2.1 28) (τ_196.2.1 28)) = (j_eq (σ.2.1 25 (σ.1 22)) (σ.2.1 28) (τ28.2.1 28)) from by rw [g28_τ_196]]; exact Y13
                  have A18 : ∀ j, 0 ≤ τ_196.2.1 18 j ∧ τ_196.2.1 18 j ≤ 90000 := fun j => hT.2 18 j
                  have A19 : ∀ j, 0 ≤ τ_196.2.1 19 j ∧ τ_196.2.1 19 j ≤ 60 := fun j => hT.2 19 j
                  have A25 : ∀ j, 0 ≤ τ_196.2.1 25 j ∧ τ_196.2.1 25 j ≤ 20000 := fun j => hT.2 25 j
                  have A26 : ∀ j, 0 ≤ τ_196.2.1 26 j ∧ τ_196.2.1 26 j ≤ 20000 := fun j => hT.2 26 j
                  have A28 : ∀ j, 0 ≤ τ_196.2.1 28 j ∧ τ_196.2.1 28 j ≤ 1 := fun j => hT.2 28 j
                  have v3 : 0 ≤ τ_196.1 3 ∧ τ_196.1 3 ≤ 1000 := hT.1 3
                  have v5 : 0 ≤ τ_196.1 5 ∧ τ_196.1 5 ≤ 1500 := hT.1 5
                  have v6 : 0 ≤ τ_196.1 6 ∧ τ_196.1 6 ≤ 30000 := hT.1 6
                  have v7 : 0 ≤ τ_196.1 7 ∧ τ_196.1 7 ≤ 90000 := hT.1 7
                  have v8 : 0 ≤ τ_196.1 8 ∧ τ_196.1 8 ≤ 20000 := hT.1 8
                  have v9 : 0 ≤ τ_196.1 9 ∧ τ_196.1 9 ≤ 20000 := hT.1 9
                  have v20 : 0 ≤ τ_196.1 20 ∧ τ_196.1 20 ≤ 19 := hT.1 20
                  have v22 : 0 ≤ τ_196.1 22 ∧ τ_196.1 22 ≤ 1499 := hT.1 22
                  have v25 : 0 ≤ τ_196.1 25 ∧ τ_196.1 25 ≤ 300 := hT.1 25
                  have v26 : 0 ≤ τ_196.1 26 ∧ τ_196.1 26 ≤ 5000010 := hT.1 26
                  have v28 : 0 ≤ τ_196.1 28 ∧ τ_196.1 28 ≤ 1 := hT.1 28
                  have v29 : 0 ≤ τ_196.1 29 ∧ τ_196.1 29 ≤ 300 := hT.1 29
                  have a18_22 : 0 ≤ τ_196.2.1 18 (τ_196.1 22) ∧ τ_196.2.1 18 (τ_196.1 22) ≤ 90000 := hT.2 18 _
                  have a19_22 : 0 ≤ τ_196.2.1 19 (τ_196.1 22) ∧ τ_196.2.1 19 (τ_196.1 22) ≤ 60 := hT.2 19 _
                  have a25_22 : 0 ≤ τ_196.2.1 25 (τ_196.1 22) ∧ τ_196.2.1 25 (τ_196.1 22) ≤ 20000 := hT.2 25 _
                  have a26_22 : 0 ≤ τ_196.2.1 26 (τ_196.1 22) ∧ τ_196.2.1 26 (τ_196.1 22) ≤ 20000 := hT.2 26 _
                  have a28_9 : 0 ≤ τ_196.2.1 28 (τ_196.1 9) ∧ τ_196.2.1 28 (τ_196.1 9) ≤ 1 := hT.2 28 _
                  have av9 : σ.1 9 ≤ τ_196.1 9 := ag.1 9 (by decide)
                  refine h196 _ ?_
                  replace ag := ag_v (i := 26) (x := 0) ag (Or.inl rfl)
                  replace hT := mT_v (i := 26) hT (show (0 : Int) ≤ 0 ∧ 0 ≤ 5000010 from by (first | omega | (simp only [st_s] <;> omega) | assumption | omega))
                  replace ag := ag_v (i := 27) (x := 0) ag (Or.inl rfl)
                  replace hT := mT_v (i := 27) hT (show (0 : Int) ≤ 0 ∧ 0 ≤ 1 from by (first | omega | (simp only [st_s] <;> omega) | assumption | omega))
                  exact ⟨hT, (show ¬ (σ.1 20) = 0 → (τ_196.1 20) = (σ.1 20) from by (first | omega | (simp only [st_s] <;> omega) | assumption | omega)), (show τ_196.2.1 25 (τ_196.1 22) + τ_196.2.1 26 (τ_196.1 22) = (τ_196.1 9) from Z4), (show ca (τ_196.2.1 28) ((τ_196.1 9)) ≤ ca (τ_196.2.1 28) (τ_196.2.1 25 (τ_196.1 22)) + (τ_196.1 29) from Y10), (show ¬ (τ_196.1 28) = 0 → τ_196.2.1 25 (τ_196.1 22) < (τ_196.1 9) ∧ τ_196.2.1 28 ((τ_196.1 9) - 1) = 0 from by (first | assumption | omega | (intro _; refine ⟨by omega, ?_⟩; first | exact hz | (rw [e_τ_196]; exact hz)))), (show j_eq (σ.2.1 25 (σ.1 22)) (σ.2.1 28) (τ_196.2.1 28) from Y13), (show ((0 : Int)) = 0 from by (first | omega | (simp only [st_s] <;> omega) | assumption | omega)), ag⟩
          ·
            refine ⟨(⟨by (first | omega | (simp only [st_s] <;> omega) | assumption | omega), by (first | omega | (simp only [st_s] <;> omega) | assumption | omega)⟩ : rg ((-1) - (((n1 - 1) - x2) - σ.1 25))), ?_⟩
            refine h162 _ _ _ _ ?_
            refine ⟨_, K_X13_addStep hT (show -300 ≤ ((-1) - (((n1 - 1) - x2) - σ.1 25)) from by (first | omega | (simp only [st_s] <;> omega) | assumption | omega)) (show ((-1) - (((n1 - 1) - x2) - σ.1 25)) ≤ 1499 from by (first | omega | (simp only [st_s] <;> omega) | assumption | omega)) (show 0 ≤ n2 from by (first | omega | (simp only [st_s] <;> omega) | assumption | omega)) (show n2 ≤ 60000 from by (first | omega | (simp only [st_s] <;> omega) | assumption | omega)) (show (σ.1 9) < 20000 from by (first | omega | (simp only [st_s] <;> omega) | assumption | omega)) (show σ.2.1 26 (σ.1 22) < 20000 from by (first | omega | (simp only [st_s] <;> omega) | assumption | omega)) (show (σ.1 22) = (σ.1 5) from by (first | omega | (simp only [st_s] <;> omega) | assumption | omega)), ?_⟩
            intro τ28 hn_τ28 hf_τ28 hq
            obtain ⟨hT, q26_1, q26_2, q26_3, q26_4, q26_5, q26_6, q26_7⟩ := hq
            replace q26_1 : (τ28.1 9) = (σ.1 9) + 1 := q26_1
            replace q26_2 : τ28.2.1 26 (τ28.1 22) = σ.2.1 26 (σ.1 22) + 1 := q26_2
            replace q26_3 : τ28.2.1 27 = st (σ.2.1 27) (σ.1 9) ((-1) - (((n1 - 1) - x2) - σ.1 25)) := q26_3
            replace q26_4 : j_eq ((σ.1 9)) (σ.2.1 28) (τ28.2.1 28) := q26_4
            replace q26_5 : ca (τ28.2.1 28) ((τ28.1 9)) = ca (σ.2.1 28) ((σ.1 9)) := q26_5
            replace q26_6 : τ28.2.1 28 (σ.1 9) = 0 := q26_6
            replace q26_7 : m_ag σ τ28 := q26_7
            replace ag : m_ag σ τ28 := ag_t ag q26_7 rfl
            have w3_τ28 : τ28.1 3 = σ.1 3 := hf_τ28.1 3 (by decide)
            have w5_τ28 : τ28.1 5 = σ.1 5 := hf_τ28.1 5 (by decide)
            have w6_τ28 : τ28.1 6 = σ.1 6 := hf_τ28.1 6 (by decide)
            have w7_τ28 : τ28.1 7 = σ.1 7 := hf_τ28.1 7 (by decide)
            have w8_τ28 : τ28.1 8 = σ.1 8 := hf_τ28.1 8 (by decide)
            have w20_τ28 : τ28.1 20 = σ.1 20 := hf_τ28.1 20 (by decide)
            have w22_τ28 : τ28.1 22 = σ.1 22 := hf_τ28.1 22 (by decide)
            have w25_τ28 : τ28.1 25 = σ.1 25 := hf_τ28.1 25 (by decide)
            have w26_τ28 : τ28.1 26 = σ.1 26 := hf_τ28.1 26 (by decide)
            have w28_τ28 : τ28.1 28 = σ.1 28 := hf_τ28.1 28 (by decide)
            have w29_τ28 : τ28.1 29 = σ.1 29 := hf_τ28.1 29 (by decide)
            have g18_τ28 : τ28.2.1 18 = σ.2.1 18 := hf_τ28.2.1 18 (by decide)
            have g19_τ28 : τ28.2.1 19 = σ.2.1 19 := hf_τ28.2.1 19 (by decide)
            have g25_τ28 : τ28.2.1 25 = σ.2.1 25 := hf_τ28.2.1 25 (by decide)
            have W3 : τ28.1 3 = σ.1 3 := by omega
            have W5 : τ28.1 5 = σ.1 5 := by omega
            have W6 : τ28.1 6 = σ.1 6 := by omega
            have W7 : τ28.1 7 = σ.1 7 := by omega
            have W8 : τ28.1 8 = σ.1 8 := by omega
            have W22 : τ28.1 22 = σ.1 22 := by omega
            have W25 : τ28.1 25 = σ.1 25 := by omega
            have W29 : τ28.1 29 = σ.1 29 := by omega
            have G18 : τ28.2.1 18 = σ.2.1 18 := (g18_τ28).trans G18
            have G19 : τ28.2.1 19 = σ.2.1 19 := (g19_τ28).trans G19
            have G25 : τ28.2.1 25 = σ.2.1 25 := (g25_τ28).trans G25
            have y18_22_τ28 : τ28.2.1 18 (τ28.1 22) = (σ.2.1 18) (σ.1 22) := by rw [g18_τ28, w22_τ28]
            have y19_22_τ28 : τ28.2.1 19 (τ28.1 22) = (σ.2.1 19) (σ.1 22) := by rw [g19_τ28, w22_τ28]
            have y25_22_τ28 : τ28.2.1 25 (τ28.1 22) = (σ.2.1 25) (σ.1 22) := by rw [g25_τ28, w22_τ28]
            have A18 : ∀ j, 0 ≤ τ28.2.1 18 j ∧ τ28.2.1 18 j ≤ 90000 := fun j => hT.2 18 j
            have A19 : ∀ j, 0 ≤ τ28.2.1 19 j ∧ τ28.2.1 19 j ≤ 60 := fun j => hT.2 19 j
            have A25 : ∀ j, 0 ≤ τ28.2.1 25 j ∧ τ28.2.1 25 j ≤ 20000 := fun j => hT.2 25 j
            have A26 : ∀ j, 0 ≤ τ28.2.1 26 j ∧ τ28.2.1 26 j ≤ 20000 := fun j => hT.2 26 j
            have A28 : ∀ j, 0 ≤ τ28.2.1 28 j ∧ τ28.2.1 28 j ≤ 1 := fun j => hT.2 28 j
            have v3 : 0 ≤ τ28.1 3 ∧ τ28.1 3 ≤ 1000 := hT.1 3
            have v5 : 0 ≤ τ28.1 5 ∧ τ28.1 5 ≤ 1500 := hT.1 5
            have v6 : 0 ≤ τ28.1 6 ∧ τ28.1 6 ≤ 30000 := hT.1 6
            have v7 : 0 ≤ τ28.1 7 ∧ τ28.1 7 ≤ 90000 := hT.1 7
            have v8 : 0 ≤ τ28.1 8 ∧ τ28.1 8 ≤ 20000 := hT.1 8
            have v9 : 0 ≤ τ28.1 9 ∧ τ28.1 9 ≤ 20000 := hT.1 9
            have v20 : 0 ≤ τ28.1 20 ∧ τ28.1 20 ≤ 19 := hT.1 20
            have v22 : 0 ≤ τ28.1 22 ∧ τ28.1 22 ≤ 1499 := hT.1 22
            have v25 : 0 ≤ τ28.1 25 ∧ τ28.1 25 ≤ 300 := hT.1 25
            have v26 : 0 ≤ τ28.1 26 ∧ τ28.1 26 ≤ 5000010 := hT.1 26
            have v28 : 0 ≤ τ28.1 28 ∧ τ28.1 28 ≤ 1 := hT.1 28
            have v29 : 0 ≤ τ28.1 29 ∧ τ28.1 29 ≤ 300 := hT.1 29
            have a18_22 : 0 ≤ τ28.2.1 18 (τ28.1 22) ∧ τ28.2.1 18 (τ28.1 22) ≤ 90000 := hT.2 18 _
            have a19_22 : 0 ≤ τ28.2.1 19 (τ28.1 22) ∧ τ28.2.1 19 (τ28.1 22) ≤ 60 := hT.2 19 _
            have a25_22 : 0 ≤ τ28.2.1 25 (τ28.1 22) ∧ τ28.2.1 25 (τ28.1 22) ≤ 20000 := hT.2 25 _
            have a26_22 : 0 ≤ τ28.2.1 26 (τ28.1 22) ∧ τ28.2.1 26 (τ28.1 22) ≤ 20000 := hT.2 26 _
            have a28_9 : 0 ≤ τ28.2.1 28 (τ28.1 9) ∧ τ28.2.1 28 (τ28.1 9) ≤ 1 := hT.2 28 _
            have av9 : σ.1 9 ≤ τ28.1 9 := ag.1 9 (by decide)
            have hz : τ28.2.1 28 (τ28.1 9 - 1) = 0 := by rw [show τ28.1 9 - 1 = σ.1 9 from by omega]; exact q26_6
            have Z4 : τ28.2.1 25 (τ28.1 22) + τ28.2.1 26 (τ28.1 22) = τ28.1 9 := by omega
            have ce := ca_eq q26_4 (n := σ.2.1 25 (σ.1 22)) (by omega)
            have Y10 : ca (τ28.2.1 28) (τ28.1 9) ≤ ca (τ28.2.1 28) (τ28.2.1 25 (τ28.1 22)) + τ28.1 29 := by rw [y25_22_τ28, ce, q26_5]; omega
            have Y12 : ¬ τ28.1 28 = 0 → τ28.2.1 25 (τ28.1 22) < τ28.1 9 ∧ τ28.2.1 28 (τ28.1 9 - 1) = 0 := fun _ => ⟨by omega, hz⟩
            have Y13 := j_eqw q26_4 (show σ.2.1 25 (σ.1 22) ≤ σ.1 9 from by omega)
            refine ⟨fun c29 => ?_, fun c29 => ?_⟩
            ·
              refine h193 _ _ ?_
              refine ⟨(show 0 ≤ 0 ∧ 0 ≤ 1 from by (first | omega | (simp only [st_s] <;> omega) | assumption | omega)), ?_⟩
              replace ag := ag_v (i := 28) (x := 0) ag (Or.inl rfl)
              replace hT := mT_v (i := 28) hT (show (0 : Int) ≤ 0 ∧ 0 ≤ 1 from by (first | omega | (simp only [st_s] <;> omega) | assumption | omega))
              obtain ⟨τ_196, e_τ_196⟩ : ∃ z : S0, z = s_v τ28 28 0 := ⟨_, rfl⟩
              rw [← e_τ_196]
              replace hT : m_T τ_196 := by rw [e_τ_196]; exact hT
              replace ag : m_ag σ τ_196 := by rw [e_τ_196]; exact ag
              have w3_τ_196 : τ_196.1 3 = τ28.1 3 := by rw [e_τ_196]; rfl
              have w5_τ_196 : τ_196.1 5 = τ28.1 5 := by rw [e_τ_196]; rfl
              have w6_τ_196 : τ_196.1 6 = τ28.1 6 := by rw [e_τ_196]; rfl
              have w7_τ_196 : τ_196.1 7 = τ28.1 7 := by rw [e_τ_196]; rfl
              have w8_τ_196 : τ_196.1 8 = τ28.1 8 := by rw [e_τ_196]; rfl
              have w9_τ_196 : τ_196.1 9 = τ28.1 9 := by rw [e_τ_196]; rfl
              have w20_τ_196 : τ_196.1 20 = τ28.1 20 := by rw [e_τ_196]; rfl
              have w22_τ_196 : τ_196.1 22 = τ28.1 22 := by rw [e_τ_196]; rfl
              have w25_τ_196 : τ_196.1 25 = τ28.1 25 := by rw [e_τ_196]; rfl
              have w26_τ_196 : τ_196.1 26 = τ28.1 26 := by rw [e_τ_196]; rfl
              have w28_τ_196 : τ_196.1 28 = 0 := by rw [e_τ_196]; rfl
              have w29_τ_196 : τ_196.1 29 = τ28.1 29 := by rw [e_τ_196]; rfl
              have g18_τ_196 : τ_196.2.1 18 = τ28.2.1 18 := by rw [e_τ_196]; rfl
              have g19_τ_196 : τ_196.2.1 19 = τ28.2.1 19 := by rw [e_τ_196]; rfl
              have g25_τ_196 : τ_196.2.1 25 = τ28.2.1 25 := by rw [e_τ_196]; rfl
              have g26_τ_196 : τ_196.2.1 26 = τ28.2.1 26 := by rw [e_τ_196]; rfl
              have g28_τ_196 : τ_196.2.1 28 = τ28.2.1 28 := by rw [e_τ_196]; rfl
              have W3 : τ_196.1 3 = σ.1 3 := by omega
              have W5 : τ_196.1 5 = σ.1 5 := by omega
              have W6 : τ_196.1 6 = σ.1 6 := by omega
              have W7 : τ_196.1 7 = σ.1 7 := by omega
              have W8 : τ_196.1 8 = σ.1 8 := by omega
              have W22 : τ_196.1 22 = σ.1 22 := by omega
              have W25 : τ_196.1 25 = σ.1 25 := by omega
              have W29 : τ_196.1 29 = σ.1 29 := by omega
              have G18 : τ_196.2.1 18 = σ.2.1 18 := (g18_τ_196).trans G18
              have G19 : τ_196.2.1 19 = σ.2.1 19 := (g19_τ_196).trans G19
              have G25 : τ_196.2.1 25 = σ.2.1 25 := (g25_τ_196).trans G25
              have y18_22_τ_196 : τ_196.2.1 18 (τ_196.1 22) = (τ28.2.1 18) (τ28.1 22) := by rw [g18_τ_196, w22_τ_196]
              have y19_22_τ_196 : τ_196.2.1 19 (τ_196.1 22) = (τ28.2.1 19) (τ28.1 22) := by rw [g19_τ_196, w22_τ_196]
              have y25_22_τ_196 : τ_196.2.1 25 (τ_196.1 22) = (τ28.2.1 25) (τ28.1 22) := by rw [g25_τ_196, w22_τ_196]
              have y26_22_τ_196 : τ_196.2.1 26 (τ_196.1 22) = (τ28.2.1 26) (τ28.1 22) := by rw [g26_τ_196, w22_τ_196]
              have y28_9_τ_196 : τ_196.2.1 28 (τ_196.1 9) = (τ28.2.1 28) (τ28.1 9) := by rw [g28_τ_196, w9_τ_196]
              have Z4 : τ_196.2.1 25 (τ_196.1 22) + τ_196.2.1 26 (τ_196.1 22) = (τ_196.1 9) := by rw [show (τ_196.2.1 25 (τ_196.1 22) + τ_196.2.1 26 (τ_196.1 22) = (τ_196.1 9)) = (τ28.2.1 25 (τ28.1 22) + τ28.2.1 26 (τ28.1 22) = (τ28.1 9)) from by rw [w9_τ_196, w22_τ_196, g25_τ_196, g26_τ_196]]; exact Z4
              have Y10 : ca (τ_196.2.1 28) ((τ_196.1 9)) ≤ ca (τ_196.2.1 28) (τ_196.2.1 25 (τ_196.1 22)) + (τ_196.1 29) := by rw [show (ca (τ_196.2.1 28) ((τ_196.1 9)) ≤ ca (τ_196.2.1 28) (τ_196.2.1 25 (τ_196.1 22)) + (τ_196.1 29)) = (ca (τ28.2.1 28) ((τ28.1 9)) ≤ ca (τ28.2.1 28) (τ28.2.1 25 (τ28.1 22)) + (τ28.1 29)) from by rw [w9_τ_196, w22_τ_196, w29_τ_196, g25_τ_196, g28_τ_196]]; exact Y10
              have Y13 : j_eq (σ.2.1 25 (σ.1 22)) (σ.2.1 28) (τ_196.2.1 28) := by rw [show (j_eq (σ.2.1 25 (σ.1 22)) (σ.2.1 28) (τ_196.2.1 28)) = (j_eq (σ.2.1 25 (σ.1 22)) (σ.2.1 28) (τ28.2.1 28)) from by rw [g28_τ_196]]; exact Y13
              have A18 : ∀ j, 0 ≤ τ_196.2.1 18 j ∧ τ_196.2.1 18 j ≤ 90000 := fun j => hT.2 18 j
              have A19 : ∀ j, 0 ≤ τ_196.2.1 19 j ∧ τ_196.2.1 19 j ≤ 60 := fun j => hT.2 19 j
              have A25 : ∀ j, 0 ≤ τ_196.2.1 25 j ∧ τ_196.2.1 25 j ≤ 20000 := fun j => hT.2 25 j
              have A26 : ∀ j, 0 ≤ τ_196.2.1 26 j ∧ τ_196.2.1 26 j ≤ 20000 := fun j => hT.2 26 j
              have A28 : ∀ j, 0 ≤ τ_196.2.1 28 j ∧ τ_196.2.1 28 j ≤ 1 := fun j => hT.2 28 j
              have v3 : 0 ≤ τ_196.1 3 ∧ τ_196.1 3 ≤ 1000 := hT.1 3
              have v5 : 0 ≤ τ_196.1 5 ∧ τ_196.1 5 ≤ 1500 := hT.1 5
              have v6 : 0 ≤ τ_196.1 6 ∧ τ_196.1 6 ≤ 30000 := hT.1 6
              have v7 : 0 ≤ τ_196.1 7 ∧ τ_196.1 7 ≤ 90000 := hT.1 7
              have v8 : 0 ≤ τ_196.1 8 ∧ τ_196.1 8 ≤ 20000 := hT.1 8
              have v9 : 0 ≤ τ_196.1 9 ∧ τ_196.1 9 ≤ 20000 := hT.1 9
              have v20 : 0 ≤ τ_196.1 20 ∧ τ_196.1 20 ≤ 19 := hT.1 20
              have v22 : 0 ≤ τ_196.1 22 ∧ τ_196.1 22 ≤ 1499 := hT.1 22
              have v25 : 0 ≤ τ_196.1 25 ∧ τ_196.1 25 ≤ 300 := hT.1 25
              have v26 : 0 ≤ τ_196.1 26 ∧ τ_196.1 26 ≤ 5000010 := hT.1 26
              have v28 : 0 ≤ τ_196.1 28 ∧ τ_196.1 28 ≤ 1 := hT.1 28
              have v29 : 0 ≤ τ_196.1 29 ∧ τ_196.1 29 ≤ 300 := hT.1 29
              have a18_22 : 0 ≤ τ_196.2.1 18 (τ_196.1 22) ∧ τ_196.2.1 18 (τ_196.1 22) ≤ 90000 := hT.2 18 _
              have a19_22 : 0 ≤ τ_196.2.1 19 (τ_196.1 22) ∧ τ_196.2.1 19 (τ_196.1 22) ≤ 60 := hT.2 19 _
              have a25_22 : 0 ≤ τ_196.2.1 25 (τ_196.1 22) ∧ τ_196.2.1 25 (τ_196.1 22) ≤ 20000 := hT.2 25 _
              have a26_22 : 0 ≤ τ_196.2.1 26 (τ_196.1 22) ∧ τ_196.2.1 26 (τ_196.1 22) ≤ 20000 := hT.2 26 _
              have a28_9 : 0 ≤ τ_196.2.1 28 (τ_196.1 9) ∧ τ_196.2.1 28 (τ_196.1 9) ≤ 1 := hT.2 28 _
              have av9 : σ.1 9 ≤ τ_196.1 9 := ag.1 9 (by decide)
              refine h196 _ ?_
              replace ag := ag_v (i := 26) (x := 0) ag (Or.inl rfl)
              replace hT := mT_v (i := 26) hT (show (0 : Int) ≤ 0 ∧ 0 ≤ 5000010 from by (first | omega | (simp only [st_s] <;> omega) | assumption | omega))
              replace ag := ag_v (i := 27) (x := 0) ag (Or.inl rfl)
              replace hT := mT_v (i := 27) hT (show (0 : Int) ≤ 0 ∧ 0 ≤ 1 from by (first | omega | (simp only [st_s] <;> omega) | assumption | omega))
              exact ⟨hT, (show ¬ (σ.1 20) = 0 → (τ_196.1 20) = (σ.1 20) from by (first | omega | (simp only [st_s] <;> omega) | assumption | omega)), (show τ_196.2.1 25 (τ_196.1 22) + τ_196.2.1 26 (τ_196.1 22) = (τ_196.1 9) from Z4), (show ca (τ_196.2.1 28) ((τ_196.1 9)) ≤ ca (τ_196.2.1 28) (τ_196.2.1 25 (τ_196.1 22)) + (τ_196.1 29) from Y10), (show ¬ (τ_196.1 28) = 0 → τ_196.2.1 25 (τ_196.1 22) < (τ_196.1 9) ∧ τ_196.2.1 28 ((τ_196.1 9) - 1) = 0 from by (first | assumption | omega | (intro _; refine ⟨by omega, ?_⟩; first | exact hz | (rw [e_τ_196]; exact hz)))), (show j_eq (σ.2.1 25 (σ.1 22)) (σ.2.1 28) (τ_196.2.1 28) from Y13), (show ((0 : Int)) = 0 from by (first | omega | (simp only [st_s] <;> omega) | assumption | omega)), ag⟩
            ·
              refine ⟨(show 0 ≤ ((-1) - (((n1 - 1) - x2) - σ.1 25)) ∧ ((-1) - (((n1 - 1) - x2) - σ.1 25)) < 1501 from by (first | omega | (simp only [st_s] <;> omega) | assumption | omega)), ?_⟩
              intro x31 r_x31 e_x31
              have b_x31 : 0 ≤ x31 ∧ x31 ≤ 4 := by rw [e_x31]; exact hT.2 13 _
              refine ⟨fun c32 => ?_, fun c32 => ?_⟩
              ·
                refine h193 _ _ ?_
                refine ⟨(show 0 ≤ 0 ∧ 0 ≤ 1 from by (first | omega | (simp only [st_s] <;> omega) | assumption | omega)), ?_⟩
                replace ag := ag_v (i := 28) (x := 0) ag (Or.inl rfl)
                replace hT := mT_v (i := 28) hT (show (0 : Int) ≤ 0 ∧ 0 ≤ 1 from by (first | omega | (simp only [st_s] <;> omega) | assumption | omega))
                obtain ⟨τ_196, e_τ_196⟩ : ∃ z : S0, z = s_v τ28 28 0 := ⟨_, rfl⟩
                rw [← e_τ_196]
                replace hT : m_T τ_196 := by rw [e_τ_196]; exact hT
                replace ag : m_ag σ τ_196 := by rw [e_τ_196]; exact ag
                have w3_τ_196 : τ_196.1 3 = τ28.1 3 := by rw [e_τ_196]; rfl
                have w5_τ_196 : τ_196.1 5 = τ28.1 5 := by rw [e_τ_196]; rfl
                have w6_τ_196 : τ_196.1 6 = τ28.1 6 := by rw [e_τ_196]; rfl
                have w7_τ_196 : τ_196.1 7 = τ28.1 7 := by rw [e_τ_196]; rfl
                have w8_τ_196 : τ_196.1 8 = τ28.1 8 := by rw [e_τ_196]; rfl
                have w9_τ_196 : τ_196.1 9 = τ28.1 9 := by rw [e_τ_196]; rfl
                have w20_τ_196 : τ_196.1 20 = τ28.1 20 := by rw [e_τ_196]; rfl
                have w22_τ_196 : τ_196.1 22 = τ28.1 22 := by rw [e_τ_196]; rfl
                have w25_τ_196 : τ_196.1 25 = τ28.1 25 := by rw [e_τ_196]; rfl
                have w26_τ_196 : τ_196.1 26 = τ28.1 26 := by rw [e_τ_196]; rfl
                have w28_τ_196 : τ_196.1 28 = 0 := by rw [e_τ_196]; rfl
                have w29_τ_196 : τ_196.1 29 = τ28.1 29 := by rw [e_τ_196]; rfl
                have g18_τ_196 : τ_196.2.1 18 = τ28.2.1 18 := by rw [e_τ_196]; rfl
                have g19_τ_196 : τ_196.2.1 19 = τ28.2.1 19 := by rw [e_τ_196]; rfl
                have g25_τ_196 : τ_196.2.1 25 = τ28.2.1 25 := by rw [e_τ_196]; rfl
                have g26_τ_196 : τ_196.2.1 26 = τ28.2.1 26 := by rw [e_τ_196]; rfl
                have g28_τ_196 : τ_196.2.1 28 = τ28.2.1 28 := by rw [e_τ_196]; rfl
                have W3 : τ_196.1 3 = σ.1 3 := by omega
                have W5 : τ_196.1 5 = σ.1 5 := by omega
                have W6 : τ_196.1 6 = σ.1 6 := by omega
                have W7 : τ_196.1 7 = σ.1 7 := by omega
                have W8 : τ_196.1 8 = σ.1 8 := by omega
                have W22 : τ_196.1 22 = σ.1 22 := by omega
                have W25 : τ_196.1 25 = σ.1 25 := by omega
                have W29 : τ_196.1 29 = σ.1 29 := by omega
                have G18 : τ_196.2.1 18 = σ.2.1 18 := (g18_τ_196).trans G18
                have G19 : τ_196.2.1 19 = σ.2.1 19 := (g19_τ_196).trans G19
                have G25 : τ_196.2.1 25 = σ.2.1 25 := (g25_τ_196).trans G25
                have y18_22_τ_196 : τ_196.2.1 18 (τ_196.1 22) = (τ28.2.1 18) (τ28.1 22) := by rw [g18_τ_196, w22_τ_196]
                have y19_22_τ_196 : τ_196.2.1 19 (τ_196.1 22) = (τ28.2.1 19) (τ28.1 22) := by rw [g19_τ_196, w22_τ_196]
                have y25_22_τ_196 : τ_196.2.1 25 (τ_196.1 22) = (τ28.2.1 25) (τ28.1 22) := by rw [g25_τ_196, w22_τ_196]
                have y26_22_τ_196 : τ_196.2.1 26 (τ_196.1 22) = (τ28.2.1 26) (τ28.1 22) := by rw [g26_τ_196, w22_τ_196]
                have y28_9_τ_196 : τ_196.2.1 28 (τ_196.1 9) = (τ28.2.1 28) (τ28.1 9) := by rw [g28_τ_196, w9_τ_196]
                have Z4 : τ_196.2.1 25 (τ_196.1 22) + τ_196.2.1 26 (τ_196.1 22) = (τ_196.1 9) := by rw [show (τ_196.2.1 25 (τ_196.1 22) + τ_196.2.1 26 (τ_196.1 22) = (τ_196.1 9)) = (τ28.2.1 25 (τ28.1 22) + τ28.2.1 26 (τ28.1 22) = (τ28.1 9)) from by rw [w9_τ_196, w22_τ_196, g25_τ_196, g26_τ_196]]; exact Z4
                have Y10 : ca (τ_196.2.1 28) ((τ_196.1 9)) ≤ ca (τ_196.2.1 28) (τ_196.2.1 25 (τ_196.1 22)) + (τ_196.1 29) := by rw [show (ca (τ_196.2.1 28) ((τ_196.1 9)) ≤ ca (τ_196.2.1 28) (τ_196.2.1 25 (τ_196.1 22)) + (τ_196.1 29)) = (ca (τ28.2.1 28) ((τ28.1 9)) ≤ ca (τ28.2.1 28) (τ28.2.1 25 (τ28.1 22)) + (τ28.1 29)) from by rw [w9_τ_196, w22_τ_196, w29_τ_196, g25_τ_196, g28_τ_196]]; exact Y10
                have Y13 : j_eq (σ.2.1 25 (σ.1 22)) (σ.2.1 28) (τ_196.2.1 28) := by rw [show (j_eq (σ.2.1 25 (σ.1 22)) (σ.2.1 28) (τ_196.2.1 28)) = (j_eq (σ.2.1 25 (σ.1 22)) (σ.2.1 28) (τ28.2.1 28)) from by rw [g28_τ_196]]; exact Y13
                have A18 : ∀ j, 0 ≤ τ_196.2.1 18 j ∧ τ_196.2.1 18 j ≤ 90000 := fun j => hT.2 18 j
                have A19 : ∀ j, 0 ≤ τ_196.2.1 19 j ∧ τ_196.2.1 19 j ≤ 60 := fun j => hT.2 19 j
                have A25 : ∀ j, 0 ≤ τ_196.2.1 25 j ∧ τ_196.2.1 25 j ≤ 20000 := fun j => hT.2 25 j
                have A26 : ∀ j, 0 ≤ τ_196.2.1 26 j ∧ τ_196.2.1 26 j ≤ 20000 := fun j => hT.2 26 j
                have A28 : ∀ j, 0 ≤ τ_196.2.1 28 j ∧ τ_196.2.1 28 j ≤ 1 := fun j => hT.2 28 j
                have v3 : 0 ≤ τ_196.1 3 ∧ τ_196.1 3 ≤ 1000 := hT.1 3
                have v5 : 0 ≤ τ_196.1 5 ∧ τ_196.1 5 ≤ 1500 := hT.1 5
                have v6 : 0 ≤ τ_196.1 6 ∧ τ_196.1 6 ≤ 30000 := hT.1 6
                have v7 : 0 ≤ τ_196.1 7 ∧ τ_196.1 7 ≤ 90000 := hT.1 7
                have v8 : 0 ≤ τ_196.1 8 ∧ τ_196.1 8 ≤ 20000 := hT.1 8
                have v9 : 0 ≤ τ_196.1 9 ∧ τ_196.1 9 ≤ 20000 := hT.1 9
                have v20 : 0 ≤ τ_196.1 20 ∧ τ_196.1 20 ≤ 19 := hT.1 20
                have v22 : 0 ≤ τ_196.1 22 ∧ τ_196.1 22 ≤ 1499 := hT.1 22
                have v25 : 0 ≤ τ_196.1 25 ∧ τ_196.1 25 ≤ 300 := hT.1 25
                have v26 : 0 ≤ τ_196.1 26 ∧ τ_196.1 26 ≤ 5000010 := hT.1 26
                have v28 : 0 ≤ τ_196.1 28 ∧ τ_196.1 28 ≤ 1 := hT.1 28
                have v29 : 0 ≤ τ_196.1 29 ∧ τ_196.1 29 ≤ 300 := hT.1 29
                have a18_22 : 0 ≤ τ_196.2.1 18 (τ_196.1 22) ∧ τ_196.2.1 18 (τ_196.1 22) ≤ 90000 := hT.2 18 _
                have a19_22 : 0 ≤ τ_196.2.1 19 (τ_196.1 22) ∧ τ_196.2.1 19 (τ_196.1 22) ≤ 60 := hT.2 19 _
                have a25_22 : 0 ≤ τ_196.2.1 25 (τ_196.1 22) ∧ τ_196.2.1 25 (τ_196.1 22) ≤ 20000 := hT.2 25 _
                have a26_22 : 0 ≤ τ_196.2.1 26 (τ_196.1 22) ∧ τ_196.2.1 26 (τ_196.1 22) ≤ 20000 := hT.2 26 _
                have a28_9 : 0 ≤ τ_196.2.1 28 (τ_196.1 9) ∧ τ_196.2.1 28 (τ_196.1 9) ≤ 1 := hT.2 28 _
                have av9 : σ.1 9 ≤ τ_196.1 9 := ag.1 9 (by decide)
                refine h196 _ ?_
                replace ag := ag_v (i := 26) (x := 0) ag (Or.inl rfl)
                replace hT := mT_v (i := 26) hT (show (0 : Int) ≤ 0 ∧ 0 ≤ 5000010 from by (first | omega | (simp only [st_s] <;> omega) | assumption | omega))
                replace ag := ag_v (i := 27) (x := 0) ag (Or.inl rfl)
                replace hT := mT_v (i := 27) hT (show (0 : Int) ≤ 0 ∧ 0 ≤ 1 from by (first | omega | (simp only [st_s] <;> omega) | assumption | omega))
                exact ⟨hT, (show ¬ (σ.1 20) = 0 → (τ_196.1 20) = (σ.1 20) from by (first | omega | (simp only [st_s] <;> omega) | assumption | omega)), (show τ_196.2.1 25 (τ_196.1 22) + τ_196.2.1 26 (τ_196.1 22) = (τ_196.1 9) from Z4), (show ca (τ_196.2.1 28) ((τ_196.1 9)) ≤ ca (τ_196.2.1 28) (τ_196.2.1 25 (τ_196.1 22)) + (τ_196.1 29) from Y10), (show ¬ (τ_196.1 28) = 0 → τ_196.2.1 25 (τ_196.1 22) < (τ_196.1 9) ∧ τ_196.2.1 28 ((τ_196.1 9) - 1) = 0 from by (first | assumption | omega | (intro _; refine ⟨by omega, ?_⟩; first | exact hz | (rw [e_τ_196]; exact hz)))), (show j_eq (σ.2.1 25 (σ.1 22)) (σ.2.1 28) (τ_196.2.1 28) from Y13), (show ((0 : Int)) = 0 from by (first | omega | (simp only [st_s] <;> omega) | assumption | omega)), ag⟩
              ·
                refine h193 _ _ ?_
                refine ⟨(show 0 ≤ 1 ∧ 1 ≤ 1 from by (first | omega | (simp only [st_s] <;> omega) | assumption | omega)), ?_⟩
                replace ag := ag_v (i := 28) (x := 1) ag (Or.inl rfl)
                replace hT := mT_v (i := 28) hT (show (0 : Int) ≤ 1 ∧ 1 ≤ 1 from by (first | omega | (simp only [st_s] <;> omega) | assumption | omega))
                obtain ⟨τ_196, e_τ_196⟩ : ∃ z : S0, z = s_v τ28 28 1 := ⟨_, rfl⟩
                rw [← e_τ_196]
                replace hT : m_T τ_196 := by rw [e_τ_196]; exact hT
                replace ag : m_ag σ τ_196 := by rw [e_τ_196]; exact ag
                have w3_τ_196 : τ_196.1 3 = τ28.1 3 := by rw [e_τ_196]; rfl
                have w5_τ_196 : τ_196.1 5 = τ28.1 5 := by rw [e_τ_196]; rfl
                have w6_τ_196 : τ_196.1 6 = τ28.1 6 := by rw [e_τ_196]; rfl
                have w7_τ_196 : τ_196.1 7 = τ28.1 7 := by rw [e_τ_196]; rfl
                have w8_τ_196 : τ_196.1 8 = τ28.1 8 := by rw [e_τ_196]; rfl
                have w9_τ_196 : τ_196.1 9 = τ28.1 9 := by rw [e_τ_196]; rfl
                have w20_τ_196 : τ_196.1 20 = τ28.1 20 := by rw [e_τ_196]; rfl
                have w22_τ_196 : τ_196.1 22 = τ28.1 22 := by rw [e_τ_196]; rfl
                have w25_τ_196 : τ_196.1 25 = τ28.1 25 := by rw [e_τ_196]; rfl
                have w26_τ_196 : τ_196.1 26 = τ28.1 26 := by rw [e_τ_196]; rfl
                have w28_τ_196 : τ_196.1 28 = 1 := by rw [e_τ_196]; rfl
                have w29_τ_196 : τ_196.1 29 = τ28.1 29 := by rw [e_τ_196]; rfl
                have g18_τ_196 : τ_196.2.1 18 = τ28.2.1 18 := by rw [e_τ_196]; rfl
                have g19_τ_196 : τ_196.2.1 19 = τ28.2.1 19 := by rw [e_τ_196]; rfl
                have g25_τ_196 : τ_196.2.1 25 = τ28.2.1 25 := by rw [e_τ_196]; rfl
                have g26_τ_196 : τ_196.2.1 26 = τ28.2.1 26 := by rw [e_τ_196]; rfl
                have g28_τ_196 : τ_196.2.1 28 = τ28.2.1 28 := by rw [e_τ_196]; rfl
                have W3 : τ_196.1 3 = σ.1 3 := by omega
                have W5 : τ_196.1 5 = σ.1 5 := by omega
                have W6 : τ_196.1 6 = σ.1 6 := by omega
                have W7 : τ_196.1 7 = σ.1 7 := by omega
                have W8 : τ_196.1 8 = σ.1 8 := by omega
                have W22 : τ_196.1 22 = σ.1 22 := by omega
                have W25 : τ_196.1 25 = σ.1 25 := by omega
                have W29 : τ_196.1 29 = σ.1 29 := by omega
                have G18 : τ_196.2.1 18 = σ.2.1 18 := (g18_τ_196).trans G18
                have G19 : τ_196.2.1 19 = σ.2.1 19 := (g19_τ_196).trans G19
                have G25 : τ_196.2.1 25 = σ.2.1 25 := (g25_τ_196).trans G25
                have y18_22_τ_196 : τ_196.2.1 18 (τ_196.1 22) = (τ28.2.1 18) (τ28.1 22) := by rw [g18_τ_196, w22_τ_196]
                have y19_22_τ_196 : τ_196.2.1 19 (τ_196.1 22) = (τ28.2.1 19) (τ28.1 22) := by rw [g19_τ_196, w22_τ_196]
                have y25_22_τ_196 : τ_196.2.1 25 (τ_196.1 22) = (τ28.2.1 25) (τ28.1 22) := by rw [g25_τ_196, w22_τ_196]
                have y26_22_τ_196 : τ_196.2.1 26 (τ_196.1 22) = (τ28.2.1 26) (τ28.1 22) := by rw [g26_τ_196, w22_τ_196]
                have y28_9_τ_196 : τ_196.2.1 28 (τ_196.1 9) = (τ28.2.1 28) (τ28.1 9) := by rw [g28_τ_196, w9_τ_196]
                have Z4 : τ_196.2.1 25 (τ_196.1 22) + τ_196.2.1 26 (τ_196.1 22) = (τ_196.1 9) := by rw [show (τ_196.2.1 25 (τ_196.1 22) + τ_196.2.1 26 (τ_196.1 22) = (τ_196.1 9)) = (τ28.2.1 25 (τ28.1 22) + τ28.2.1 26 (τ28.1 22) = (τ28.1 9)) from by rw [w9_τ_196, w22_τ_196, g25_τ_196, g26_τ_196]]; exact Z4
                have Y10 : ca (τ_196.2.1 28) ((τ_196.1 9)) ≤ ca (τ_196.2.1 28) (τ_196.2.1 25 (τ_196.1 22)) + (τ_196.1 29) := by rw [show (ca (τ_196.2.1 28) ((τ_196.1 9)) ≤ ca (τ_196.2.1 28) (τ_196.2.1 25 (τ_196.1 22)) + (τ_196.1 29)) = (ca (τ28.2.1 28) ((τ28.1 9)) ≤ ca (τ28.2.1 28) (τ28.2.1 25 (τ28.1 22)) + (τ28.1 29)) from by rw [w9_τ_196, w22_τ_196, w29_τ_196, g25_τ_196, g28_τ_196]]; exact Y10
                have Y13 : j_eq (σ.2.1 25 (σ.1 22)) (σ.2.1 28) (τ_196.2.1 28) := by rw [show (j_eq (σ.2.1 25 (σ.1 22)) (σ.2.1 28) (τ_196.2.1 28)) = (j_eq (σ.2.1 25 (σ.1 22)) (σ.2.1 28) (τ28.2.1 28)) from by rw [g28_τ_196]]; exact Y13
                have A18 : ∀ j, 0 ≤ τ_196.2.1 18 j ∧ τ_196.2.1 18 j ≤ 90000 := fun j => hT.2 18 j
                have A19 : ∀ j, 0 ≤ τ_196.2.1 19 j ∧ τ_196.2.1 19 j ≤ 60 := fun j => hT.2 19 j
                have A25 : ∀ j, 0 ≤ τ_196.2.1 25 j ∧ τ_196.2.1 25 j ≤ 20000 := fun j => hT.2 25 j
                have A26 : ∀ j, 0 ≤ τ_196.2.1 26 j ∧ τ_196.2.1 26 j ≤ 20000 := fun j => hT.2 26 j
                have A28 : ∀ j, 0 ≤ τ_196.2.1 28 j ∧ τ_196.2.1 28 j ≤ 1 := fun j => hT.2 28 j
                have v3 : 0 ≤ τ_196.1 3 ∧ τ_196.1 3 ≤ 1000 := hT.1 3
                have v5 : 0 ≤ τ_196.1 5 ∧ τ_196.1 5 ≤ 1500 := hT.1 5
                have v6 : 0 ≤ τ_196.1 6 ∧ τ_196.1 6 ≤ 30000 := hT.1 6
                have v7 : 0 ≤ τ_196.1 7 ∧ τ_196.1 7 ≤ 90000 := hT.1 7
                have v8 : 0 ≤ τ_196.1 8 ∧ τ_196.1 8 ≤ 20000 := hT.1 8
                have v9 : 0 ≤ τ_196.1 9 ∧ τ_196.1 9 ≤ 20000 := hT.1 9
                have v20 : 0 ≤ τ_196.1 20 ∧ τ_196.1 20 ≤ 19 := hT.1 20
                have v22 : 0 ≤ τ_196.1 22 ∧ τ_196.1 22 ≤ 1499 := hT.1 22
                have v25 : 0 ≤ τ_196.1 25 ∧ τ_196.1 25 ≤ 300 := hT.1 25
                have v26 : 0 ≤ τ_196.1 26 ∧ τ_196.1 26 ≤ 5000010 := hT.1 26
                have v28 : 0 ≤ τ_196.1 28 ∧ τ_196.1 28 ≤ 1 := hT.1 28
                have v29 : 0 ≤ τ_196.1 29 ∧ τ_196.1 29 ≤ 300 := hT.1 29
                have a18_22 : 0 ≤ τ_196.2.1 18 (τ_196.1 22) ∧ τ_196.2.1 18 (τ_196.1 22) ≤ 90000 := hT.2 18 _
                have a19_22 : 0 ≤ τ_196.2.1 19 (τ_196.1 22) ∧ τ_196.2.1 19 (τ_196.1 22) ≤ 60 := hT.2 19 _
                have a25_22 : 0 ≤ τ_196.2.1 25 (τ_196.1 22) ∧ τ_196.2.1 25 (τ_196.1 22) ≤ 20000 := hT.2 25 _
                have a26_22 : 0 ≤ τ_196.2.1 26 (τ_196.1 22) ∧ τ_196.2.1 26 (τ_196.1 22) ≤ 20000 := hT.2 26 _
                have a28_9 : 0 ≤ τ_196.2.1 28 (τ_196.1 9) ∧ τ_196.2.1 28 (τ_196.1 9) ≤ 1 := hT.2 28 _
                have av9 : σ.1 9 ≤ τ_196.1 9 := ag.1 9 (by decide)
                refine h196 _ ?_
                replace ag := ag_v (i := 26) (x := 0) ag (Or.inl rfl)
                replace hT := mT_v (i := 26) hT (show (0 : Int) ≤ 0 ∧ 0 ≤ 5000010 from by (first | omega | (simp only [st_s] <;> omega) | assumption | omega))
                replace ag := ag_v (i := 27) (x := 0) ag (Or.inl rfl)
                replace hT := mT_v (i := 27) hT (show (0 : Int) ≤ 0 ∧ 0 ≤ 1 from by (first | omega | (simp only [st_s] <;> omega) | assumption | omega))
                exact ⟨hT, (show ¬ (σ.1 20) = 0 → (τ_196.1 20) = (σ.1 20) from by (first | omega | (simp only [st_s] <;> omega) | assumption | omega)), (show τ_196.2.1 25 (τ_196.1 22) + τ_196.2.1 26 (τ_196.1 22) = (τ_196.1 9) from Z4), (show ca (τ_196.2.1 28) ((τ_196.1 9)) ≤ ca (τ_196.2.1 28) (τ_196.2.1 25 (τ_196.1 22)) + (τ_196.1 29) from Y10), (show ¬ (τ_196.1 28) = 0 → τ_196.2.1 25 (τ_196.1 22) < (τ_196.1 9) ∧ τ_196.2.1 28 ((τ_196.1 9) - 1) = 0 from by (first | assumption | omega | (intro _; refine ⟨by omega, ?_⟩; first | exact hz | (rw [e_τ_196]; exact hz)))), (show j_eq (σ.2.1 25 (σ.1 22)) (σ.2.1 28) (τ_196.2.1 28) from Y13), (show ((0 : Int)) = 0 from by (first | omega | (simp only [st_s] <;> omega) | assumption | omega)), ag⟩
        ·
          refine ⟨_, K_X13_fail hT (show 0 ≤ 5 from by (first | omega | (simp only [st_s] <;> omega) | assumption | omega)) (show 5 ≤ 19 from by (first | omega | (simp only [st_s] <;> omega) | assumption | omega)) (show -1 ≤ n2 from by (first | omega | (simp only [st_s] <;> omega) | assumption | omega)) (show n2 ≤ 60000 from by (first | omega | (simp only [st_s] <;> omega) | assumption | omega)), ?_⟩
          intro τ21 hn_τ21 hf_τ21 hq
          obtain ⟨hT, q19_1, q19_2⟩ := hq
          replace q19_1 : ¬ (σ.1 20) = 0 → (τ21.1 20) = (σ.1 20) := q19_1
          replace q19_2 : (σ.1 20) = 0 → (τ21.1 20) = 5 := q19_2
          replace ag : m_ag σ τ21 := ag_r ag hf_τ21 rfl rfl
          have w3_τ21 : τ21.1 3 = σ.1 3 := hf_τ21.1 3 (by decide)
          have w5_τ21 : τ21.1 5 = σ.1 5 := hf_τ21.1 5 (by decide)
          have w6_τ21 : τ21.1 6 = σ.1 6 := hf_τ21.1 6 (by decide)
          have w7_τ21 : τ21.1 7 = σ.1 7 := hf_τ21.1 7 (by decide)
          have w8_τ21 : τ21.1 8 = σ.1 8 := hf_τ21.1 8 (by decide)
          have w9_τ21 : τ21.1 9 = σ.1 9 := hf_τ21.1 9 (by decide)
          have w22_τ21 : τ21.1 22 = σ.1 22 := hf_τ21.1 22 (by decide)
          have w25_τ21 : τ21.1 25 = σ.1 25 := hf_τ21.1 25 (by decide)
          have w26_τ21 : τ21.1 26 = σ.1 26 := hf_τ21.1 26 (by decide)
          have w28_τ21 : τ21.1 28 = σ.1 28 := hf_τ21.1 28 (by decide)
          have w29_τ21 : τ21.1 29 = σ.1 29 := hf_τ21.1 29 (by decide)
          have g18_τ21 : τ21.2.1 18 = σ.2.1 18 := hf_τ21.2.1 18 (by decide)
          have g19_τ21 : τ21.2.1 19 = σ.2.1 19 := hf_τ21.2.1 19 (by decide)
          have g25_τ21 : τ21.2.1 25 = σ.2.1 25 := hf_τ21.2.1 25 (by decide)
          have g26_τ21 : τ21.2.1 26 = σ.2.1 26 := hf_τ21.2.1 26 (by decide)
          have g28_τ21 : τ21.2.1 28 = σ.2.1 28 := hf_τ21.2.1 28 (by decide)
          have W3 : τ21.1 3 = σ.1 3 := by omega
          have W5 : τ21.1 5 = σ.1 5 := by omega
          have W6 : τ21.1 6 = σ.1 6 := by omega
          have W7 : τ21.1 7 = σ.1 7 := by omega
          have W8 : τ21.1 8 = σ.1 8 := by omega
          have W22 : τ21.1 22 = σ.1 22 := by omega
          have W25 : τ21.1 25 = σ.1 25 := by omega
          have W29 : τ21.1 29 = σ.1 29 := by omega
          have G18 : τ21.2.1 18 = σ.2.1 18 := (g18_τ21).trans G18
          have G19 : τ21.2.1 19 = σ.2.1 19 := (g19_τ21).trans G19
          have G25 : τ21.2.1 25 = σ.2.1 25 := (g25_τ21).trans G25
          have y18_22_τ21 : τ21.2.1 18 (τ21.1 22) = (σ.2.1 18) (σ.1 22) := by rw [g18_τ21, w22_τ21]
          have y19_22_τ21 : τ21.2.1 19 (τ21.1 22) = (σ.2.1 19) (σ.1 22) := by rw [g19_τ21, w22_τ21]
          have y25_22_τ21 : τ21.2.1 25 (τ21.1 22) = (σ.2.1 25) (σ.1 22) := by rw [g25_τ21, w22_τ21]
          have y26_22_τ21 : τ21.2.1 26 (τ21.1 22) = (σ.2.1 26) (σ.1 22) := by rw [g26_τ21, w22_τ21]
          have y28_9_τ21 : τ21.2.1 28 (τ21.1 9) = (σ.2.1 28) (σ.1 9) := by rw [g28_τ21, w9_τ21]
          have Z4 : τ21.2.1 25 (τ21.1 22) + τ21.2.1 26 (τ21.1 22) = (τ21.1 9) := by rw [show (τ21.2.1 25 (τ21.1 22) + τ21.2.1 26 (τ21.1 22) = (τ21.1 9)) = (σ.2.1 25 (σ.1 22) + σ.2.1 26 (σ.1 22) = (σ.1 9)) from by rw [w9_τ21, w22_τ21, g25_τ21, g26_τ21]]; exact Z4
          have Y10 : ca (τ21.2.1 28) ((τ21.1 9)) ≤ ca (τ21.2.1 28) (τ21.2.1 25 (τ21.1 22)) + (τ21.1 29) := by rw [show (ca (τ21.2.1 28) ((τ21.1 9)) ≤ ca (τ21.2.1 28) (τ21.2.1 25 (τ21.1 22)) + (τ21.1 29)) = (ca (σ.2.1 28) ((σ.1 9)) ≤ ca (σ.2.1 28) (σ.2.1 25 (σ.1 22)) + (σ.1 29)) from by rw [w9_τ21, w22_τ21, w29_τ21, g25_τ21, g28_τ21]]; exact Y10
          have Y12 : ¬ (τ21.1 28) = 0 → τ21.2.1 25 (τ21.1 22) < (τ21.1 9) ∧ τ21.2.1 28 ((τ21.1 9) - 1) = 0 := by rw [show (¬ (τ21.1 28) = 0 → τ21.2.1 25 (τ21.1 22) < (τ21.1 9) ∧ τ21.2.1 28 ((τ21.1 9) - 1) = 0) = (¬ (σ.1 28) = 0 → σ.2.1 25 (σ.1 22) < (σ.1 9) ∧ σ.2.1 28 ((σ.1 9) - 1) = 0) from by rw [w9_τ21, w22_τ21, w28_τ21, g25_τ21, g28_τ21]]; exact Y12
          have Y13 : j_eq (σ.2.1 25 (σ.1 22)) (σ.2.1 28) (τ21.2.1 28) := by rw [show (j_eq (σ.2.1 25 (σ.1 22)) (σ.2.1 28) (τ21.2.1 28)) = (j_eq (σ.2.1 25 (σ.1 22)) (σ.2.1 28) (σ.2.1 28)) from by rw [g28_τ21]]; exact Y13
          have A18 : ∀ j, 0 ≤ τ21.2.1 18 j ∧ τ21.2.1 18 j ≤ 90000 := fun j => hT.2 18 j
          have A19 : ∀ j, 0 ≤ τ21.2.1 19 j ∧ τ21.2.1 19 j ≤ 60 := fun j => hT.2 19 j
          have A25 : ∀ j, 0 ≤ τ21.2.1 25 j ∧ τ21.2.1 25 j ≤ 20000 := fun j => hT.2 25 j
          have A26 : ∀ j, 0 ≤ τ21.2.1 26 j ∧ τ21.2.1 26 j ≤ 20000 := fun j => hT.2 26 j
          have A28 : ∀ j, 0 ≤ τ21.2.1 28 j ∧ τ21.2.1 28 j ≤ 1 := fun j => hT.2 28 j
          have v3 : 0 ≤ τ21.1 3 ∧ τ21.1 3 ≤ 1000 := hT.1 3
          have v5 : 0 ≤ τ21.1 5 ∧ τ21.1 5 ≤ 1500 := hT.1 5
          have v6 : 0 ≤ τ21.1 6 ∧ τ21.1 6 ≤ 30000 := hT.1 6
          have v7 : 0 ≤ τ21.1 7 ∧ τ21.1 7 ≤ 90000 := hT.1 7
          have v8 : 0 ≤ τ21.1 8 ∧ τ21.1 8 ≤ 20000 := hT.1 8
          have v9 : 0 ≤ τ21.1 9 ∧ τ21.1 9 ≤ 20000 := hT.1 9
          have v20 : 0 ≤ τ21.1 20 ∧ τ21.1 20 ≤ 19 := hT.1 20
          have v22 : 0 ≤ τ21.1 22 ∧ τ21.1 22 ≤ 1499 := hT.1 22
          have v25 : 0 ≤ τ21.1 25 ∧ τ21.1 25 ≤ 300 := hT.1 25
          have v26 : 0 ≤ τ21.1 26 ∧ τ21.1 26 ≤ 5000010 := hT.1 26
          have v28 : 0 ≤ τ21.1 28 ∧ τ21.1 28 ≤ 1 := hT.1 28
          have v29 : 0 ≤ τ21.1 29 ∧ τ21.1 29 ≤ 300 := hT.1 29
          have a18_22 : 0 ≤ τ21.2.1 18 (τ21.1 22) ∧ τ21.2.1 18 (τ21.1 22) ≤ 90000 := hT.2 18 _
          have a19_22 : 0 ≤ τ21.2.1 19 (τ21.1 22) ∧ τ21.2.1 19 (τ21.1 22) ≤ 60 := hT.2 19 _
          have a25_22 : 0 ≤ τ21.2.1 25 (τ21.1 22) ∧ τ21.2.1 25 (τ21.1 22) ≤ 20000 := hT.2 25 _
          have a26_22 : 0 ≤ τ21.2.1 26 (τ21.1 22) ∧ τ21.2.1 26 (τ21.1 22) ≤ 20000 := hT.2 26 _
          have a28_9 : 0 ≤ τ21.2.1 28 (τ21.1 9) ∧ τ21.2.1 28 (τ21.1 9) ≤ 1 := hT.2 28 _
          have av9 : σ.1 9 ≤ τ21.1 9 := ag.1 9 (by decide)
          refine h196 _ ?_
          replace ag := ag_v (i := 26) (x := 0) ag (Or.inl rfl)
          replace hT := mT_v (i := 26) hT (show (0 : Int) ≤ 0 ∧ 0 ≤ 5000010 from by (first | omega | (simp only [st_s] <;> omega) | assumption | omega))
          replace ag := ag_v (i := 27) (x := 0) ag (Or.inl rfl)
          replace hT := mT_v (i := 27) hT (show (0 : Int) ≤ 0 ∧ 0 ≤ 1 from by (first | omega | (simp only [st_s] <;> omega) | assumption | omega))
          exact ⟨hT, (show ¬ (σ.1 20) = 0 → (τ21.1 20) = (σ.1 20) from by (first | omega | (simp only [st_s] <;> omega) | assumption | omega)), (show τ21.2.1 25 (τ21.1 22) + τ21.2.1 26 (τ21.1 22) = (τ21.1 9) from Z4), (show ca (τ21.2.1 28) ((τ21.1 9)) ≤ ca (τ21.2.1 28) (τ21.2.1 25 (τ21.1 22)) + (τ21.1 29) from Y10), (show ¬ (τ21.1 28) = 0 → τ21.2.1 25 (τ21.1 22) < (τ21.1 9) ∧ τ21.2.1 28 ((τ21.1 9) - 1) = 0 from Y12), (show j_eq (σ.2.1 25 (σ.1 22)) (σ.2.1 28) (τ21.2.1 28) from Y13), (show ((0 : Int)) = 0 from by (first | omega | (simp only [st_s] <;> omega) | assumption | omega)), ag⟩
      ·
        refine ⟨fun c22 => ?_, fun c22 => ?_⟩
        ·
          refine h82 _ _ _ ?_
          refine ⟨_, K_X13_fail hT (show 0 ≤ 14 from by (first | omega | (simp only [st_s] <;> omega) | assumption | omega)) (show 14 ≤ 19 from by (first | omega | (simp only [st_s] <;> omega) | assumption | omega)) (show -1 ≤ n2 from by (first | omega | (simp only [st_s] <;> omega) | assumption | omega)) (show n2 ≤ 60000 from by (first | omega | (simp only [st_s] <;> omega) | assumption | omega)), ?_⟩
          intro τ35 hn_τ35 hf_τ35 hq
          obtain ⟨hT, q33_1, q33_2⟩ := hq
          replace q33_1 : ¬ (σ.1 20) = 0 → (τ35.1 20) = (σ.1 20) := q33_1
          replace q33_2 : (σ.1 20) = 0 → (τ35.1 20) = 14 := q33_2
          replace ag : m_ag σ τ35 := ag_r ag hf_τ35 rfl rfl
          have w3_τ35 : τ35.1 3 = σ.1 3 := hf_τ35.1 3 (by decide)
          have w5_τ35 : τ35.1 5 = σ.1 5 := hf_τ35.1 5 (by decide)
          have w6_τ35 : τ35.1 6 = σ.1 6 := hf_τ35.1 6 (by decide)
          have w7_τ35 : τ35.1 7 = σ.1 7 := hf_τ35.1 7 (by decide)
          have w8_τ35 : τ35.1 8 = σ.1 8 := hf_τ35.1 8 (by decide)
          have w9_τ35 : τ35.1 9 = σ.1 9 := hf_τ35.1 9 (by decide)
          have w22_τ35 : τ35.1 22 = σ.1 22 := hf_τ35.1 22 (by decide)
          have w25_τ35 : τ35.1 25 = σ.1 25 := hf_τ35.1 25 (by decide)
          have w26_τ35 : τ35.1 26 = σ.1 26 := hf_τ35.1 26 (by decide)
          have w28_τ35 : τ35.1 28 = σ.1 28 := hf_τ35.1 28 (by decide)
          have w29_τ35 : τ35.1 29 = σ.1 29 := hf_τ35.1 29 (by decide)
          have g18_τ35 : τ35.2.1 18 = σ.2.1 18 := hf_τ35.2.1 18 (by decide)
          have g19_τ35 : τ35.2.1 19 = σ.2.1 19 := hf_τ35.2.1 19 (by decide)
          have g25_τ35 : τ35.2.1 25 = σ.2.1 25 := hf_τ35.2.1 25 (by decide)
          have g26_τ35 : τ35.2.1 26 = σ.2.1 26 := hf_τ35.2.1 26 (by decide)
          have g28_τ35 : τ35.2.1 28 = σ.2.1 28 := hf_τ35.2.1 28 (by decide)
          have W3 : τ35.1 3 = σ.1 3 := by omega
          have W5 : τ35.1 5 = σ.1 5 := by omega
          have W6 : τ35.1 6 = σ.1 6 := by omega
          have W7 : τ35.1 7 = σ.1 7 := by omega
          have W8 : τ35.1 8 = σ.1 8 := by omega
          have W22 : τ35.1 22 = σ.1 22 := by omega
          have W25 : τ35.1 25 = σ.1 25 := by omega
          have W29 : τ35.1 29 = σ.1 29 := by omega
          have G18 : τ35.2.1 18 = σ.2.1 18 := (g18_τ35).trans G18
          have G19 : τ35.2.1 19 = σ.2.1 19 := (g19_τ35).trans G19
          have G25 : τ35.2.1 25 = σ.2.1 25 := (g25_τ35).trans G25
          have y18_22_τ35 : τ35.2.1 18 (τ35.1 22) = (σ.2.1 18) (σ.1 22) := by rw [g18_τ35, w22_τ35]
          have y19_22_τ35 : τ35.2.1 19 (τ35.1 22) = (σ.2.1 19) (σ.1 22) := by rw [g19_τ35, w22_τ35]
          have y25_22_τ35 : τ35.2.1 25 (τ35.1 22) = (σ.2.1 25) (σ.1 22) := by rw [g25_τ35, w22_τ35]
          have y26_22_τ35 : τ35.2.1 26 (τ35.1 22) = (σ.2.1 26) (σ.1 22) := by rw [g26_τ35, w22_τ35]
          have y28_9_τ35 : τ35.2.1 28 (τ35.1 9) = (σ.2.1 28) (σ.1 9) := by rw [g28_τ35, w9_τ35]
          have Z4 : τ35.2.1 25 (τ35.1 22) + τ35.2.1 26 (τ35.1 22) = (τ35.1 9) := by rw [show (τ35.2.1 25 (τ35.1 22) + τ35.2.1 26 (τ35.1 22) = (τ35.1 9)) = (σ.2.1 25 (σ.1 22) + σ.2.1 26 (σ.1 22) = (σ.1 9)) from by rw [w9_τ35, w22_τ35, g25_τ35, g26_τ35]]; exact Z4
          have Y10 : ca (τ35.2.1 28) ((τ35.1 9)) ≤ ca (τ35.2.1 28) (τ35.2.1 25 (τ35.1 22)) + (τ35.1 29) := by rw [show (ca (τ35.2.1 28) ((τ35.1 9)) ≤ ca (τ35.2.1 28) (τ35.2.1 25 (τ35.1 22)) + (τ35.1 29)) = (ca (σ.2.1 28) ((σ.1 9)) ≤ ca (σ.2.1 28) (σ.2.1 25 (σ.1 22)) + (σ.1 29)) from by rw [w9_τ35, w22_τ35, w29_τ35, g25_τ35, g28_τ35]]; exact Y10
          have Y12 : ¬ (τ35.1 28) = 0 → τ35.2.1 25 (τ35.1 22) < (τ35.1 9) ∧ τ35.2.1 28 ((τ35.1 9) - 1) = 0 := by rw [show (¬ (τ35.1 28) = 0 → τ35.2.1 25 (τ35.1 22) < (τ35.1 9) ∧ τ35.2.1 28 ((τ35.1 9) - 1) = 0) = (¬ (σ.1 28) = 0 → σ.2.1 25 (σ.1 22) < (σ.1 9) ∧ σ.2.1 28 ((σ.1 9) - 1) = 0) from by rw [w9_τ35, w22_τ35, w28_τ35, g25_τ35, g28_τ35]]; exact Y12
          have Y13 : j_eq (σ.2.1 25 (σ.1 22)) (σ.2.1 28) (τ35.2.1 28) := by rw [show (j_eq (σ.2.1 25 (σ.1 22)) (σ.2.1 28) (τ35.2.1 28)) = (j_eq (σ.2.1 25 (σ.1 22)) (σ.2.1 28) (σ.2.1 28)) from by rw [g28_τ35]]; exact Y13
          have A18 : ∀ j, 0 ≤ τ35.2.1 18 j ∧ τ35.2.1 18 j ≤ 90000 := fun j => hT.2 18 j
          have A19 : ∀ j, 0 ≤ τ35.2.1 19 j ∧ τ35.2.1 19 j ≤ 60 := fun j => hT.2 19 j
          have A25 : ∀ j, 0 ≤ τ35.2.1 25 j ∧ τ35.2.1 25 j ≤ 20000 := fun j => hT.2 25 j
          have A26 : ∀ j, 0 ≤ τ35.2.1 26 j ∧ τ35.2.1 26 j ≤ 20000 := fun j => hT.2 26 j
          have A28 : ∀ j, 0 ≤ τ35.2.1 28 j ∧ τ35.2.1 28 j ≤ 1 := fun j => hT.2 28 j
          have v3 : 0 ≤ τ35.1 3 ∧ τ35.1 3 ≤ 1000 := hT.1 3
          have v5 : 0 ≤ τ35.1 5 ∧ τ35.1 5 ≤ 1500 := hT.1 5
          have v6 : 0 ≤ τ35.1 6 ∧ τ35.1 6 ≤ 30000 := hT.1 6
          have v7 : 0 ≤ τ35.1 7 ∧ τ35.1 7 ≤ 90000 := hT.1 7
          have v8 : 0 ≤ τ35.1 8 ∧ τ35.1 8 ≤ 20000 := hT.1 8
          have v9 : 0 ≤ τ35.1 9 ∧ τ35.1 9 ≤ 20000 := hT.1 9
          have v20 : 0 ≤ τ35.1 20 ∧ τ35.1 20 ≤ 19 := hT.1 20
          have v22 : 0 ≤ τ35.1 22 ∧ τ35.1 22 ≤ 1499 := hT.1 22
          have v25 : 0 ≤ τ35.1 25 ∧ τ35.1 25 ≤ 300 := hT.1 25
          have v26 : 0 ≤ τ35.1 26 ∧ τ35.1 26 ≤ 5000010 := hT.1 26
          have v28 : 0 ≤ τ35.1 28 ∧ τ35.1 28 ≤ 1 := hT.1 28
          have v29 : 0 ≤ τ35.1 29 ∧ τ35.1 29 ≤ 300 := hT.1 29
          have a18_22 : 0 ≤ τ35.2.1 18 (τ35.1 22) ∧ τ35.2.1 18 (τ35.1 22) ≤ 90000 := hT.2 18 _
          have a19_22 : 0 ≤ τ35.2.1 19 (τ35.1 22) ∧ τ35.2.1 19 (τ35.1 22) ≤ 60 := hT.2 19 _
          have a25_22 : 0 ≤ τ35.2.1 25 (τ35.1 22) ∧ τ35.2.1 25 (τ35.1 22) ≤ 20000 := hT.2 25 _
          have a26_22 : 0 ≤ τ35.2.1 26 (τ35.1 22) ∧ τ35.2.1 26 (τ35.1 22) ≤ 20000 := hT.2 26 _
          have a28_9 : 0 ≤ τ35.2.1 28 (τ35.1 9) ∧ τ35.2.1 28 (τ35.1 9) ≤ 1 := hT.2 28 _
          have av9 : σ.1 9 ≤ τ35.1 9 := ag.1 9 (by decide)
          refine h196 _ ?_
          replace ag := ag_v (i := 26) (x := 0) ag (Or.inl rfl)
          replace hT := mT_v (i := 26) hT (show (0 : Int) ≤ 0 ∧ 0 ≤ 5000010 from by (first | omega | (simp only [st_s] <;> omega) | assumption | omega))
          replace ag := ag_v (i := 27) (x := 0) ag (Or.inl rfl)
          replace hT := mT_v (i := 27) hT (show (0 : Int) ≤ 0 ∧ 0 ≤ 1 from by (first | omega | (simp only [st_s] <;> omega) | assumption | omega))
          exact ⟨hT, (show ¬ (σ.1 20) = 0 → (τ35.1 20) = (σ.1 20) from by (first | omega | (simp only [st_s] <;> omega) | assumption | omega)), (show τ35.2.1 25 (τ35.1 22) + τ35.2.1 26 (τ35.1 22) = (τ35.1 9) from Z4), (show ca (τ35.2.1 28) ((τ35.1 9)) ≤ ca (τ35.2.1 28) (τ35.2.1 25 (τ35.1 22)) + (τ35.1 29) from Y10), (show ¬ (τ35.1 28) = 0 → τ35.2.1 25 (τ35.1 22) < (τ35.1 9) ∧ τ35.2.1 28 ((τ35.1 9) - 1) = 0 from Y12), (show j_eq (σ.2.1 25 (σ.1 22)) (σ.2.1 28) (τ35.2.1 28) from Y13), (show ((0 : Int)) = 0 from by (first | omega | (simp only [st_s] <;> omega) | assumption | omega)), ag⟩
        ·
          refine h82 _ _ _ ?_
          refine ⟨_, K_X13_fail hT (show 0 ≤ 5 from by (first | omega | (simp only [st_s] <;> omega) | assumption | omega)) (show 5 ≤ 19 from by (first | omega | (simp only [st_s] <;> omega) | assumption | omega)) (show -1 ≤ n2 from by (first | omega | (simp only [st_s] <;> omega) | assumption | omega)) (show n2 ≤ 60000 from by (first | omega | (simp only [st_s] <;> omega) | assumption | omega)), ?_⟩
          intro τ35 hn_τ35 hf_τ35 hq
          obtain ⟨hT, q33_1, q33_2⟩ := hq
          replace q33_1 : ¬ (σ.1 20) = 0 → (τ35.1 20) = (σ.1 20) := q33_1
          replace q33_2 : (σ.1 20) = 0 → (τ35.1 20) = 5 := q33_2
          replace ag : m_ag σ τ35 := ag_r ag hf_τ35 rfl rfl
          have w3_τ35 : τ35.1 3 = σ.1 3 := hf_τ35.1 3 (by decide)
          have w5_τ35 : τ35.1 5 = σ.1 5 := hf_τ35.1 5 (by decide)
          have w6_τ35 : τ35.1 6 = σ.1 6 := hf_τ35.1 6 (by decide)
          have w7_τ35 : τ35.1 7 = σ.1 7 := hf_τ35.1 7 (by decide)
          have w8_τ35 : τ35.1 8 = σ.1 8 := hf_τ35.1 8 (by decide)
          have w9_τ35 : τ35.1 9 = σ.1 9 := hf_τ35.1 9 (by decide)
          have w22_τ35 : τ35.1 22 = σ.1 22 := hf_τ35.1 22 (by decide)
          have w25_τ35 : τ35.1 25 = σ.1 25 := hf_τ35.1 25 (by decide)
          have w26_τ35 : τ35.1 26 = σ.1 26 := hf_τ35.1 26 (by decide)
          have w28_τ35 : τ35.1 28 = σ.1 28 := hf_τ35.1 28 (by decide)
          have w29_τ35 : τ35.1 29 = σ.1 29 := hf_τ35.1 29 (by decide)
          have g18_τ35 : τ35.2.1 18 = σ.2.1 18 := hf_τ35.2.1 18 (by decide)
          have g19_τ35 : τ35.2.1 19 = σ.2.1 19 := hf_τ35.2.1 19 (by decide)
          have g25_τ35 : τ35.2.1 25 = σ.2.1 25 := hf_τ35.2.1 25 (by decide)
          have g26_τ35 : τ35.2.1 26 = σ.2.1 26 := hf_τ35.2.1 26 (by decide)
          have g28_τ35 : τ35.2.1 28 = σ.2.1 28 := hf_τ35.2.1 28 (by decide)
          have W3 : τ35.1 3 = σ.1 3 := by omega
          have W5 : τ35.1 5 = σ.1 5 := by omega
          have W6 : τ35.1 6 = σ.1 6 := by omega
          have W7 : τ35.1 7 = σ.1 7 := by omega
          have W8 : τ35.1 8 = σ.1 8 := by omega
          have W22 : τ35.1 22 = σ.1 22 := by omega
          have W25 : τ35.1 25 = σ.1 25 := by omega
          have W29 : τ35.1 29 = σ.1 29 := by omega
          have G18 : τ35.2.1 18 = σ.2.1 18 := (g18_τ35).trans G18
          have G19 : τ35.2.1 19 = σ.2.1 19 := (g19_τ35).trans G19
          have G25 : τ35.2.1 25 = σ.2.1 25 := (g25_τ35).trans G25
          have y18_22_τ35 : τ35.2.1 18 (τ35.1 22) = (σ.2.1 18) (σ.1 22) := by rw [g18_τ35, w22_τ35]
          have y19_22_τ35 : τ35.2.1 19 (τ35.1 22) = (σ.2.1 19) (σ.1 22) := by rw [g19_τ35, w22_τ35]
          have y25_22_τ35 : τ35.2.1 25 (τ35.1 22) = (σ.2.1 25) (σ.1 22) := by rw [g25_τ35, w22_τ35]
          have y26_22_τ35 : τ35.2.1 26 (τ35.1 22) = (σ.2.1 26) (σ.1 22) := by rw [g26_τ35, w22_τ35]
          have y28_9_τ35 : τ35.2.1 28 (τ35.1 9) = (σ.2.1 28) (σ.1 9) := by rw [g28_τ35, w9_τ35]
          have Z4 : τ35.2.1 25 (τ35.1 22) + τ35.2.1 26 (τ35.1 22) = (τ35.1 9) := by rw [show (τ35.2.1 25 (τ35.1 22) + τ35.2.1 26 (τ35.1 22) = (τ35.1 9)) = (σ.2.1 25 (σ.1 22) + σ.2.1 26 (σ.1 22) = (σ.1 9)) from by rw [w9_τ35, w22_τ35, g25_τ35, g26_τ35]]; exact Z4
          have Y10 : ca (τ35.2.1 28) ((τ35.1 9)) ≤ ca (τ35.2.1 28) (τ35.2.1 25 (τ35.1 22)) + (τ35.1 29) := by rw [show (ca (τ35.2.1 28) ((τ35.1 9)) ≤ ca (τ35.2.1 28) (τ35.2.1 25 (τ35.1 22)) + (τ35.1 29)) = (ca (σ.2.1 28) ((σ.1 9)) ≤ ca (σ.2.1 28) (σ.2.1 25 (σ.1 22)) + (σ.1 29)) from by rw [w9_τ35, w22_τ35, w29_τ35, g25_τ35, g28_τ35]]; exact Y10
          have Y12 : ¬ (τ35.1 28) = 0 → τ35.2.1 25 (τ35.1 22) < (τ35.1 9) ∧ τ35.2.1 28 ((τ35.1 9) - 1) = 0 := by rw [show (¬ (τ35.1 28) = 0 → τ35.2.1 25 (τ35.1 22) < (τ35.1 9) ∧ τ35.2.1 28 ((τ35.1 9) - 1) = 0) = (¬ (σ.1 28) = 0 → σ.2.1 25 (σ.1 22) < (σ.1 9) ∧ σ.2.1 28 ((σ.1 9) - 1) = 0) from by rw [w9_τ35, w22_τ35, w28_τ35, g25_τ35, g28_τ35]]; exact Y12
          have Y13 : j_eq (σ.2.1 25 (σ.1 22)) (σ.2.1 28) (τ35.2.1 28) := by rw [show (j_eq (σ.2.1 25 (σ.1 22)) (σ.2.1 28) (τ35.2.1 28)) = (j_eq (σ.2.1 25 (σ.1 22)) (σ.2.1 28) (σ.2.1 28)) from by rw [g28_τ35]]; exact Y13
          have A18 : ∀ j, 0 ≤ τ35.2.1 18 j ∧ τ35.2.1 18 j ≤ 90000 := fun j => hT.2 18 j
          have A19 : ∀ j, 0 ≤ τ35.2.1 19 j ∧ τ35.2.1 19 j ≤ 60 := fun j => hT.2 19 j
          have A25 : ∀ j, 0 ≤ τ35.2.1 25 j ∧ τ35.2.1 25 j ≤ 20000 := fun j => hT.2 25 j
          have A26 : ∀ j, 0 ≤ τ35.2.1 26 j ∧ τ35.2.1 26 j ≤ 20000 := fun j => hT.2 26 j
          have A28 : ∀ j, 0 ≤ τ35.2.1 28 j ∧ τ35.2.1 28 j ≤ 1 := fun j => hT.2 28 j
          have v3 : 0 ≤ τ35.1 3 ∧ τ35.1 3 ≤ 1000 := hT.1 3
          have v5 : 0 ≤ τ35.1 5 ∧ τ35.1 5 ≤ 1500 := hT.1 5
          have v6 : 0 ≤ τ35.1 6 ∧ τ35.1 6 ≤ 30000 := hT.1 6
          have v7 : 0 ≤ τ35.1 7 ∧ τ35.1 7 ≤ 90000 := hT.1 7
          have v8 : 0 ≤ τ35.1 8 ∧ τ35.1 8 ≤ 20000 := hT.1 8
          have v9 : 0 ≤ τ35.1 9 ∧ τ35.1 9 ≤ 20000 := hT.1 9
          have v20 : 0 ≤ τ35.1 20 ∧ τ35.1 20 ≤ 19 := hT.1 20
          have v22 : 0 ≤ τ35.1 22 ∧ τ35.1 22 ≤ 1499 := hT.1 22
          have v25 : 0 ≤ τ35.1 25 ∧ τ35.1 25 ≤ 300 := hT.1 25
          have v26 : 0 ≤ τ35.1 26 ∧ τ35.1 26 ≤ 5000010 := hT.1 26
          have v28 : 0 ≤ τ35.1 28 ∧ τ35.1 28 ≤ 1 := hT.1 28
          have v29 : 0 ≤ τ35.1 29 ∧ τ35.1 29 ≤ 300 := hT.1 29
          have a18_22 : 0 ≤ τ35.2.1 18 (τ35.1 22) ∧ τ35.2.1 18 (τ35.1 22) ≤ 90000 := hT.2 18 _
          have a19_22 : 0 ≤ τ35.2.1 19 (τ35.1 22) ∧ τ35.2.1 19 (τ35.1 22) ≤ 60 := hT.2 19 _
          have a25_22 : 0 ≤ τ35.2.1 25 (τ35.1 22) ∧ τ35.2.1 25 (τ35.1 22) ≤ 20000 := hT.2 25 _
          have a26_22 : 0 ≤ τ35.2.1 26 (τ35.1 22) ∧ τ35.2.1 26 (τ35.1 22) ≤ 20000 := hT.2 26 _
          have a28_9 : 0 ≤ τ35.2.1 28 (τ35.1 9) ∧ τ35.2.1 28 (τ35.1 9) ≤ 1 := hT.2 28 _
          have av9 : σ.1 9 ≤ τ35.1 9 := ag.1 9 (by decide)
          refine h196 _ ?_
          replace ag := ag_v (i := 26) (x := 0) ag (Or.inl rfl)
          replace hT := mT_v (i := 26) hT (show (0 : Int) ≤ 0 ∧ 0 ≤ 5000010 from by (first | omega | (simp only [st_s] <;> omega) | assumption | omega))
          replace ag := ag_v (i := 27) (x := 0) ag (Or.inl rfl)
          replace hT := mT_v (i := 27) hT (show (0 : Int) ≤ 0 ∧ 0 ≤ 1 from by (first | omega | (simp only [st_s] <;> omega) | assumption | omega))
          exact ⟨hT, (show ¬ (σ.1 20) = 0 → (τ35.1 20) = (σ.1 20) from by (first | omega | (simp only [st_s] <;> omega) | assumption | omega)), (show τ35.2.1 25 (τ35.1 22) + τ35.2.1 26 (τ35.1 22) = (τ35.1 9) from Z4), (show ca (τ35.2.1 28) ((τ35.1 9)) ≤ ca (τ35.2.1 28) (τ35.2.1 25 (τ35.1 22)) + (τ35.1 29) from Y10), (show ¬ (τ35.1 28) = 0 → τ35.2.1 25 (τ35.1 22) < (τ35.1 9) ∧ τ35.2.1 28 ((τ35.1 9) - 1) = 0 from Y12), (show j_eq (σ.2.1 25 (σ.1 22)) (σ.2.1 28) (τ35.2.1 28) from Y13), (show ((0 : Int)) = 0 from by (first | omega | (simp only [st_s] <;> omega) | assumption | omega)), ag⟩
    ·
      refine ⟨_, K_X13_fail hT (show 0 ≤ 5 from by (first | omega | (simp only [st_s] <;> omega) | assumption | omega)) (show 5 ≤ 19 from by (first | omega | (simp only [st_s] <;> omega) | assumption | omega)) (show -1 ≤ n2 from by (first | omega | (simp only [st_s] <;> omega) | assumption | omega)) (show n2 ≤ 60000 from by (first | omega | (simp only [st_s] <;> omega) | assumption | omega)), ?_⟩
      intro τ25 hn_τ25 hf_τ25 hq
      obtain ⟨hT, q23_1, q23_2⟩ := hq
      replace q23_1 : ¬ (σ.1 20) = 0 → (τ25.1 20) = (σ.1 20) := q23_1
      replace q23_2 : (σ.1 20) = 0 → (τ25.1 20) = 5 := q23_2
      replace ag : m_ag σ τ25 := ag_r ag hf_τ25 rfl rfl
      have w3_τ25 : τ25.1 3 = σ.1 3 := hf_τ25.1 3 (by decide)
      have w5_τ25 : τ25.1 5 = σ.1 5 := hf_τ25.1 5 (by decide)
      have w6_τ25 : τ25.1 6 = σ.1 6 := hf_τ25.1 6 (by decide)
      have w7_τ25 : τ25.1 7 = σ.1 7 := hf_τ25.1 7 (by decide)
      have w8_τ25 : τ25.1 8 = σ.1 8 := hf_τ25.1 8 (by decide)
      have w9_τ25 : τ25.1 9 = σ.1 9 := hf_τ25.1 9 (by decide)
      have w22_τ25 : τ25.1 22 = σ.1 22 := hf_τ25.1 22 (by decide)
      have w25_τ25 : τ25.1 25 = σ.1 25 := hf_τ25.1 25 (by decide)
      have w26_τ25 : τ25.1 26 = σ.1 26 := hf_τ25.1 26 (by decide)
      have w28_τ25 : τ25.1 28 = σ.1 28 := hf_τ25.1 28 (by decide)
      have w29_τ25 : τ25.1 29 = σ.1 29 := hf_τ25.1 29 (by decide)
      have g18_τ25 : τ25.2.1 18 = σ.2.1 18 := hf_τ25.2.1 18 (by decide)
      have g19_τ25 : τ25.2.1 19 = σ.2.1 19 := hf_τ25.2.1 19 (by decide)
      have g25_τ25 : τ25.2.1 25 = σ.2.1 25 := hf_τ25.2.1 25 (by decide)
      have g26_τ25 : τ25.2.1 26 = σ.2.1 26 := hf_τ25.2.1 26 (by decide)
      have g28_τ25 : τ25.2.1 28 = σ.2.1 28 := hf_τ25.2.1 28 (by decide)
      have W3 : τ25.1 3 = σ.1 3 := by omega
      have W5 : τ25.1 5 = σ.1 5 := by omega
      have W6 : τ25.1 6 = σ.1 6 := by omega
      have W7 : τ25.1 7 = σ.1 7 := by omega
      have W8 : τ25.1 8 = σ.1 8 := by omega
      have W22 : τ25.1 22 = σ.1 22 := by omega
      have W25 : τ25.1 25 = σ.1 25 := by omega
      have W29 : τ25.1 29 = σ.1 29 := by omega
      have G18 : τ25.2.1 18 = σ.2.1 18 := (g18_τ25).trans G18
      have G19 : τ25.2.1 19 = σ.2.1 19 := (g19_τ25).trans G19
      have G25 : τ25.2.1 25 = σ.2.1 25 := (g25_τ25).trans G25
      have y18_22_τ25 : τ25.2.1 18 (τ25.1 22) = (σ.2.1 18) (σ.1 22) := by rw [g18_τ25, w22_τ25]
      have y19_22_τ25 : τ25.2.1 19 (τ25.1 22) = (σ.2.1 19) (σ.1 22) := by rw [g19_τ25, w22_τ25]
      have y25_22_τ25 : τ25.2.1 25 (τ25.1 22) = (σ.2.1 25) (σ.1 22) := by rw [g25_τ25, w22_τ25]
      have y26_22_τ25 : τ25.2.1 26 (τ25.1 22) = (σ.2.1 26) (σ.1 22) := by rw [g26_τ25, w22_τ25]
      have y28_9_τ25 : τ25.2.1 28 (τ25.1 9) = (σ.2.1 28) (σ.1 9) := by rw [g28_τ25, w9_τ25]
      have Z4 : τ25.2.1 25 (τ25.1 22) + τ25.2.1 26 (τ25.1 22) = (τ25.1 9) := by rw [show (τ25.2.1 25 (τ25.1 22) + τ25.2.1 26 (τ25.1 22) = (τ25.1 9)) = (σ.2.1 25 (σ.1 22) + σ.2.1 26 (σ.1 22) = (σ.1 9)) from by rw [w9_τ25, w22_τ25, g25_τ25, g26_τ25]]; exact Z4
      have Y10 : ca (τ25.2.1 28) ((τ25.1 9)) ≤ ca (τ25.2.1 28) (τ25.2.1 25 (τ25.1 22)) + (τ25.1 29) := by rw [show (ca (τ25.2.1 28) ((τ25.1 9)) ≤ ca (τ25.2.1 28) (τ25.2.1 25 (τ25.1 22)) + (τ25.1 29)) = (ca (σ.2.1 28) ((σ.1 9)) ≤ ca (σ.2.1 28) (σ.2.1 25 (σ.1 22)) + (σ.1 29)) from by rw [w9_τ25, w22_τ25, w29_τ25, g25_τ25, g28_τ25]]; exact Y10
      have Y12 : ¬ (τ25.1 28) = 0 → τ25.2.1 25 (τ25.1 22) < (τ25.1 9) ∧ τ25.2.1 28 ((τ25.1 9) - 1) = 0 := by rw [show (¬ (τ25.1 28) = 0 → τ25.2.1 25 (τ25.1 22) < (τ25.1 9) ∧ τ25.2.1 28 ((τ25.1 9) - 1) = 0) = (¬ (σ.1 28) = 0 → σ.2.1 25 (σ.1 22) < (σ.1 9) ∧ σ.2.1 28 ((σ.1 9) - 1) = 0) from by rw [w9_τ25, w22_τ25, w28_τ25, g25_τ25, g28_τ25]]; exact Y12
      have Y13 : j_eq (σ.2.1 25 (σ.1 22)) (σ.2.1 28) (τ25.2.1 28) := by rw [show (j_eq (σ.2.1 25 (σ.1 22)) (σ.2.1 28) (τ25.2.1 28)) = (j_eq (σ.2.1 25 (σ.1 22)) (σ.2.1 28) (σ.2.1 28)) from by rw [g28_τ25]]; exact Y13
      have A18 : ∀ j, 0 ≤ τ25.2.1 18 j ∧ τ25.2.1 18 j ≤ 90000 := fun j => hT.2 18 j
      have A19 : ∀ j, 0 ≤ τ25.2.1 19 j ∧ τ25.2.1 19 j ≤ 60 := fun j => hT.2 19 j
      have A25 : ∀ j, 0 ≤ τ25.2.1 25 j ∧ τ25.2.1 25 j ≤ 20000 := fun j => hT.2 25 j
      have A26 : ∀ j, 0 ≤ τ25.2.1 26 j ∧ τ25.2.1 26 j ≤ 20000 := fun j => hT.2 26 j
      have A28 : ∀ j, 0 ≤ τ25.2.1 28 j ∧ τ25.2.1 28 j ≤ 1 := fun j => hT.2 28 j
      have v3 : 0 ≤ τ25.1 3 ∧ τ25.1 3 ≤ 1000 := hT.1 3
      have v5 : 0 ≤ τ25.1 5 ∧ τ25.1 5 ≤ 1500 := hT.1 5
      have v6 : 0 ≤ τ25.1 6 ∧ τ25.1 6 ≤ 30000 := hT.1 6
      have v7 : 0 ≤ τ25.1 7 ∧ τ25.1 7 ≤ 90000 := hT.1 7
      have v8 : 0 ≤ τ25.1 8 ∧ τ25.1 8 ≤ 20000 := hT.1 8
      have v9 : 0 ≤ τ25.1 9 ∧ τ25.1 9 ≤ 20000 := hT.1 9
      have v20 : 0 ≤ τ25.1 20 ∧ τ25.1 20 ≤ 19 := hT.1 20
      have v22 : 0 ≤ τ25.1 22 ∧ τ25.1 22 ≤ 1499 := hT.1 22
      have v25 : 0 ≤ τ25.1 25 ∧ τ25.1 25 ≤ 300 := hT.1 25
      have v26 : 0 ≤ τ25.1 26 ∧ τ25.1 26 ≤ 5000010 := hT.1 26
      have v28 : 0 ≤ τ25.1 28 ∧ τ25.1 28 ≤ 1 := hT.1 28
      have v29 : 0 ≤ τ25.1 29 ∧ τ25.1 29 ≤ 300 := hT.1 29
      have a18_22 : 0 ≤ τ25.2.1 18 (τ25.1 22) ∧ τ25.2.1 18 (τ25.1 22) ≤ 90000 := hT.2 18 _
      have a19_22 : 0 ≤ τ25.2.1 19 (τ25.1 22) ∧ τ25.2.1 19 (τ25.1 22) ≤ 60 := hT.2 19 _
      have a25_22 : 0 ≤ τ25.2.1 25 (τ25.1 22) ∧ τ25.2.1 25 (τ25.1 22) ≤ 20000 := hT.2 25 _
      have a26_22 : 0 ≤ τ25.2.1 26 (τ25.1 22) ∧ τ25.2.1 26 (τ25.1 22) ≤ 20000 := hT.2 26 _
      have a28_9 : 0 ≤ τ25.2.1 28 (τ25.1 9) ∧ τ25.2.1 28 (τ25.1 9) ≤ 1 := hT.2 28 _
      have av9 : σ.1 9 ≤ τ25.1 9 := ag.1 9 (by decide)
      refine h196 _ ?_
      replace ag := ag_v (i := 26) (x := 0) ag (Or.inl rfl)
      replace hT := mT_v (i := 26) hT (show (0 : Int) ≤ 0 ∧ 0 ≤ 5000010 from by (first | omega | (simp only [st_s] <;> omega) | assumption | omega))
      replace ag := ag_v (i := 27) (x := 0) ag (Or.inl rfl)
      replace hT := mT_v (i := 27) hT (show (0 : Int) ≤ 0 ∧ 0 ≤ 1 from by (first | omega | (simp only [st_s] <;> omega) | assumption | omega))
      exact ⟨hT, (show ¬ (σ.1 20) = 0 → (τ25.1 20) = (σ.1 20) from by (first | omega | (simp only [st_s] <;> omega) | assumption | omega)), (show τ25.2.1 25 (τ25.1 22) + τ25.2.1 26 (τ25.1 22) = (τ25.1 9) from Z4), (show ca (τ25.2.1 28) ((τ25.1 9)) ≤ ca (τ25.2.1 28) (τ25.2.1 25 (τ25.1 22)) + (τ25.1 29) from Y10), (show ¬ (τ25.1 28) = 0 → τ25.2.1 25 (τ25.1 22) < (τ25.1 9) ∧ τ25.2.1 28 ((τ25.1 9) - 1) = 0 from Y12), (show j_eq (σ.2.1 25 (σ.1 22)) (σ.2.1 28) (τ25.2.1 28) from Y13), (show ((0 : Int)) = 0 from by (first | omega | (simp only [st_s] <;> omega) | assumption | omega)), ag⟩
set_option maxHeartbeats 1000000 in
theorem K_X13_readLetter {n1 : Int} {n2 : Int} {σ : S0} (hT : m_T σ) (p1 : -1000 ≤ n1) (p2 : n1 ≤ 1000) (p3 : 0 ≤ n2) (p4 : n2 ≤ 60000) (p5 : (σ.1 26) ≤ 1000000) (p6 : (σ.1 22) = (σ.1 5)) (p7 : σ.2.1 25 (σ.1 22) + σ.2.1 26 (σ.1 22) = (σ.1 9)) (p8 : ca (σ.2.1 28) ((σ.1 9)) ≤ ca (σ.2.1 28) (σ.2.1 25 (σ.1 22)) + (σ.1 29)) (p9 : ¬ (σ.1 28) = 0 → σ.2.1 25 (σ.1 22) < (σ.1 9) ∧ σ.2.1 28 ((σ.1 9) - 1) = 0) : W_X13_readLetter n1 n2 σ (fun (τ : S0) => (m_T τ) ∧ (¬ (σ.1 20) = 0 → (τ.1 20) = (σ.1 20)) ∧ (τ.2.1 25 (τ.1 22) + τ.2.1 26 (τ.1 22) = (τ.1 9)) ∧ (ca (τ.2.1 28) ((τ.1 9)) ≤ ca (τ.2.1 28) (τ.2.1 25 (τ.1 22)) + (τ.1 29)) ∧ (¬ (τ.1 28) = 0 → τ.2.1 25 (τ.1 22) < (τ.1 9) ∧ τ.2.1 28 ((τ.1 9) - 1) = 0) ∧ (j_eq (σ.2.1 25 (σ.1 22)) (σ.2.1 28) (τ.2.1 28)) ∧ ((τ.1 20) = 0 → (τ.1 26) ≤ 1000000) ∧ (m_ag σ τ)) := by
  have A25 : ∀ j, 0 ≤ σ.2.1 25 j ∧ σ.2.1 25 j ≤ 20000 := fun j => hT.2 25 j
  have A26 : ∀ j, 0 ≤ σ.2.1 26 j ∧ σ.2.1 26 j ≤ 20000 := fun j => hT.2 26 j
  have A28 : ∀ j, 0 ≤ σ.2.1 28 j ∧ σ.2.1 28 j ≤ 1 := fun j => hT.2 28 j
  have v3 : 0 ≤ σ.1 3 ∧ σ.1 3 ≤ 1000 := hT.1 3
  have v5 : 0 ≤ σ.1 5 ∧ σ.1 5 ≤ 1500 := hT.1 5
  have v6 : 0 ≤ σ.1 6 ∧ σ.1 6 ≤ 30000 := hT.1 6
  have v7 : 0 ≤ σ.1 7 ∧ σ.1 7 ≤ 90000 := hT.1 7
  have v8 : 0 ≤ σ.1 8 ∧ σ.1 8 ≤ 20000 := hT.1 8
  have v9 : 0 ≤ σ.1 9 ∧ σ.1 9 ≤ 20000 := hT.1 9
  have v20 : 0 ≤ σ.1 20 ∧ σ.1 20 ≤ 19 := hT.1 20
  have v22 : 0 ≤ σ.1 22 ∧ σ.1 22 ≤ 1499 := hT.1 22
  have v26 : 0 ≤ σ.1 26 ∧ σ.1 26 ≤ 5000010 := hT.1 26
  have v27 : 0 ≤ σ.1 27 ∧ σ.1 27 ≤ 1 := hT.1 27
  have v28 : 0 ≤ σ.1 28 ∧ σ.1 28 ≤ 1 := hT.1 28
  have v29 : 0 ≤ σ.1 29 ∧ σ.1 29 ≤ 300 := hT.1 29
  have a25_22 : 0 ≤ σ.2.1 25 (σ.1 22) ∧ σ.2.1 25 (σ.1 22) ≤ 20000 := hT.2 25 _
  have a26_22 : 0 ≤ σ.2.1 26 (σ.1 22) ∧ σ.2.1 26 (σ.1 22) ≤ 20000 := hT.2 26 _
  have W3 : σ.1 3 = σ.1 3 := rfl
  have W5 : σ.1 5 = σ.1 5 := rfl
  have W6 : σ.1 6 = σ.1 6 := rfl
  have W7 : σ.1 7 = σ.1 7 := rfl
  have W8 : σ.1 8 = σ.1 8 := rfl
  have W22 : σ.1 22 = σ.1 22 := rfl
  have G25 : σ.2.1 25 = σ.2.1 25 := rfl
  have ag : m_ag σ σ := ag_0 σ
  intro P124 P197 h124 h197
  have Y13 := j_eq0 (σ.2.1 25 (σ.1 22)) (σ.2.1 28)
  have Z4 : σ.2.1 25 (σ.1 22) + σ.2.1 26 (σ.1 22) = (σ.1 9) := p7
  have Y10 : ca (σ.2.1 28) ((σ.1 9)) ≤ ca (σ.2.1 28) (σ.2.1 25 (σ.1 22)) + (σ.1 29) := p8
  have Y12 : ¬ (σ.1 28) = 0 → σ.2.1 25 (σ.1 22) < (σ.1 9) ∧ σ.2.1 28 ((σ.1 9) - 1) = 0 := p9
  refine ⟨_, K_X13_isIn hT, ?_⟩
  intro x2 r_x2 hq
  obtain ⟨q1_1, q1_2⟩ := hq
  replace q1_1 : 0 ≤ x2 ∧ x2 ≤ 1 := q1_1
  replace q1_2 : x2 = 1 ↔ (65 ≤ (j_of n1) ∧ (j_of n1) ≤ 84) := q1_2
  have ii := in_i (show x2 = 1 ↔ (j_of 65 ≤ j_of n1 ∧ j_of n1 ≤ j_of 84) from q1_2) (by unfold rg; omega) (by unfold rg; omega) (by unfold rg; omega)
  refine ⟨fun c4 => ?_, fun c4 => ?_⟩
  ·
    refine ⟨_, K_X13_isIn hT, ?_⟩
    intro x6 r_x6 hq
    obtain ⟨q5_1, q5_2⟩ := hq
    replace q5_1 : 0 ≤ x6 ∧ x6 ≤ 1 := q5_1
    replace q5_2 : x6 = 1 ↔ (85 ≤ (j_of n1) ∧ (j_of n1) ≤ 89) := q5_2
    have ij := in_i (show x6 = 1 ↔ (j_of 85 ≤ j_of n1 ∧ j_of n1 ≤ j_of 89) from q5_2) (by unfold rg; omega) (by unfold rg; omega) (by unfold rg; omega)
    refine ⟨fun c8 => ?_, fun c8 => ?_⟩
    ·
      refine ⟨fun c9 => ?_, fun c9 => ?_⟩
      ·
        refine ⟨fun c10 => ?_, fun c10 => ?_⟩
        ·
          refine h197 _ _ ?_
          refine ⟨_, K_X13_fail hT (show 0 ≤ 14 from by (first | omega | (simp only [st_s] <;> omega) | assumption | omega)) (show 14 ≤ 19 from by (first | omega | (simp only [st_s] <;> omega) | assumption | omega)) (show -1 ≤ n2 from by (first | omega | (simp only [st_s] <;> omega) | assumption | omega)) (show n2 ≤ 60000 from by (first | omega | (simp only [st_s] <;> omega) | assumption | omega)), ?_⟩
          intro τ28 hn_τ28 hf_τ28 hq
          obtain ⟨hT, q26_1, q26_2⟩ := hq
          replace q26_1 : ¬ (σ.1 20) = 0 → (τ28.1 20) = (σ.1 20) := q26_1
          replace q26_2 : (σ.1 20) = 0 → (τ28.1 20) = 14 := q26_2
          replace ag : m_ag σ τ28 := ag_r ag hf_τ28 rfl rfl
          have w3_τ28 : τ28.1 3 = σ.1 3 := hf_τ28.1 3 (by decide)
          have w5_τ28 : τ28.1 5 = σ.1 5 := hf_τ28.1 5 (by decide)
          have w6_τ28 : τ28.1 6 = σ.1 6 := hf_τ28.1 6 (by decide)
          have w7_τ28 : τ28.1 7 = σ.1 7 := hf_τ28.1 7 (by decide)
          have w8_τ28 : τ28.1 8 = σ.1 8 := hf_τ28.1 8 (by decide)
          have w9_τ28 : τ28.1 9 = σ.1 9 := hf_τ28.1 9 (by decide)
          have w22_τ28 : τ28.1 22 = σ.1 22 := hf_τ28.1 22 (by decide)
          have w26_τ28 : τ28.1 26 = σ.1 26 := hf_τ28.1 26 (by decide)
          have w27_τ28 : τ28.1 27 = σ.1 27 := hf_τ28.1 27 (by decide)
          have w28_τ28 : τ28.1 28 = σ.1 28 := hf_τ28.1 28 (by decide)
          have w29_τ28 : τ28.1 29 = σ.1 29 := hf_τ28.1 29 (by decide)
          have g25_τ28 : τ28.2.1 25 = σ.2.1 25 := hf_τ28.2.1 25 (by decide)
          have g26_τ28 : τ28.2.1 26 = σ.2.1 26 := hf_τ28.2.1 26 (by decide)
          have g28_τ28 : τ28.2.1 28 = σ.2.1 28 := hf_τ28.2.1 28 (by decide)
          have W3 : τ28.1 3 = σ.1 3 := by omega
          have W5 : τ28.1 5 = σ.1 5 := by omega
          have W6 : τ28.1 6 = σ.1 6 := by omega
          have W7 : τ28.1 7 = σ.1 7 := by omega
          have W8 : τ28.1 8 = σ.1 8 := by omega
          have W22 : τ28.1 22 = σ.1 22 := by omega
          have G25 : τ28.2.1 25 = σ.2.1 25 := (g25_τ28).trans G25
          have y25_22_τ28 : τ28.2.1 25 (τ28.1 22) = (σ.2.1 25) (σ.1 22) := by rw [g25_τ28, w22_τ28]
          have y26_22_τ28 : τ28.2.1 26 (τ28.1 22) = (σ.2.1 26) (σ.1 22) := by rw [g26_τ28, w22_τ28]
          have Z4 : τ28.2.1 25 (τ28.1 22) + τ28.2.1 26 (τ28.1 22) = (τ28.1 9) := by rw [show (τ28.2.1 25 (τ28.1 22) + τ28.2.1 26 (τ28.1 22) = (τ28.1 9)) = (σ.2.1 25 (σ.1 22) + σ.2.1 26 (σ.1 22) = (σ.1 9)) from by rw [w9_τ28, w22_τ28, g25_τ28, g26_τ28]]; exact Z4
          have Y10 : ca (τ28.2.1 28) ((τ28.1 9)) ≤ ca (τ28.2.1 28) (τ28.2.1 25 (τ28.1 22)) + (τ28.1 29) := by rw [show (ca (τ28.2.1 28) ((τ28.1 9)) ≤ ca (τ28.2.1 28) (τ28.2.1 25 (τ28.1 22)) + (τ28.1 29)) = (ca (σ.2.1 28) ((σ.1 9)) ≤ ca (σ.2.1 28) (σ.2.1 25 (σ.1 22)) + (σ.1 29)) from by rw [w9_τ28, w22_τ28, w29_τ28, g25_τ28, g28_τ28]]; exact Y10
          have Y12 : ¬ (τ28.1 28) = 0 → τ28.2.1 25 (τ28.1 22) < (τ28.1 9) ∧ τ28.2.1 28 ((τ28.1 9) - 1) = 0 := by rw [show (¬ (τ28.1 28) = 0 → τ28.2.1 25 (τ28.1 22) < (τ28.1 9) ∧ τ28.2.1 28 ((τ28.1 9) - 1) = 0) = (¬ (σ.1 28) = 0 → σ.2.1 25 (σ.1 22) < (σ.1 9) ∧ σ.2.1 28 ((σ.1 9) - 1) = 0) from by rw [w9_τ28, w22_τ28, w28_τ28, g25_τ28, g28_τ28]]; exact Y12
          have Y13 : j_eq (σ.2.1 25 (σ.1 22)) (σ.2.1 28) (τ28.2.1 28) := by rw [show (j_eq (σ.2.1 25 (σ.1 22)) (σ.2.1 28) (τ28.2.1 28)) = (j_eq (σ.2.1 25 (σ.1 22)) (σ.2.1 28) (σ.2.1 28)) from by rw [g28_τ28]]; exact Y13
          have A25 : ∀ j, 0 ≤ τ28.2.1 25 j ∧ τ28.2.1 25 j ≤ 20000 := fun j => hT.2 25 j
          have A26 : ∀ j, 0 ≤ τ28.2.1 26 j ∧ τ28.2.1 26 j ≤ 20000 := fun j => hT.2 26 j
          have A28 : ∀ j, 0 ≤ τ28.2.1 28 j ∧ τ28.2.1 28 j ≤ 1 := fun j => hT.2 28 j
          have v3 : 0 ≤ τ28.1 3 ∧ τ28.1 3 ≤ 1000 := hT.1 3
          have v5 : 0 ≤ τ28.1 5 ∧ τ28.1 5 ≤ 1500 := hT.1 5
          have v6 : 0 ≤ τ28.1 6 ∧ τ28.1 6 ≤ 30000 := hT.1 6
          have v7 : 0 ≤ τ28.1 7 ∧ τ28.1 7 ≤ 90000 := hT.1 7
          have v8 : 0 ≤ τ28.1 8 ∧ τ28.1 8 ≤ 20000 := hT.1 8
          have v9 : 0 ≤ τ28.1 9 ∧ τ28.1 9 ≤ 20000 := hT.1 9
          have v20 : 0 ≤ τ28.1 20 ∧ τ28.1 20 ≤ 19 := hT.1 20
          have v22 : 0 ≤ τ28.1 22 ∧ τ28.1 22 ≤ 1499 := hT.1 22
          have v26 : 0 ≤ τ28.1 26 ∧ τ28.1 26 ≤ 5000010 := hT.1 26
          have v27 : 0 ≤ τ28.1 27 ∧ τ28.1 27 ≤ 1 := hT.1 27
          have v28 : 0 ≤ τ28.1 28 ∧ τ28.1 28 ≤ 1 := hT.1 28
          have v29 : 0 ≤ τ28.1 29 ∧ τ28.1 29 ≤ 300 := hT.1 29
          have a25_22 : 0 ≤ τ28.2.1 25 (τ28.1 22) ∧ τ28.2.1 25 (τ28.1 22) ≤ 20000 := hT.2 25 _
          have a26_22 : 0 ≤ τ28.2.1 26 (τ28.1 22) ∧ τ28.2.1 26 (τ28.1 22) ≤ 20000 := hT.2 26 _
          have av9 : σ.1 9 ≤ τ28.1 9 := ag.1 9 (by decide)
          exact ⟨hT, (show ¬ (σ.1 20) = 0 → (τ28.1 20) = (σ.1 20) from by (first | omega | (simp only [st_s] <;> omega) | assumption | omega)), (show τ28.2.1 25 (τ28.1 22) + τ28.2.1 26 (τ28.1 22) = (τ28.1 9) from Z4), (show ca (τ28.2.1 28) ((τ28.1 9)) ≤ ca (τ28.2.1 28) (τ28.2.1 25 (τ28.1 22)) + (τ28.1 29) from Y10), (show ¬ (τ28.1 28) = 0 → τ28.2.1 25 (τ28.1 22) < (τ28.1 9) ∧ τ28.2.1 28 ((τ28.1 9) - 1) = 0 from Y12), (show j_eq (σ.2.1 25 (σ.1 22)) (σ.2.1 28) (τ28.2.1 28) from Y13), (show (τ28.1 20) = 0 → (τ28.1 26) ≤ 1000000 from by (first | omega | (simp only [st_s] <;> omega) | assumption | omega)), ag⟩
        ·
          refine ⟨fun c11 => ?_, fun c11 => ?_⟩
          ·
            refine h197 _ _ ?_
            refine ⟨_, K_X13_fail hT (show 0 ≤ 14 from by (first | omega | (simp only [st_s] <;> omega) | assumption | omega)) (show 14 ≤ 19 from by (first | omega | (simp only [st_s] <;> omega) | assumption | omega)) (show -1 ≤ n2 from by (first | omega | (simp only [st_s] <;> omega) | assumption | omega)) (show n2 ≤ 60000 from by (first | omega | (simp only [st_s] <;> omega) | assumption | omega)), ?_⟩
            intro τ28 hn_τ28 hf_τ28 hq
            obtain ⟨hT, q26_1, q26_2⟩ := hq
            replace q26_1 : ¬ (σ.1 20) = 0 → (τ28.1 20) = (σ.1 20) := q26_1
            replace q26_2 : (σ.1 20) = 0 → (τ28.1 20) = 14 := q26_2
            replace ag : m_ag σ τ28 := ag_r ag hf_τ28 rfl rfl
            have w3_τ28 : τ28.1 3 = σ.1 3 := hf_τ28.1 3 (by decide)
            have w5_τ28 : τ28.1 5 = σ.1 5 := hf_τ28.1 5 (by decide)
            have w6_τ28 : τ28.1 6 = σ.1 6 := hf_τ28.1 6 (by decide)
            have w7_τ28 : τ28.1 7 = σ.1 7 := hf_τ28.1 7 (by decide)
            have w8_τ28 : τ28.1 8 = σ.1 8 := hf_τ28.1 8 (by decide)
            have w9_τ28 : τ28.1 9 = σ.1 9 := hf_τ28.1 9 (by decide)
            have w22_τ28 : τ28.1 22 = σ.1 22 := hf_τ28.1 22 (by decide)
            have w26_τ28 : τ28.1 26 = σ.1 26 := hf_τ28.1 26 (by decide)
            have w27_τ28 : τ28.1 27 = σ.1 27 := hf_τ28.1 27 (by decide)
            have w28_τ28 : τ28.1 28 = σ.1 28 := hf_τ28.1 28 (by decide)
            have w29_τ28 : τ28.1 29 = σ.1 29 := hf_τ28.1 29 (by decide)
            have g25_τ28 : τ28.2.1 25 = σ.2.1 25 := hf_τ28.2.1 25 (by decide)
            have g26_τ28 : τ28.2.1 26 = σ.2.1 26 := hf_τ28.2.1 26 (by decide)
            have g28_τ28 : τ28.2.1 28 = σ.2.1 28 := hf_τ28.2.1 28 (by decide)
            have W3 : τ28.1 3 = σ.1 3 := by omega
            have W5 : τ28.1 5 = σ.1 5 := by omega
            have W6 : τ28.1 6 = σ.1 6 := by omega
            have W7 : τ28.1 7 = σ.1 7 := by omega
            have W8 : τ28.1 8 = σ.1 8 := by omega
            have W22 : τ28.1 22 = σ.1 22 := by omega
            have G25 : τ28.2.1 25 = σ.2.1 25 := (g25_τ28).trans G25
            have y25_22_τ28 : τ28.2.1 25 (τ28.1 22) = (σ.2.1 25) (σ.1 22) := by rw [g25_τ28, w22_τ28]
            have y26_22_τ28 : τ28.2.1 26 (τ28.1 22) = (σ.2.1 26) (σ.1 22) := by rw [g26_τ28, w22_τ28]
            have Z4 : τ28.2.1 25 (τ28.1 22) + τ28.2.1 26 (τ28.1 22) = (τ28.1 9) := by rw [show (τ28.2.1 25 (τ28.1 22) + τ28.2.1 26 (τ28.1 22) = (τ28.1 9)) = (σ.2.1 25 (σ.1 22) + σ.2.1 26 (σ.1 22) = (σ.1 9)) from by rw [w9_τ28, w22_τ28, g25_τ28, g26_τ28]]; exact Z4
            have Y10 : ca (τ28.2.1 28) ((τ28.1 9)) ≤ ca (τ28.2.1 28) (τ28.2.1 25 (τ28.1 22)) + (τ28.1 29) := by rw [show (ca (τ28.2.1 28) ((τ28.1 9)) ≤ ca (τ28.2.1 28) (τ28.2.1 25 (τ28.1 22)) + (τ28.1 29)) = (ca (σ.2.1 28) ((σ.1 9)) ≤ ca (σ.2.1 28) (σ.2.1 25 (σ.1 22)) + (σ.1 29)) from by rw [w9_τ28, w22_τ28, w29_τ28, g25_τ28, g28_τ28]]; exact Y10
            have Y12 : ¬ (τ28.1 28) = 0 → τ28.2.1 25 (τ28.1 22) < (τ28.1 9) ∧ τ28.2.1 28 ((τ28.1 9) - 1) = 0 := by rw [show (¬ (τ28.1 28) = 0 → τ28.2.1 25 (τ28.1 22) < (τ28.1 9) ∧ τ28.2.1 28 ((τ28.1 9) - 1) = 0) = (¬ (σ.1 28) = 0 → σ.2.1 25 (σ.1 22) < (σ.1 9) ∧ σ.2.1 28 ((σ.1 9) - 1) = 0) from by rw [w9_τ28, w22_τ28, w28_τ28, g25_τ28, g28_τ28]]; exact Y12
            have Y13 : j_eq (σ.2.1 25 (σ.1 22)) (σ.2.1 28) (τ28.2.1 28) := by rw [show (j_eq (σ.2.1 25 (σ.1 22)) (σ.2.1 28) (τ28.2.1 28)) = (j_eq (σ.2.1 25 (σ.1 22)) (σ.2.1 28) (σ.2.1 28)) from by rw [g28_τ28]]; exact Y13
            have A25 : ∀ j, 0 ≤ τ28.2.1 25 j ∧ τ28.2.1 25 j ≤ 20000 := fun j => hT.2 25 j
            have A26 : ∀ j, 0 ≤ τ28.2.1 26 j ∧ τ28.2.1 26 j ≤ 20000 := fun j => hT.2 26 j
            have A28 : ∀ j, 0 ≤ τ28.2.1 28 j ∧ τ28.2.1 28 j ≤ 1 := fun j => hT.2 28 j
            have v3 : 0 ≤ τ28.1 3 ∧ τ28.1 3 ≤ 1000 := hT.1 3
            have v5 : 0 ≤ τ28.1 5 ∧ τ28.1 5 ≤ 1500 := hT.1 5
            have v6 : 0 ≤ τ28.1 6 ∧ τ28.1 6 ≤ 30000 := hT.1 6
            have v7 : 0 ≤ τ28.1 7 ∧ τ28.1 7 ≤ 90000 := hT.1 7
            have v8 : 0 ≤ τ28.1 8 ∧ τ28.1 8 ≤ 20000 := hT.1 8
            have v9 : 0 ≤ τ28.1 9 ∧ τ28.1 9 ≤ 20000 := hT.1 9
            have v20 : 0 ≤ τ28.1 20 ∧ τ28.1 20 ≤ 19 := hT.1 20
            have v22 : 0 ≤ τ28.1 22 ∧ τ28.1 22 ≤ 1499 := hT.1 22
            have v26 : 0 ≤ τ28.1 26 ∧ τ28.1 26 ≤ 5000010 := hT.1 26
            have v27 : 0 ≤ τ28.1 27 ∧ τ28.1 27 ≤ 1 := hT.1 27
            have v28 : 0 ≤ τ28.1 28 ∧ τ28.1 28 ≤ 1 := hT.1 28
            have v29 : 0 ≤ τ28.1 29 ∧ τ28.1 29 ≤ 300 := hT.1 29
            have a25_22 : 0 ≤ τ28.2.1 25 (τ28.1 22) ∧ τ28.2.1 25 (τ28.1 22) ≤ 20000 := hT.2 25 _
            have a26_22 : 0 ≤ τ28.2.1 26 (τ28.1 22) ∧ τ28.2.1 26 (τ28.1 22) ≤ 20000 := hT.2 26 _
            have av9 : σ.1 9 ≤ τ28.1 9 := ag.1 9 (by decide)
            exact ⟨hT, (show ¬ (σ.1 20) = 0 → (τ28.1 20) = (σ.1 20) from by (first | omega | (simp only [st_s] <;> omega) | assumption | omega)), (show τ28.2.1 25 (τ28.1 22) + τ28.2.1 26 (τ28.1 22) = (τ28.1 9) from Z4), (show ca (τ28.2.1 28) ((τ28.1 9)) ≤ ca (τ28.2.1 28) (τ28.2.1 25 (τ28.1 22)) + (τ28.1 29) from Y10), (show ¬ (τ28.1 28) = 0 → τ28.2.1 25 (τ28.1 22) < (τ28.1 9) ∧ τ28.2.1 28 ((τ28.1 9) - 1) = 0 from Y12), (show j_eq (σ.2.1 25 (σ.1 22)) (σ.2.1 28) (τ28.2.1 28) from Y13), (show (τ28.1 20) = 0 → (τ28.1 26) ≤ 1000000 from by (first | omega | (simp only [st_s] <;> omega) | assumption | omega)), ag⟩
          ·
            replace ag := ag_v (i := 23) (x := 1) ag (Or.inl rfl)
            replace hT := mT_v (i := 23) hT (show (0 : Int) ≤ 1 ∧ 1 ≤ 1 from by (first | omega | (simp only [st_s] <;> omega) | assumption | omega))
            replace ag := ag_v (i := 28) (x := 0) ag (Or.inl rfl)
            replace hT := mT_v (i := 28) hT (show (0 : Int) ≤ 0 ∧ 0 ≤ 1 from by (first | omega | (simp only [st_s] <;> omega) | assumption | omega))
            exact ⟨hT, (show ¬ (σ.1 20) = 0 → (σ.1 20) = (σ.1 20) from by (first | omega | (simp only [st_s] <;> omega) | assumption | omega)), (show σ.2.1 25 (σ.1 22) + σ.2.1 26 (σ.1 22) = (σ.1 9) from Z4), (show ca (σ.2.1 28) ((σ.1 9)) ≤ ca (σ.2.1 28) (σ.2.1 25 (σ.1 22)) + (σ.1 29) from Y10), (show ¬ ((0 : Int)) = 0 → σ.2.1 25 (σ.1 22) < (σ.1 9) ∧ σ.2.1 28 ((σ.1 9) - 1) = 0 from by (first | assumption | omega)), (show j_eq (σ.2.1 25 (σ.1 22)) (σ.2.1 28) (σ.2.1 28) from Y13), (show (σ.1 20) = 0 → (σ.1 26) ≤ 1000000 from by (first | omega | (simp only [st_s] <;> omega) | assumption | omega)), ag⟩
      ·
        refine ⟨fun c12 => ?_, fun c12 => ?_⟩
        ·
          refine h124 _ _ ?_
          refine ⟨fun c29 => ?_, fun c29 => ?_⟩
          ·
            have y12 := Y12 c29
            have ce := ca_eq (j_eqs (x := (1 : Int)) (j_eq0 (σ.2.1 25 (σ.1 22)) (σ.2.1 28)) (show σ.2.1 25 (σ.1 22) ≤ σ.1 9 - 1 from by omega)) (n := σ.2.1 25 (σ.1 22)) (Int.le_refl _)
            have cf := ca_t1 (σ.2.1 28) (σ.1 9 - 1) (σ.1 9) 1 (by omega) (by omega) y12.2 (by omega)
            refine ⟨(show 0 ≤ (σ.1 9 - 1) ∧ (σ.1 9 - 1) < 20001 from by (first | omega | (simp only [st_s] <;> omega) | assumption | omega)), ?_⟩
            replace ag := ag_a (k := 28) (e := (σ.1 9 - 1)) (x := 1) ag rfl
            replace hT := mT_a (k := 28) (j := (σ.1 9 - 1)) hT (show (0 : Int) ≤ 1 ∧ 1 ≤ 1 from by (first | omega | (simp only [st_s] <;> omega) | assumption | omega))
            refine ⟨(⟨by (first | omega | (simp only [st_s] <;> omega) | assumption | omega), by (first | omega | (simp only [st_s] <;> omega) | assumption | omega)⟩ : rg (σ.1 29 + 1)), ?_⟩
            replace ag := ag_v (i := 29) (x := (σ.1 29 + 1)) ag (Or.inl rfl)
            replace hT := mT_v (i := 29) hT (show 0 ≤ (σ.1 29 + 1) ∧ (σ.1 29 + 1) ≤ 300 from by (first | omega | (simp only [st_s] <;> omega) | assumption | omega))
            replace ag := ag_v (i := 28) (x := 0) ag (Or.inl rfl)
            replace hT := mT_v (i := 28) hT (show (0 : Int) ≤ 0 ∧ 0 ≤ 1 from by (first | omega | (simp only [st_s] <;> omega) | assumption | omega))
            exact ⟨hT, (show ¬ (σ.1 20) = 0 → (σ.1 20) = (σ.1 20) from by (first | omega | (simp only [st_s] <;> omega) | assumption | omega)), (show σ.2.1 25 (σ.1 22) + σ.2.1 26 (σ.1 22) = (σ.1 9) from Z4), (show ca ((st (σ.2.1 28) (σ.1 9 - 1) 1)) ((σ.1 9)) ≤ ca ((st (σ.2.1 28) (σ.1 9 - 1) 1)) (σ.2.1 25 (σ.1 22)) + ((σ.1 29 + 1)) from by (first | assumption | omega | (rw [ce, cf]; omega))), (show ¬ ((0 : Int)) = 0 → σ.2.1 25 (σ.1 22) < (σ.1 9) ∧ (st (σ.2.1 28) (σ.1 9 - 1) 1) ((σ.1 9) - 1) = 0 from by (first | assumption | omega)), (show j_eq (σ.2.1 25 (σ.1 22)) (σ.2.1 28) ((st (σ.2.1 28) (σ.1 9 - 1) 1)) from by (first | assumption | exact j_eqs (j_eq0 _ _) (by omega))), (show (σ.1 20) = 0 → (σ.1 26) ≤ 1000000 from by (first | omega | (simp only [st_s] <;> omega) | assumption | omega)), ag⟩
          ·
            refine ⟨_, K_X13_fail hT (show 0 ≤ 14 from by (first | omega | (simp only [st_s] <;> omega) | assumption | omega)) (show 14 ≤ 19 from by (first | omega | (simp only [st_s] <;> omega) | assumption | omega)) (show -1 ≤ n2 from by (first | omega | (simp only [st_s] <;> omega) | assumption | omega)) (show n2 ≤ 60000 from by (first | omega | (simp only [st_s] <;> omega) | assumption | omega)), ?_⟩
            intro τ34 hn_τ34 hf_τ34 hq
            obtain ⟨hT, q32_1, q32_2⟩ := hq
            replace q32_1 : ¬ (σ.1 20) = 0 → (τ34.1 20) = (σ.1 20) := q32_1
            replace q32_2 : (σ.1 20) = 0 → (τ34.1 20) = 14 := q32_2
            replace ag : m_ag σ τ34 := ag_r ag hf_τ34 rfl rfl
            have w3_τ34 : τ34.1 3 = σ.1 3 := hf_τ34.1 3 (by decide)
            have w5_τ34 : τ34.1 5 = σ.1 5 := hf_τ34.1 5 (by decide)
            have w6_τ34 : τ34.1 6 = σ.1 6 := hf_τ34.1 6 (by decide)
            have w7_τ34 : τ34.1 7 = σ.1 7 := hf_τ34.1 7 (by decide)
            have w8_τ34 : τ34.1 8 = σ.1 8 := hf_τ34.1 8 (by decide)
            have w9_τ34 : τ34.1 9 = σ.1 9 := hf_τ34.1 9 (by decide)
            have w22_τ34 : τ34.1 22 = σ.1 22 := hf_τ34.1 22 (by decide)
            have w26_τ34 : τ34.1 26 = σ.1 26 := hf_τ34.1 26 (by decide)
            have w27_τ34 : τ34.1 27 = σ.1 27 := hf_τ34.1 27 (by decide)
            have w28_τ34 : τ34.1 28 = σ.1 28 := hf_τ34.1 28 (by decide)
            have w29_τ34 : τ34.1 29 = σ.1 29 := hf_τ34.1 29 (by decide)
            have g25_τ34 : τ34.2.1 25 = σ.2.1 25 := hf_τ34.2.1 25 (by decide)
            have g26_τ34 : τ34.2.1 26 = σ.2.1 26 := hf_τ34.2.1 26 (by decide)
            have g28_τ34 : τ34.2.1 28 = σ.2.1 28 := hf_τ34.2.1 28 (by decide)
            have W3 : τ34.1 3 = σ.1 3 := by omega
            have W5 : τ34.1 5 = σ.1 5 := by omega
            have W6 : τ34.1 6 = σ.1 6 := by omega
            have W7 : τ34.1 7 = σ.1 7 := by omega
            have W8 : τ34.1 8 = σ.1 8 := by omega
            have W22 : τ34.1 22 = σ.1 22 := by omega
            have G25 : τ34.2.1 25 = σ.2.1 25 := (g25_τ34).trans G25
            have y25_22_τ34 : τ34.2.1 25 (τ34.1 22) = (σ.2.1 25) (σ.1 22) := by rw [g25_τ34, w22_τ34]
            have y26_22_τ34 : τ34.2.1 26 (τ34.1 22) = (σ.2.1 26) (σ.1 22) := by rw [g26_τ34, w22_τ34]
            have Z4 : τ34.2.1 25 (τ34.1 22) + τ34.2.1 26 (τ34.1 22) = (τ34.1 9) := by rw [show (τ34.2.1 25 (τ34.1 22) + τ34.2.1 26 (τ34.1 22) = (τ34.1 9)) = (σ.2.1 25 (σ.1 22) + σ.2.1 26 (σ.1 22) = (σ.1 9)) from by rw [w9_τ34, w22_τ34, g25_τ34, g26_τ34]]; exact Z4
            have Y10 : ca (τ34.2.1 28) ((τ34.1 9)) ≤ ca (τ34.2.1 28) (τ34.2.1 25 (τ34.1 22)) + (τ34.1 29) := by rw [show (ca (τ34.2.1 28) ((τ34.1 9)) ≤ ca (τ34.2.1 28) (τ34.2.1 25 (τ34.1 22)) + (τ34.1 29)) = (ca (σ.2.1 28) ((σ.1 9)) ≤ ca (σ.2.1 28) (σ.2.1 25 (σ.1 22)) + (σ.1 29)) from by rw [w9_τ34, w22_τ34, w29_τ34, g25_τ34, g28_τ34]]; exact Y10
            have Y12 : ¬ (τ34.1 28) = 0 → τ34.2.1 25 (τ34.1 22) < (τ34.1 9) ∧ τ34.2.1 28 ((τ34.1 9) - 1) = 0 := by rw [show (¬ (τ34.1 28) = 0 → τ34.2.1 25 (τ34.1 22) < (τ34.1 9) ∧ τ34.2.1 28 ((τ34.1 9) - 1) = 0) = (¬ (σ.1 28) = 0 → σ.2.1 25 (σ.1 22) < (σ.1 9) ∧ σ.2.1 28 ((σ.1 9) - 1) = 0) from by rw [w9_τ34, w22_τ34, w28_τ34, g25_τ34, g28_τ34]]; exact Y12
            have Y13 : j_eq (σ.2.1 25 (σ.1 22)) (σ.2.1 28) (τ34.2.1 28) := by rw [show (j_eq (σ.2.1 25 (σ.1 22)) (σ.2.1 28) (τ34.2.1 28)) = (j_eq (σ.2.1 25 (σ.1 22)) (σ.2.1 28) (σ.2.1 28)) from by rw [g28_τ34]]; exact Y13
            have A25 : ∀ j, 0 ≤ τ34.2.1 25 j ∧ τ34.2.1 25 j ≤ 20000 := fun j => hT.2 25 j
            have A26 : ∀ j, 0 ≤ τ34.2.1 26 j ∧ τ34.2.1 26 j ≤ 20000 := fun j => hT.2 26 j
            have A28 : ∀ j, 0 ≤ τ34.2.1 28 j ∧ τ34.2.1 28 j ≤ 1 := fun j => hT.2 28 j
            have v3 : 0 ≤ τ34.1 3 ∧ τ34.1 3 ≤ 1000 := hT.1 3
            have v5 : 0 ≤ τ34.1 5 ∧ τ34.1 5 ≤ 1500 := hT.1 5
            have v6 : 0 ≤ τ34.1 6 ∧ τ34.1 6 ≤ 30000 := hT.1 6
            have v7 : 0 ≤ τ34.1 7 ∧ τ34.1 7 ≤ 90000 := hT.1 7
            have v8 : 0 ≤ τ34.1 8 ∧ τ34.1 8 ≤ 20000 := hT.1 8
            have v9 : 0 ≤ τ34.1 9 ∧ τ34.1 9 ≤ 20000 := hT.1 9
            have v20 : 0 ≤ τ34.1 20 ∧ τ34.1 20 ≤ 19 := hT.1 20
            have v22 : 0 ≤ τ34.1 22 ∧ τ34.1 22 ≤ 1499 := hT.1 22
            have v26 : 0 ≤ τ34.1 26 ∧ τ34.1 26 ≤ 5000010 := hT.1 26
            have v27 : 0 ≤ τ34.1 27 ∧ τ34.1 27 ≤ 1 := hT.1 27
            have v28 : 0 ≤ τ34.1 28 ∧ τ34.1 28 ≤ 1 := hT.1 28
            have v29 : 0 ≤ τ34.1 29 ∧ τ34.1 29 ≤ 300 := hT.1 29
            have a25_22 : 0 ≤ τ34.2.1 25 (τ34.1 22) ∧ τ34.2.1 25 (τ34.1 22) ≤ 20000 := hT.2 25 _
            have a26_22 : 0 ≤ τ34.2.1 26 (τ34.1 22) ∧ τ34.2.1 26 (τ34.1 22) ≤ 20000 := hT.2 26 _
            have av9 : σ.1 9 ≤ τ34.1 9 := ag.1 9 (by decide)
            exact ⟨hT, (show ¬ (σ.1 20) = 0 → (τ34.1 20) = (σ.1 20) from by (first | omega | (simp only [st_s] <;> omega) | assumption | omega)), (show τ34.2.1 25 (τ34.1 22) + τ34.2.1 26 (τ34.1 22) = (τ34.1 9) from Z4), (show ca (τ34.2.1 28) ((τ34.1 9)) ≤ ca (τ34.2.1 28) (τ34.2.1 25 (τ34.1 22)) + (τ34.1 29) from Y10), (show ¬ (τ34.1 28) = 0 → τ34.2.1 25 (τ34.1 22) < (τ34.1 9) ∧ τ34.2.1 28 ((τ34.1 9) - 1) = 0 from Y12), (show j_eq (σ.2.1 25 (σ.1 22)) (σ.2.1 28) (τ34.2.1 28) from Y13), (show (τ34.1 20) = 0 → (τ34.1 26) ≤ 1000000 from by (first | omega | (simp only [st_s] <;> omega) | assumption | omega)), ag⟩
        ·
          refine ⟨fun c13 => ?_, fun c13 => ?_⟩
          ·
            refine h124 _ _ ?_
            refine ⟨fun c29 => ?_, fun c29 => ?_⟩
            ·
              have y12 := Y12 c29
              have ce := ca_eq (j_eqs (x := (1 : Int)) (j_eq0 (σ.2.1 25 (σ.1 22)) (σ.2.1 28)) (show σ.2.1 25 (σ.1 22) ≤ σ.1 9 - 1 from by omega)) (n := σ.2.1 25 (σ.1 22)) (Int.le_refl _)
              have cf := ca_t1 (σ.2.1 28) (σ.1 9 - 1) (σ.1 9) 1 (by omega) (by omega) y12.2 (by omega)
              refine ⟨(show 0 ≤ (σ.1 9 - 1) ∧ (σ.1 9 - 1) < 20001 from by (first | omega | (simp only [st_s] <;> omega) | assumption | omega)), ?_⟩
              replace ag := ag_a (k := 28) (e := (σ.1 9 - 1)) (x := 1) ag rfl
              replace hT := mT_a (k := 28) (j := (σ.1 9 - 1)) hT (show (0 : Int) ≤ 1 ∧ 1 ≤ 1 from by (first | omega | (simp only [st_s] <;> omega) | assumption | omega))
              refine ⟨(⟨by (first | omega | (simp only [st_s] <;> omega) | assumption | omega), by (first | omega | (simp only [st_s] <;> omega) | assumption | omega)⟩ : rg (σ.1 29 + 1)), ?_⟩
              replace ag := ag_v (i := 29) (x := (σ.1 29 + 1)) ag (Or.inl rfl)
              replace hT := mT_v (i := 29) hT (show 0 ≤ (σ.1 29 + 1) ∧ (σ.1 29 + 1) ≤ 300 from by (first | omega | (simp only [st_s] <;> omega) | assumption | omega))
              replace ag := ag_v (i := 28) (x := 0) ag (Or.inl rfl)
              replace hT := mT_v (i := 28) hT (show (0 : Int) ≤ 0 ∧ 0 ≤ 1 from by (first | omega | (simp only [st_s] <;> omega) | assumption | omega))
              exact ⟨hT, (show ¬ (σ.1 20) = 0 → (σ.1 20) = (σ.1 20) from by (first | omega | (simp only [st_s] <;> omega) | assumption | omega)), (show σ.2.1 25 (σ.1 22) + σ.2.1 26 (σ.1 22) = (σ.1 9) from Z4), (show ca ((st (σ.2.1 28) (σ.1 9 - 1) 1)) ((σ.1 9)) ≤ ca ((st (σ.2.1 28) (σ.1 9 - 1) 1)) (σ.2.1 25 (σ.1 22)) + ((σ.1 29 + 1)) from by (first | assumption | omega | (rw [ce, cf]; omega))), (show ¬ ((0 : Int)) = 0 → σ.2.1 25 (σ.1 22) < (σ.1 9) ∧ (st (σ.2.1 28) (σ.1 9 - 1) 1) ((σ.1 9) - 1) = 0 from by (first | assumption | omega)), (show j_eq (σ.2.1 25 (σ.1 22)) (σ.2.1 28) ((st (σ.2.1 28) (σ.1 9 - 1) 1)) from by (first | assumption | exact j_eqs (j_eq0 _ _) (by omega))), (show (σ.1 20) = 0 → (σ.1 26) ≤ 1000000 from by (first | omega | (simp only [st_s] <;> omega) | assumption | omega)), ag⟩
            ·
              refine ⟨_, K_X13_fail hT (show 0 ≤ 14 from by (first | omega | (simp only [st_s] <;> omega) | assumption | omega)) (show 14 ≤ 19 from by (first | omega | (simp only [st_s] <;> omega) | assumption | omega)) (show -1 ≤ n2 from by (first | omega | (simp only [st_s] <;> omega) | assumption | omega)) (show n2 ≤ 60000 from by (first | omega | (simp only [st_s] <;> omega) | assumption | omega)), ?_⟩
              intro τ34 hn_τ34 hf_τ34 hq
              obtain ⟨hT, q32_1, q32_2⟩ := hq
              replace q32_1 : ¬ (σ.1 20) = 0 → (τ34.1 20) = (σ.1 20) := q32_1
              replace q32_2 : (σ.1 20) = 0 → (τ34.1 20) = 14 := q32_2
              replace ag : m_ag σ τ34 := ag_r ag hf_τ34 rfl rfl
              have w3_τ34 : τ34.1 3 = σ.1 3 := hf_τ34.1 3 (by decide)
              have w5_τ34 : τ34.1 5 = σ.1 5 := hf_τ34.1 5 (by decide)
              have w6_τ34 : τ34.1 6 = σ.1 6 := hf_τ34.1 6 (by decide)
              have w7_τ34 : τ34.1 7 = σ.1 7 := hf_τ34.1 7 (by decide)
              have w8_τ34 : τ34.1 8 = σ.1 8 := hf_τ34.1 8 (by decide)
              have w9_τ34 : τ34.1 9 = σ.1 9 := hf_τ34.1 9 (by decide)
              have w22_τ34 : τ34.1 22 = σ.1 22 := hf_τ34.1 22 (by decide)
              have w26_τ34 : τ34.1 26 = σ.1 26 := hf_τ34.1 26 (by decide)
              have w27_τ34 : τ34.1 27 = σ.1 27 := hf_τ34.1 27 (by decide)
              have w28_τ34 : τ34.1 28 = σ.1 28 := hf_τ34.1 28 (by decide)
              have w29_τ34 : τ34.1 29 = σ.1 29 := hf_τ34.1 29 (by decide)
              have g25_τ34 : τ34.2.1 25 = σ.2.1 25 := hf_τ34.2.1 25 (by decide)
              have g26_τ34 : τ34.2.1 26 = σ.2.1 26 := hf_τ34.2.1 26 (by decide)
              have g28_τ34 : τ34.2.1 28 = σ.2.1 28 := hf_τ34.2.1 28 (by decide)
              have W3 : τ34.1 3 = σ.1 3 := by omega
              have W5 : τ34.1 5 = σ.1 5 := by omega
              have W6 : τ34.1 6 = σ.1 6 := by omega
              have W7 : τ34.1 7 = σ.1 7 := by omega
              have W8 : τ34.1 8 = σ.1 8 := by omega
              have W22 : τ34.1 22 = σ.1 22 := by omega
              have G25 : τ34.2.1 25 = σ.2.1 25 := (g25_τ34).trans G25
              have y25_22_τ34 : τ34.2.1 25 (τ34.1 22) = (σ.2.1 25) (σ.1 22) := by rw [g25_τ34, w22_τ34]
              have y26_22_τ34 : τ34.2.1 26 (τ34.1 22) = (σ.2.1 26) (σ.1 22) := by rw [g26_τ34, w22_τ34]
              have Z4 : τ34.2.1 25 (τ34.1 22) + τ34.2.1 26 (τ34.1 22) = (τ34.1 9) := by rw [show (τ34.2.1 25 (τ34.1 22) + τ34.2.1 26 (τ34.1 22) = (τ34.1 9)) = (σ.2.1 25 (σ.1 22) + σ.2.1 26 (σ.1 22) = (σ.1 9)) from by rw [w9_τ34, w22_τ34, g25_τ34, g26_τ34]]; exact Z4
              have Y10 : ca (τ34.2.1 28) ((τ34.1 9)) ≤ ca (τ34.2.1 28) (τ34.2.1 25 (τ34.1 22)) + (τ34.1 29) := by rw [show (ca (τ34.2.1 28) ((τ34.1 9)) ≤ ca (τ34.2.1 28) (τ34.2.1 25 (τ34.1 22)) + (τ34.1 29)) = (ca (σ.2.1 28) ((σ.1 9)) ≤ ca (σ.2.1 28) (σ.2.1 25 (σ.1 22)) + (σ.1 29)) from by rw [w9_τ34, w22_τ34, w29_τ34, g25_τ34, g28_τ34]]; exact Y10
              have Y12 : ¬ (τ34.1 28) = 0 → τ34.2.1 25 (τ34.1 22) < (τ34.1 9) ∧ τ34.2.1 28 ((τ34.1 9) - 1) = 0 := by rw [show (¬ (τ34.1 28) = 0 → τ34.2.1 25 (τ34.1 22) < (τ34.1 9) ∧ τ34.2.1 28 ((τ34.1 9) - 1) = 0) = (¬ (σ.1 28) = 0 → σ.2.1 25 (σ.1 22) < (σ.1 9) ∧ σ.2.1 28 ((σ.1 9) - 1) = 0) from by rw [w9_τ34, w22_τ34, w28_τ34, g25_τ34, g28_τ34]]; exact Y12
              have Y13 : j_eq (σ.2.1 25 (σ.1 22)) (σ.2.1 28) (τ34.2.1 28) := by rw [show (j_eq (σ.2.1 25 (σ.1 22)) (σ.2.1 28) (τ34.2.1 28)) = (j_eq (σ.2.1 25 (σ.1 22)) (σ.2.1 28) (σ.2.1 28)) from by rw [g28_τ34]]; exact Y13
              have A25 : ∀ j, 0 ≤ τ34.2.1 25 j ∧ τ34.2.1 25 j ≤ 20000 := fun j => hT.2 25 j
              have A26 : ∀ j, 0 ≤ τ34.2.1 26 j ∧ τ34.2.1 26 j ≤ 20000 := fun j => hT.2 26 j
              have A28 : ∀ j, 0 ≤ τ34.2.1 28 j ∧ τ34.2.1 28 j ≤ 1 := fun j => hT.2 28 j
              have v3 : 0 ≤ τ34.1 3 ∧ τ34.1 3 ≤ 1000 := hT.1 3
              have v5 : 0 ≤ τ34.1 5 ∧ τ34.1 5 ≤ 1500 := hT.1 5
              have v6 : 0 ≤ τ34.1 6 ∧ τ34.1 6 ≤ 30000 := hT.1 6
              have v7 : 0 ≤ τ34.1 7 ∧ τ34.1 7 ≤ 90000 := hT.1 7
              have v8 : 0 ≤ τ34.1 8 ∧ τ34.1 8 ≤ 20000 := hT.1 8
              have v9 : 0 ≤ τ34.1 9 ∧ τ34.1 9 ≤ 20000 := hT.1 9
              have v20 : 0 ≤ τ34.1 20 ∧ τ34.1 20 ≤ 19 := hT.1 20
              have v22 : 0 ≤ τ34.1 22 ∧ τ34.1 22 ≤ 1499 := hT.1 22
              have v26 : 0 ≤ τ34.1 26 ∧ τ34.1 26 ≤ 5000010 := hT.1 26
              have v27 : 0 ≤ τ34.1 27 ∧ τ34.1 27 ≤ 1 := hT.1 27
              have v28 : 0 ≤ τ34.1 28 ∧ τ34.1 28 ≤ 1 := hT.1 28
              have v29 : 0 ≤ τ34.1 29 ∧ τ34.1 29 ≤ 300 := hT.1 29
              have a25_22 : 0 ≤ τ34.2.1 25 (τ34.1 22) ∧ τ34.2.1 25 (τ34.1 22) ≤ 20000 := hT.2 25 _
              have a26_22 : 0 ≤ τ34.2.1 26 (τ34.1 22) ∧ τ34.2.1 26 (τ34.1 22) ≤ 20000 := hT.2 26 _
              have av9 : σ.1 9 ≤ τ34.1 9 := ag.1 9 (by decide)
              exact ⟨hT, (show ¬ (σ.1 20) = 0 → (τ34.1 20) = (σ.1 20) from by (first | omega | (simp only [st_s] <;> omega) | assumption | omega)), (show τ34.2.1 25 (τ34.1 22) + τ34.2.1 26 (τ34.1 22) = (τ34.1 9) from Z4), (show ca (τ34.2.1 28) ((τ34.1 9)) ≤ ca (τ34.2.1 28) (τ34.2.1 25 (τ34.1 22)) + (τ34.1 29) from Y10), (show ¬ (τ34.1 28) = 0 → τ34.2.1 25 (τ34.1 22) < (τ34.1 9) ∧ τ34.2.1 28 ((τ34.1 9) - 1) = 0 from Y12), (show j_eq (σ.2.1 25 (σ.1 22)) (σ.2.1 28) (τ34.2.1 28) from Y13), (show (τ34.1 20) = 0 → (τ34.1 26) ≤ 1000000 from by (first | omega | (simp only [st_s] <;> omega) | assumption | omega)), ag⟩
          ·
            refine ⟨_, K_X13_fail hT (show 0 ≤ 5 from by (first | omega | (simp only [st_s] <;> omega) | assumption | omega)) (show 5 ≤ 19 from by (first | omega | (simp only [st_s] <;> omega) | assumption | omega)) (show -1 ≤ n2 from by (first | omega | (simp only [st_s] <;> omega) | assumption | omega)) (show n2 ≤ 60000 from by (first | omega | (simp only [st_s] <;> omega) | assumption | omega)), ?_⟩
            intro τ16 hn_τ16 hf_τ16 hq
            obtain ⟨hT, q14_1, q14_2⟩ := hq
            replace q14_1 : ¬ (σ.1 20) = 0 → (τ16.1 20) = (σ.1 20) := q14_1
            replace q14_2 : (σ.1 20) = 0 → (τ16.1 20) = 5 := q14_2
            replace ag : m_ag σ τ16 := ag_r ag hf_τ16 rfl rfl
            have w3_τ16 : τ16.1 3 = σ.1 3 := hf_τ16.1 3 (by decide)
            have w5_τ16 : τ16.1 5 = σ.1 5 := hf_τ16.1 5 (by decide)
            have w6_τ16 : τ16.1 6 = σ.1 6 := hf_τ16.1 6 (by decide)
            have w7_τ16 : τ16.1 7 = σ.1 7 := hf_τ16.1 7 (by decide)
            have w8_τ16 : τ16.1 8 = σ.1 8 := hf_τ16.1 8 (by decide)
            have w9_τ16 : τ16.1 9 = σ.1 9 := hf_τ16.1 9 (by decide)
            have w22_τ16 : τ16.1 22 = σ.1 22 := hf_τ16.1 22 (by decide)
            have w26_τ16 : τ16.1 26 = σ.1 26 := hf_τ16.1 26 (by decide)
            have w27_τ16 : τ16.1 27 = σ.1 27 := hf_τ16.1 27 (by decide)
            have w28_τ16 : τ16.1 28 = σ.1 28 := hf_τ16.1 28 (by decide)
            have w29_τ16 : τ16.1 29 = σ.1 29 := hf_τ16.1 29 (by decide)
            have g25_τ16 : τ16.2.1 25 = σ.2.1 25 := hf_τ16.2.1 25 (by decide)
            have g26_τ16 : τ16.2.1 26 = σ.2.1 26 := hf_τ16.2.1 26 (by decide)
            have g28_τ16 : τ16.2.1 28 = σ.2.1 28 := hf_τ16.2.1 28 (by decide)
            have W3 : τ16.1 3 = σ.1 3 := by omega
            have W5 : τ16.1 5 = σ.1 5 := by omega
            have W6 : τ16.1 6 = σ.1 6 := by omega
            have W7 : τ16.1 7 = σ.1 7 := by omega
            have W8 : τ16.1 8 = σ.1 8 := by omega
            have W22 : τ16.1 22 = σ.1 22 := by omega
            have G25 : τ16.2.1 25 = σ.2.1 25 := (g25_τ16).trans G25
            have y25_22_τ16 : τ16.2.1 25 (τ16.1 22) = (σ.2.1 25) (σ.1 22) := by rw [g25_τ16, w22_τ16]
            have y26_22_τ16 : τ16.2.1 26 (τ16.1 22) = (σ.2.1 26) (σ.1 22) := by rw [g26_τ16, w22_τ16]
            have Z4 : τ16.2.1 25 (τ16.1 22) + τ16.2.1 26 (τ16.1 22) = (τ16.1 9) := by rw [show (τ16.2.1 25 (τ16.1 22) + τ16.2.1 26 (τ16.1 22) = (τ16.1 9)) = (σ.2.1 25 (σ.1 22) + σ.2.1 26 (σ.1 22) = (σ.1 9)) from by rw [w9_τ16, w22_τ16, g25_τ16, g26_τ16]]; exact Z4
            have Y10 : ca (τ16.2.1 28) ((τ16.1 9)) ≤ ca (τ16.2.1 28) (τ16.2.1 25 (τ16.1 22)) + (τ16.1 29) := by rw [show (ca (τ16.2.1 28) ((τ16.1 9)) ≤ ca (τ16.2.1 28) (τ16.2.1 25 (τ16.1 22)) + (τ16.1 29)) = (ca (σ.2.1 28) ((σ.1 9)) ≤ ca (σ.2.1 28) (σ.2.1 25 (σ.1 22)) + (σ.1 29)) from by rw [w9_τ16, w22_τ16, w29_τ16, g25_τ16, g28_τ16]]; exact Y10
            have Y12 : ¬ (τ16.1 28) = 0 → τ16.2.1 25 (τ16.1 22) < (τ16.1 9) ∧ τ16.2.1 28 ((τ16.1 9) - 1) = 0 := by rw [show (¬ (τ16.1 28) = 0 → τ16.2.1 25 (τ16.1 22) < (τ16.1 9) ∧ τ16.2.1 28 ((τ16.1 9) - 1) = 0) = (¬ (σ.1 28) = 0 → σ.2.1 25 (σ.1 22) < (σ.1 9) ∧ σ.2.1 28 ((σ.1 9) - 1) = 0) from by rw [w9_τ16, w22_τ16, w28_τ16, g25_τ16, g28_τ16]]; exact Y12
            have Y13 : j_eq (σ.2.1 25 (σ.1 22)) (σ.2.1 28) (τ16.2.1 28) := by rw [show (j_eq (σ.2.1 25 (σ.1 22)) (σ.2.1 28) (τ16.2.1 28)) = (j_eq (σ.2.1 25 (σ.1 22)) (σ.2.1 28) (σ.2.1 28)) from by rw [g28_τ16]]; exact Y13
            have A25 : ∀ j, 0 ≤ τ16.2.1 25 j ∧ τ16.2.1 25 j ≤ 20000 := fun j => hT.2 25 j
            have A26 : ∀ j, 0 ≤ τ16.2.1 26 j ∧ τ16.2.1 26 j ≤ 20000 := fun j => hT.2 26 j
            have A28 : ∀ j, 0 ≤ τ16.2.1 28 j ∧ τ16.2.1 28 j ≤ 1 := fun j => hT.2 28 j
            have v3 : 0 ≤ τ16.1 3 ∧ τ16.1 3 ≤ 1000 := hT.1 3
            have v5 : 0 ≤ τ16.1 5 ∧ τ16.1 5 ≤ 1500 := hT.1 5
            have v6 : 0 ≤ τ16.1 6 ∧ τ16.1 6 ≤ 30000 := hT.1 6
            have v7 : 0 ≤ τ16.1 7 ∧ τ16.1 7 ≤ 90000 := hT.1 7
            have v8 : 0 ≤ τ16.1 8 ∧ τ16.1 8 ≤ 20000 := hT.1 8
            have v9 : 0 ≤ τ16.1 9 ∧ τ16.1 9 ≤ 20000 := hT.1 9
            have v20 : 0 ≤ τ16.1 20 ∧ τ16.1 20 ≤ 19 := hT.1 20
            have v22 : 0 ≤ τ16.1 22 ∧ τ16.1 22 ≤ 1499 := hT.1 22
            have v26 : 0 ≤ τ16.1 26 ∧ τ16.1 26 ≤ 5000010 := hT.1 26
            have v27 : 0 ≤ τ16.1 27 ∧ τ16.1 27 ≤ 1 := hT.1 27
            have v28 : 0 ≤ τ16.1 28 ∧ τ16.1 28 ≤ 1 := hT.1 28
            have v29 : 0 ≤ τ16.1 29 ∧ τ16.1 29 ≤ 300 := hT.1 29
            have a25_22 : 0 ≤ τ16.2.1 25 (τ16.1 22) ∧ τ16.2.1 25 (τ16.1 22) ≤ 20000 := hT.2 25 _
            have a26_22 : 0 ≤ τ16.2.1 26 (τ16.1 22) ∧ τ16.2.1 26 (τ16.1 22) ≤ 20000 := hT.2 26 _
            have av9 : σ.1 9 ≤ τ16.1 9 := ag.1 9 (by decide)
            exact ⟨hT, (show ¬ (σ.1 20) = 0 → (τ16.1 20) = (σ.1 20) from by (first | omega | (simp only [st_s] <;> omega) | assumption | omega)), (show τ16.2.1 25 (τ16.1 22) + τ16.2.1 26 (τ16.1 22) = (τ16.1 9) from Z4), (show ca (τ16.2.1 28) ((τ16.1 9)) ≤ ca (τ16.2.1 28) (τ16.2.1 25 (τ16.1 22)) + (τ16.1 29) from Y10), (show ¬ (τ16.1 28) = 0 → τ16.2.1 25 (τ16.1 22) < (τ16.1 9) ∧ τ16.2.1 28 ((τ16.1 9) - 1) = 0 from Y12), (show j_eq (σ.2.1 25 (σ.1 22)) (σ.2.1 28) (τ16.2.1 28) from Y13), (show (τ16.1 20) = 0 → (τ16.1 26) ≤ 1000000 from by (first | omega | (simp only [st_s] <;> omega) | assumption | omega)), ag⟩
    ·
      refine ⟨(⟨by (first | omega | (simp only [st_s] <;> omega) | assumption | omega), by (first | omega | (simp only [st_s] <;> omega) | assumption | omega)⟩ : rg (((5 * σ.1 26) + n1) - 84)), ?_⟩
      replace ag := ag_v (i := 26) (x := (((5 * σ.1 26) + n1) - 84)) ag (Or.inl rfl)
      replace hT := mT_v (i := 26) hT (show 0 ≤ (((5 * σ.1 26) + n1) - 84) ∧ (((5 * σ.1 26) + n1) - 84) ≤ 5000010 from by (first | omega | (simp only [st_s] <;> omega) | assumption | omega))
      replace ag := ag_v (i := 27) (x := 1) ag (Or.inl rfl)
      replace hT := mT_v (i := 27) hT (show (0 : Int) ≤ 1 ∧ 1 ≤ 1 from by (first | omega | (simp only [st_s] <;> omega) | assumption | omega))
      replace ag := ag_v (i := 28) (x := 0) ag (Or.inl rfl)
      replace hT := mT_v (i := 28) hT (show (0 : Int) ≤ 0 ∧ 0 ≤ 1 from by (first | omega | (simp only [st_s] <;> omega) | assumption | omega))
      refine ⟨fun c18 => ?_, fun c18 => ?_⟩
      ·
        exact ⟨hT, (show ¬ (σ.1 20) = 0 → (σ.1 20) = (σ.1 20) from by (first | omega | (simp only [st_s] <;> omega) | assumption | omega)), (show σ.2.1 25 (σ.1 22) + σ.2.1 26 (σ.1 22) = (σ.1 9) from Z4), (show ca (σ.2.1 28) ((σ.1 9)) ≤ ca (σ.2.1 28) (σ.2.1 25 (σ.1 22)) + (σ.1 29) from Y10), (show ¬ ((0 : Int)) = 0 → σ.2.1 25 (σ.1 22) < (σ.1 9) ∧ σ.2.1 28 ((σ.1 9) - 1) = 0 from by (first | assumption | omega)), (show j_eq (σ.2.1 25 (σ.1 22)) (σ.2.1 28) (σ.2.1 28) from Y13), (show (σ.1 20) = 0 → ((((5 * σ.1 26) + n1) - 84)) ≤ 1000000 from by (first | omega | (simp only [st_s] <;> omega) | assumption | omega)), ag⟩
      ·
        refine ⟨_, K_X13_fail hT (show 0 ≤ 5 from by (first | omega | (simp only [st_s] <;> omega) | assumption | omega)) (show 5 ≤ 19 from by (first | omega | (simp only [st_s] <;> omega) | assumption | omega)) (show -1 ≤ n2 from by (first | omega | (simp only [st_s] <;> omega) | assumption | omega)) (show n2 ≤ 60000 from by (first | omega | (simp only [st_s] <;> omega) | assumption | omega)), ?_⟩
        intro τ21 hn_τ21 hf_τ21 hq
        obtain ⟨hT, q19_1, q19_2⟩ := hq
        replace q19_1 : ¬ (σ.1 20) = 0 → (τ21.1 20) = (σ.1 20) := q19_1
        replace q19_2 : (σ.1 20) = 0 → (τ21.1 20) = 5 := q19_2
        replace ag : m_ag σ τ21 := ag_r ag hf_τ21 rfl rfl
        have w3_τ21 : τ21.1 3 = σ.1 3 := hf_τ21.1 3 (by decide)
        have w5_τ21 : τ21.1 5 = σ.1 5 := hf_τ21.1 5 (by decide)
        have w6_τ21 : τ21.1 6 = σ.1 6 := hf_τ21.1 6 (by decide)
        have w7_τ21 : τ21.1 7 = σ.1 7 := hf_τ21.1 7 (by decide)
        have w8_τ21 : τ21.1 8 = σ.1 8 := hf_τ21.1 8 (by decide)
        have w9_τ21 : τ21.1 9 = σ.1 9 := hf_τ21.1 9 (by decide)
        have w22_τ21 : τ21.1 22 = σ.1 22 := hf_τ21.1 22 (by decide)
        have w26_τ21 : τ21.1 26 = (((5 * σ.1 26) + n1) - 84) := hf_τ21.1 26 (by decide)
        have w27_τ21 : τ21.1 27 = 1 := hf_τ21.1 27 (by decide)
        have w28_τ21 : τ21.1 28 = 0 := hf_τ21.1 28 (by decide)
        have w29_τ21 : τ21.1 29 = σ.1 29 := hf_τ21.1 29 (by decide)
        have g25_τ21 : τ21.2.1 25 = σ.2.1 25 := hf_τ21.2.1 25 (by decide)
        have g26_τ21 : τ21.2.1 26 = σ.2.1 26 := hf_τ21.2.1 26 (by decide)
        have g28_τ21 : τ21.2.1 28 = σ.2.1 28 := hf_τ21.2.1 28 (by decide)
        have W3 : τ21.1 3 = σ.1 3 := by omega
        have W5 : τ21.1 5 = σ.1 5 := by omega
        have W6 : τ21.1 6 = σ.1 6 := by omega
        have W7 : τ21.1 7 = σ.1 7 := by omega
        have W8 : τ21.1 8 = σ.1 8 := by omega
        have W22 : τ21.1 22 = σ.1 22 := by omega
        have G25 : τ21.2.1 25 = σ.2.1 25 := (g25_τ21).trans G25
        have y25_22_τ21 : τ21.2.1 25 (τ21.1 22) = (σ.2.1 25) (σ.1 22) := by rw [g25_τ21, w22_τ21]
        have y26_22_τ21 : τ21.2.1 26 (τ21.1 22) = (σ.2.1 26) (σ.1 22) := by rw [g26_τ21, w22_τ21]
        have Z4 : τ21.2.1 25 (τ21.1 22) + τ21.2.1 26 (τ21.1 22) = (τ21.1 9) := by rw [show (τ21.2.1 25 (τ21.1 22) + τ21.2.1 26 (τ21.1 22) = (τ21.1 9)) = (σ.2.1 25 (σ.1 22) + σ.2.1 26 (σ.1 22) = (σ.1 9)) from by rw [w9_τ21, w22_τ21, g25_τ21, g26_τ21]]; exact Z4
        have Y10 : ca (τ21.2.1 28) ((τ21.1 9)) ≤ ca (τ21.2.1 28) (τ21.2.1 25 (τ21.1 22)) + (τ21.1 29) := by rw [show (ca (τ21.2.1 28) ((τ21.1 9)) ≤ ca (τ21.2.1 28) (τ21.2.1 25 (τ21.1 22)) + (τ21.1 29)) = (ca (σ.2.1 28) ((σ.1 9)) ≤ ca (σ.2.1 28) (σ.2.1 25 (σ.1 22)) + (σ.1 29)) from by rw [w9_τ21, w22_τ21, w29_τ21, g25_τ21, g28_τ21]]; exact Y10
        have Y13 : j_eq (σ.2.1 25 (σ.1 22)) (σ.2.1 28) (τ21.2.1 28) := by rw [show (j_eq (σ.2.1 25 (σ.1 22)) (σ.2.1 28) (τ21.2.1 28)) = (j_eq (σ.2.1 25 (σ.1 22)) (σ.2.1 28) (σ.2.1 28)) from by rw [g28_τ21]]; exact Y13
        have A25 : ∀ j, 0 ≤ τ21.2.1 25 j ∧ τ21.2.1 25 j ≤ 20000 := fun j => hT.2 25 j
        have A26 : ∀ j, 0 ≤ τ21.2.1 26 j ∧ τ21.2.1 26 j ≤ 20000 := fun j => hT.2 26 j
        have A28 : ∀ j, 0 ≤ τ21.2.1 28 j ∧ τ21.2.1 28 j ≤ 1 := fun j => hT.2 28 j
        have v3 : 0 ≤ τ21.1 3 ∧ τ21.1 3 ≤ 1000 := hT.1 3
        have v5 : 0 ≤ τ21.1 5 ∧ τ21.1 5 ≤ 1500 := hT.1 5
        have v6 : 0 ≤ τ21.1 6 ∧ τ21.1 6 ≤ 30000 := hT.1 6
        have v7 : 0 ≤ τ21.1 7 ∧ τ21.1 7 ≤ 90000 := hT.1 7
        have v8 : 0 ≤ τ21.1 8 ∧ τ21.1 8 ≤ 20000 := hT.1 8
        have v9 : 0 ≤ τ21.1 9 ∧ τ21.1 9 ≤ 20000 := hT.1 9
        have v20 : 0 ≤ τ21.1 20 ∧ τ21.1 20 ≤ 19 := hT.1 20
        have v22 : 0 ≤ τ21.1 22 ∧ τ21.1 22 ≤ 1499 := hT.1 22
        have v26 : 0 ≤ τ21.1 26 ∧ τ21.1 26 ≤ 5000010 := hT.1 26
        have v27 : 0 ≤ τ21.1 27 ∧ τ21.1 27 ≤ 1 := hT.1 27
        have v28 : 0 ≤ τ21.1 28 ∧ τ21.1 28 ≤ 1 := hT.1 28
        have v29 : 0 ≤ τ21.1 29 ∧ τ21.1 29 ≤ 300 := hT.1 29
        have a25_22 : 0 ≤ τ21.2.1 25 (τ21.1 22) ∧ τ21.2.1 25 (τ21.1 22) ≤ 20000 := hT.2 25 _
        have a26_22 : 0 ≤ τ21.2.1 26 (τ21.1 22) ∧ τ21.2.1 26 (τ21.1 22) ≤ 20000 := hT.2 26 _
        have av9 : σ.1 9 ≤ τ21.1 9 := ag.1 9 (by decide)
        exact ⟨hT, (show ¬ (σ.1 20) = 0 → (τ21.1 20) = (σ.1 20) from by (first | omega | (simp only [st_s] <;> omega) | assumption | omega)), (show τ21.2.1 25 (τ21.1 22) + τ21.2.1 26 (τ21.1 22) = (τ21.1 9) from Z4), (show ca (τ21.2.1 28) ((τ21.1 9)) ≤ ca (τ21.2.1 28) (τ21.2.1 25 (τ21.1 22)) + (τ21.1 29) from Y10), (show ¬ (τ21.1 28) = 0 → τ21.2.1 25 (τ21.1 22) < (τ21.1 9) ∧ τ21.2.1 28 ((τ21.1 9) - 1) = 0 from by (first | assumption | omega)), (show j_eq (σ.2.1 25 (σ.1 22)) (σ.2.1 28) (τ21.2.1 28) from Y13), (show (τ21.1 20) = 0 → (τ21.1 26) ≤ 1000000 from by (first | omega | (simp only [st_s] <;> omega) | assumption | omega)), ag⟩
  ·
    refine ⟨(⟨by (first | omega | (simp only [st_s] <;> omega) | assumption | omega), by (first | omega | (simp only [st_s] <;> omega) | assumption | omega)⟩ : rg (((20 * σ.1 26) + n1) - 64)), ?_⟩
    refine ⟨_, K_X13_endNumber hT (show 1 ≤ (((20 * σ.1 26) + n1) - 64) from by (first | omega | (simp only [st_s] <;> omega) | assumption | omega)) (show (((20 * σ.1 26) + n1) - 64) ≤ 200000000 from by (first | omega | (simp only [st_s] <;> omega) | assumption | omega)) (show 0 ≤ n2 from by (first | omega | (simp only [st_s] <;> omega) | assumption | omega)) (show n2 ≤ 60000 from by (first | omega | (simp only [st_s] <;> omega) | assumption | omega)) (show (σ.1 22) = (σ.1 5) from by (first | omega | (simp only [st_s] <;> omega) | assumption | omega)) (show σ.2.1 25 (σ.1 22) + σ.2.1 26 (σ.1 22) = (σ.1 9) from Z4) (show ca (σ.2.1 28) ((σ.1 9)) ≤ ca (σ.2.1 28) (σ.2.1 25 (σ.1 22)) + (σ.1 29) from Y10) (show ¬ (σ.1 28) = 0 → σ.2.1 25 (σ.1 22) < (σ.1 9) ∧ σ.2.1 28 ((σ.1 9) - 1) = 0 from Y12), ?_⟩
    intro τ25 hn_τ25 hf_τ25 hq
    obtain ⟨hT, q23_1, q23_2, q23_3, q23_4, q23_5, q23_6, q23_7⟩ := hq
    replace q23_1 : ¬ (σ.1 20) = 0 → (τ25.1 20) = (σ.1 20) := q23_1
    replace q23_2 : τ25.2.1 25 (τ25.1 22) + τ25.2.1 26 (τ25.1 22) = (τ25.1 9) := q23_2
    replace q23_3 : ca (τ25.2.1 28) ((τ25.1 9)) ≤ ca (τ25.2.1 28) (τ25.2.1 25 (τ25.1 22)) + (τ25.1 29) := q23_3
    replace q23_4 : ¬ (τ25.1 28) = 0 → τ25.2.1 25 (τ25.1 22) < (τ25.1 9) ∧ τ25.2.1 28 ((τ25.1 9) - 1) = 0 := q23_4
    replace q23_5 : j_eq (σ.2.1 25 (σ.1 22)) (σ.2.1 28) (τ25.2.1 28) := q23_5
    replace q23_6 : (τ25.1 26) = 0 := q23_6
    replace q23_7 : m_ag σ τ25 := q23_7
    replace ag : m_ag σ τ25 := ag_t ag q23_7 rfl
    have w3_τ25 : τ25.1 3 = σ.1 3 := hf_τ25.1 3 (by decide)
    have w5_τ25 : τ25.1 5 = σ.1 5 := hf_τ25.1 5 (by decide)
    have w6_τ25 : τ25.1 6 = σ.1 6 := hf_τ25.1 6 (by decide)
    have w7_τ25 : τ25.1 7 = σ.1 7 := hf_τ25.1 7 (by decide)
    have w8_τ25 : τ25.1 8 = σ.1 8 := hf_τ25.1 8 (by decide)
    have w22_τ25 : τ25.1 22 = σ.1 22 := hf_τ25.1 22 (by decide)
    have w29_τ25 : τ25.1 29 = σ.1 29 := hf_τ25.1 29 (by decide)
    have g25_τ25 : τ25.2.1 25 = σ.2.1 25 := hf_τ25.2.1 25 (by decide)
    have W3 : τ25.1 3 = σ.1 3 := by omega
    have W5 : τ25.1 5 = σ.1 5 := by omega
    have W6 : τ25.1 6 = σ.1 6 := by omega
    have W7 : τ25.1 7 = σ.1 7 := by omega
    have W8 : τ25.1 8 = σ.1 8 := by omega
    have W22 : τ25.1 22 = σ.1 22 := by omega
    have G25 : τ25.2.1 25 = σ.2.1 25 := (g25_τ25).trans G25
    have y25_22_τ25 : τ25.2.1 25 (τ25.1 22) = (σ.2.1 25) (σ.1 22) := by rw [g25_τ25, w22_τ25]
    have Z4 : τ25.2.1 25 (τ25.1 22) + τ25.2.1 26 (τ25.1 22) = (τ25.1 9) := q23_2
    have Y10 : ca (τ25.2.1 28) ((τ25.1 9)) ≤ ca (τ25.2.1 28) (τ25.2.1 25 (τ25.1 22)) + (τ25.1 29) := q23_3
    have Y12 : ¬ (τ25.1 28) = 0 → τ25.2.1 25 (τ25.1 22) < (τ25.1 9) ∧ τ25.2.1 28 ((τ25.1 9) - 1) = 0 := q23_4
    have A25 : ∀ j, 0 ≤ τ25.2.1 25 j ∧ τ25.2.1 25 j ≤ 20000 := fun j => hT.2 25 j
    have A26 : ∀ j, 0 ≤ τ25.2.1 26 j ∧ τ25.2.1 26 j ≤ 20000 := fun j => hT.2 26 j
    have A28 : ∀ j, 0 ≤ τ25.2.1 28 j ∧ τ25.2.1 28 j ≤ 1 := fun j => hT.2 28 j
    have v3 : 0 ≤ τ25.1 3 ∧ τ25.1 3 ≤ 1000 := hT.1 3
    have v5 : 0 ≤ τ25.1 5 ∧ τ25.1 5 ≤ 1500 := hT.1 5
    have v6 : 0 ≤ τ25.1 6 ∧ τ25.1 6 ≤ 30000 := hT.1 6
    have v7 : 0 ≤ τ25.1 7 ∧ τ25.1 7 ≤ 90000 := hT.1 7
    have v8 : 0 ≤ τ25.1 8 ∧ τ25.1 8 ≤ 20000 := hT.1 8
    have v9 : 0 ≤ τ25.1 9 ∧ τ25.1 9 ≤ 20000 := hT.1 9
    have v20 : 0 ≤ τ25.1 20 ∧ τ25.1 20 ≤ 19 := hT.1 20
    have v22 : 0 ≤ τ25.1 22 ∧ τ25.1 22 ≤ 1499 := hT.1 22
    have v26 : 0 ≤ τ25.1 26 ∧ τ25.1 26 ≤ 5000010 := hT.1 26
    have v27 : 0 ≤ τ25.1 27 ∧ τ25.1 27 ≤ 1 := hT.1 27
    have v28 : 0 ≤ τ25.1 28 ∧ τ25.1 28 ≤ 1 := hT.1 28
    have v29 : 0 ≤ τ25.1 29 ∧ τ25.1 29 ≤ 300 := hT.1 29
    have a25_22 : 0 ≤ τ25.2.1 25 (τ25.1 22) ∧ τ25.2.1 25 (τ25.1 22) ≤ 20000 := hT.2 25 _
    have a26_22 : 0 ≤ τ25.2.1 26 (τ25.1 22) ∧ τ25.2.1 26 (τ25.1 22) ≤ 20000 := hT.2 26 _
    have av9 : σ.1 9 ≤ τ25.1 9 := ag.1 9 (by decide)
    exact ⟨hT, (show ¬ (σ.1 20) = 0 → (τ25.1 20) = (σ.1 20) from by (first | omega | (simp only [st_s] <;> omega) | assumption | omega)), (show τ25.2.1 25 (τ25.1 22) + τ25.2.1 26 (τ25.1 22) = (τ25.1 9) from Z4), (show ca (τ25.2.1 28) ((τ25.1 9)) ≤ ca (τ25.2.1 28) (τ25.2.1 25 (τ25.1 22)) + (τ25.1 29) from Y10), (show ¬ (τ25.1 28) = 0 → τ25.2.1 25 (τ25.1 22) < (τ25.1 9) ∧ τ25.2.1 28 ((τ25.1 9) - 1) = 0 from Y12), (show j_eq (σ.2.1 25 (σ.1 22)) (σ.2.1 28) (τ25.2.1 28) from by (first | assumption | exact j_eqs (j_eq0 _ _) (by omega))), (show (τ25.1 20) = 0 → (τ25.1 26) ≤ 1000000 from by (first | omega | (simp only [st_s] <;> omega) | assumption | omega)), ag⟩
set_option maxHeartbeats 1000000 in
theorem K_X13_readPacked {σ : S0} (hT : m_T σ) (p1 : (σ.1 16) ≤ (σ.1 0)) (p2 : (σ.1 17) + (σ.1 18) ≤ (σ.1 0)) (p3 : oc (σ.2.1 6) < 4096) (p4 : oc (σ.2.1 7) < 4096) (p5 : (σ.1 22) = (σ.1 5)) (p6 : σ.2.1 25 (σ.1 22) + σ.2.1 26 (σ.1 22) = (σ.1 9)) (p7 : σ.2.1 18 (σ.1 22) + σ.2.1 19 (σ.1 22) ≤ 90100) (p8 : σ.2.1 26 (σ.1 22) = 0) : W_X13_readPacked σ (fun (τ : S0) => (m_T τ) ∧ ((τ.1 16) ≤ (τ.1 0)) ∧ ((τ.1 17) + (τ.1 18) ≤ (τ.1 0)) ∧ (¬ (σ.1 20) = 0 → (τ.1 20) = (σ.1 20)) ∧ (τ.2.1 25 (τ.1 22) + τ.2.1 26 (τ.1 22) = (τ.1 9)) ∧ (ca (τ.2.1 28) ((τ.1 9)) ≤ ca (τ.2.1 28) (τ.2.1 25 (τ.1 22)) + 300) ∧ (j_eq (σ.2.1 25 (σ.1 22)) (σ.2.1 28) (τ.2.1 28)) ∧ (oc (τ.2.1 6) < 4096) ∧ (oc (τ.2.1 7) < 4096) ∧ ((σ.1 16) ≤ (τ.1 16)) ∧ (m_ag σ τ)) := by
  have A6 : ∀ j, (-1) ≤ σ.2.1 6 j ∧ σ.2.1 6 j ≤ 999 := fun j => hT.2 6 j
  have A7 : ∀ j, (-1) ≤ σ.2.1 7 j ∧ σ.2.1 7 j ≤ 1499 := fun j => hT.2 7 j
  have A18 : ∀ j, 0 ≤ σ.2.1 18 j ∧ σ.2.1 18 j ≤ 90000 := fun j => hT.2 18 j
  have A19 : ∀ j, 0 ≤ σ.2.1 19 j ∧ σ.2.1 19 j ≤ 60 := fun j => hT.2 19 j
  have A25 : ∀ j, 0 ≤ σ.2.1 25 j ∧ σ.2.1 25 j ≤ 20000 := fun j => hT.2 25 j
  have A26 : ∀ j, 0 ≤ σ.2.1 26 j ∧ σ.2.1 26 j ≤ 20000 := fun j => hT.2 26 j
  have A28 : ∀ j, 0 ≤ σ.2.1 28 j ∧ σ.2.1 28 j ≤ 1 := fun j => hT.2 28 j
  have v0 : 0 ≤ σ.1 0 ∧ σ.1 0 ≤ 60000 := hT.1 0
  have v3 : 0 ≤ σ.1 3 ∧ σ.1 3 ≤ 1000 := hT.1 3
  have v5 : 0 ≤ σ.1 5 ∧ σ.1 5 ≤ 1500 := hT.1 5
  have v6 : 0 ≤ σ.1 6 ∧ σ.1 6 ≤ 30000 := hT.1 6
  have v7 : 0 ≤ σ.1 7 ∧ σ.1 7 ≤ 90000 := hT.1 7
  have v8 : 0 ≤ σ.1 8 ∧ σ.1 8 ≤ 20000 := hT.1 8
  have v9 : 0 ≤ σ.1 9 ∧ σ.1 9 ≤ 20000 := hT.1 9
  have v16 : 0 ≤ σ.1 16 ∧ σ.1 16 ≤ 60000 := hT.1 16
  have v17 : 0 ≤ σ.1 17 ∧ σ.1 17 ≤ 60000 := hT.1 17
  have v18 : 0 ≤ σ.1 18 ∧ σ.1 18 ≤ 60000 := hT.1 18
  have v19 : (-1) ≤ σ.1 19 ∧ σ.1 19 ≤ 125 := hT.1 19
  have v20 : 0 ≤ σ.1 20 ∧ σ.1 20 ≤ 19 := hT.1 20
  have v22 : 0 ≤ σ.1 22 ∧ σ.1 22 ≤ 1499 := hT.1 22
  have v26 : 0 ≤ σ.1 26 ∧ σ.1 26 ≤ 5000010 := hT.1 26
  have v27 : 0 ≤ σ.1 27 ∧ σ.1 27 ≤ 1 := hT.1 27
  have v28 : 0 ≤ σ.1 28 ∧ σ.1 28 ≤ 1 := hT.1 28
  have v29 : 0 ≤ σ.1 29 ∧ σ.1 29 ≤ 300 := hT.1 29
  have a18_22 : 0 ≤ σ.2.1 18 (σ.1 22) ∧ σ.2.1 18 (σ.1 22) ≤ 90000 := hT.2 18 _
  have a19_22 : 0 ≤ σ.2.1 19 (σ.1 22) ∧ σ.2.1 19 (σ.1 22) ≤ 60 := hT.2 19 _
  have a25_22 : 0 ≤ σ.2.1 25 (σ.1 22) ∧ σ.2.1 25 (σ.1 22) ≤ 20000 := hT.2 25 _
  have a26_22 : 0 ≤ σ.2.1 26 (σ.1 22) ∧ σ.2.1 26 (σ.1 22) ≤ 20000 := hT.2 26 _
  have W0 : σ.1 0 = σ.1 0 := rfl
  have W3 : σ.1 3 = σ.1 3 := rfl
  have W5 : σ.1 5 = σ.1 5 := rfl
  have W6 : σ.1 6 = σ.1 6 := rfl
  have W7 : σ.1 7 = σ.1 7 := rfl
  have W8 : σ.1 8 = σ.1 8 := rfl
  have W22 : σ.1 22 = σ.1 22 := rfl
  have G6 : σ.2.1 6 = σ.2.1 6 := rfl
  have G7 : σ.2.1 7 = σ.2.1 7 := rfl
  have G18 : σ.2.1 18 = σ.2.1 18 := rfl
  have G19 : σ.2.1 19 = σ.2.1 19 := rfl
  have G25 : σ.2.1 25 = σ.2.1 25 := rfl
  have ag : m_ag σ σ := ag_0 σ
  intro P36 P68 P110 P124 h36 h68 h110 h124
  have Y13 := j_eq0 (σ.2.1 25 (σ.1 22)) (σ.2.1 28)
  have Y14 : ca (σ.2.1 28) (σ.1 9) ≤ ca (σ.2.1 28) (σ.2.1 25 (σ.1 22)) + 300 := by rw [show σ.2.1 25 (σ.1 22) = σ.1 9 from by omega]; omega
  have Z4 : σ.2.1 25 (σ.1 22) + σ.2.1 26 (σ.1 22) = (σ.1 9) := p6
  have l_36 : ∀ (m_36 : Nat) (τ_36 : S0), 3 * ((τ_36.1 0) - (τ_36.1 16)) + z_0 ((τ_36.1 20)) + 1 - z_0 ((τ_36.1 19)) < (m_36 : Int) → (m_T τ_36) → (m_ag σ τ_36) → (τ_36.1 0 = σ.1 0) → (τ_36.1 3 = σ.1 3) → (τ_36.1 5 = σ.1 5) → (τ_36.1 6 = σ.1 6) → (τ_36.1 7 = σ.1 7) → (τ_36.1 8 = σ.1 8) → (τ_36.1 22 = σ.1 22) → (τ_36.2.1 6 = σ.2.1 6) → (τ_36.2.1 7 = σ.2.1 7) → (τ_36.2.1 18 = σ.2.1 18) → (τ_36.2.1 19 = σ.2.1 19) → (τ_36.2.1 25 = σ.2.1 25) → ((τ_36.1 16) ≤ (τ_36.1 0)) → ((τ_36.1 17) + (τ_36.1 18) ≤ (τ_36.1 0)) → (oc (τ_36.2.1 6) < 4096) → (oc (τ_36.2.1 7) < 4096) → (¬ (σ.1 20) = 0 → (τ_36.1 20) = (σ.1 20)) → (τ_36.2.1 25 (τ_36.1 22) + τ_36.2.1 26 (τ_36.1 22) = (τ_36.1 9)) → (ca (τ_36.2.1 28) ((τ_36.1 9)) ≤ ca (τ_36.2.1 28) (τ_36.2.1 25 (τ_36.1 22)) + (τ_36.1 29)) → (¬ (τ_36.1 28) = 0 → τ_36.2.1 25 (τ_36.1 22) < (τ_36.1 9) ∧ τ_36.2.1 28 ((τ_36.1 9) - 1) = 0) → (j_eq (σ.2.1 25 (σ.1 22)) (σ.2.1 28) (τ_36.2.1 28)) → ((τ_36.1 20) = 0 → (τ_36.1 26) ≤ 1000000) → ((σ.1 16) ≤ (τ_36.1 16)) → P36 τ_36 := by
    intro m_36
    induction m_36 with
    | zero =>
      intro τ_36 hm hT ag W0 W3 W5 W6 W7 W8 W22 G6 G7 G18 G19 G25 i36_1 i36_2 i36_3 i36_4 i36_5 i36_6 i36_7 i36_8 i36_9 i36_10 i36_11
      have A6 : ∀ j, (-1) ≤ τ_36.2.1 6 j ∧ τ_36.2.1 6 j ≤ 999 := fun j => hT.2 6 j
      have A7 : ∀ j, (-1) ≤ τ_36.2.1 7 j ∧ τ_36.2.1 7 j ≤ 1499 := fun j => hT.2 7 j
      have A18 : ∀ j, 0 ≤ τ_36.2.1 18 j ∧ τ_36.2.1 18 j ≤ 90000 := fun j => hT.2 18 j
      have A19 : ∀ j, 0 ≤ τ_36.2.1 19 j ∧ τ_36.2.1 19 j ≤ 60 := fun j => hT.2 19 j
      have A25 : ∀ j, 0 ≤ τ_36.2.1 25 j ∧ τ_36.2.1 25 j ≤ 20000 := fun j => hT.2 25 j
      have A26 : ∀ j, 0 ≤ τ_36.2.1 26 j ∧ τ_36.2.1 26 j ≤ 20000 := fun j => hT.2 26 j
      have A28 : ∀ j, 0 ≤ τ_36.2.1 28 j ∧ τ_36.2.1 28 j ≤ 1 := fun j => hT.2 28 j
      have v0 : 0 ≤ τ_36.1 0 ∧ τ_36.1 0 ≤ 60000 := hT.1 0
      have v3 : 0 ≤ τ_36.1 3 ∧ τ_36.1 3 ≤ 1000 := hT.1 3
      have v5 : 0 ≤ τ_36.1 5 ∧ τ_36.1 5 ≤ 1500 := hT.1 5
      have v6 : 0 ≤ τ_36.1 6 ∧ τ_36.1 6 ≤ 30000 := hT.1 6
      have v7 : 0 ≤ τ_36.1 7 ∧ τ_36.1 7 ≤ 90000 := hT.1 7
      have v8 : 0 ≤ τ_36.1 8 ∧ τ_36.1 8 ≤ 20000 := hT.1 8
      have v9 : 0 ≤ τ_36.1 9 ∧ τ_36.1 9 ≤ 20000 := hT.1 9
      have v16 : 0 ≤ τ_36.1 16 ∧ τ_36.1 16 ≤ 60000 := hT.1 16
      have v17 : 0 ≤ τ_36.1 17 ∧ τ_36.1 17 ≤ 60000 := hT.1 17
      have v18 : 0 ≤ τ_36.1 18 ∧ τ_36.1 18 ≤ 60000 := hT.1 18
      have v19 : (-1) ≤ τ_36.1 19 ∧ τ_36.1 19 ≤ 125 := hT.1 19
      have v20 : 0 ≤ τ_36.1 20 ∧ τ_36.1 20 ≤ 19 := hT.1 20
      have v22 : 0 ≤ τ_36.1 22 ∧ τ_36.1 22 ≤ 1499 := hT.1 22
      have v26 : 0 ≤ τ_36.1 26 ∧ τ_36.1 26 ≤ 5000010 := hT.1 26
      have v27 : 0 ≤ τ_36.1 27 ∧ τ_36.1 27 ≤ 1 := hT.1 27
      have v28 : 0 ≤ τ_36.1 28 ∧ τ_36.1 28 ≤ 1 := hT.1 28
      have v29 : 0 ≤ τ_36.1 29 ∧ τ_36.1 29 ≤ 300 := hT.1 29
      have a18_22 : 0 ≤ τ_36.2.1 18 (τ_36.1 22) ∧ τ_36.2.1 18 (τ_36.1 22) ≤ 90000 := hT.2 18 _
      have a19_22 : 0 ≤ τ_36.2.1 19 (τ_36.1 22) ∧ τ_36.2.1 19 (τ_36.1 22) ≤ 60 := hT.2 19 _
      have a25_22 : 0 ≤ τ_36.2.1 25 (τ_36.1 22) ∧ τ_36.2.1 25 (τ_36.1 22) ≤ 20000 := hT.2 25 _
      have a26_22 : 0 ≤ τ_36.2.1 26 (τ_36.1 22) ∧ τ_36.2.1 26 (τ_36.1 22) ≤ 20000 := hT.2 26 _
      have av9 : σ.1 9 ≤ τ_36.1 9 := ag.1 9 (by decide)
      have zz0 := z_e ((τ_36.1 20))
      have zz1 := z_e ((τ_36.1 19))
      exfalso; (first | omega | (simp only [st_s] <;> omega) | assumption | omega)
    | succ m_36 ih_36 =>
      intro τ_36 hm_36 hT ag W0 W3 W5 W6 W7 W8 W22 G6 G7 G18 G19 G25 i36_1 i36_2 i36_3 i36_4 i36_5 i36_6 i36_7 i36_8 i36_9 i36_10 i36_11
      have A6 : ∀ j, (-1) ≤ τ_36.2.1 6 j ∧ τ_36.2.1 6 j ≤ 999 := fun j => hT.2 6 j
      have A7 : ∀ j, (-1) ≤ τ_36.2.1 7 j ∧ τ_36.2.1 7 j ≤ 1499 := fun j => hT.2 7 j
      have A18 : ∀ j, 0 ≤ τ_36.2.1 18 j ∧ τ_36.2.1 18 j ≤ 90000 := fun j => hT.2 18 j
      have A19 : ∀ j, 0 ≤ τ_36.2.1 19 j ∧ τ_36.2.1 19 j ≤ 60 := fun j => hT.2 19 j
      have A25 : ∀ j, 0 ≤ τ_36.2.1 25 j ∧ τ_36.2.1 25 j ≤ 20000 := fun j => hT.2 25 j
      have A26 : ∀ j, 0 ≤ τ_36.2.1 26 j ∧ τ_36.2.1 26 j ≤ 20000 := fun j => hT.2 26 j
      have A28 : ∀ j, 0 ≤ τ_36.2.1 28 j ∧ τ_36.2.1 28 j ≤ 1 := fun j => hT.2 28 j
      have v0 : 0 ≤ τ_36.1 0 ∧ τ_36.1 0 ≤ 60000 := hT.1 0
      have v3 : 0 ≤ τ_36.1 3 ∧ τ_36.1 3 ≤ 1000 := hT.1 3
      have v5 : 0 ≤ τ_36.1 5 ∧ τ_36.1 5 ≤ 1500 := hT.1 5
      have v6 : 0 ≤ τ_36.1 6 ∧ τ_36.1 6 ≤ 30000 := hT.1 6
      have v7 : 0 ≤ τ_36.1 7 ∧ τ_36.1 7 ≤ 90000 := hT.1 7
      have v8 : 0 ≤ τ_36.1 8 ∧ τ_36.1 8 ≤ 20000 := hT.1 8
      have v9 : 0 ≤ τ_36.1 9 ∧ τ_36.1 9 ≤ 20000 := hT.1 9
      have v16 : 0 ≤ τ_36.1 16 ∧ τ_36.1 16 ≤ 60000 := hT.1 16
      have v17 : 0 ≤ τ_36.1 17 ∧ τ_36.1 17 ≤ 60000 := hT.1 17
      have v18 : 0 ≤ τ_36.1 18 ∧ τ_36.1 18 ≤ 60000 := hT.1 18
      have v19 : (-1) ≤ τ_36.1 19 ∧ τ_36.1 19 ≤ 125 := hT.1 19
      have v20 : 0 ≤ τ_36.1 20 ∧ τ_36.1 20 ≤ 19 := hT.1 20
      have v22 : 0 ≤ τ_36.1 22 ∧ τ_36.1 22 ≤ 1499 := hT.1 22
      have v26 : 0 ≤ τ_36.1 26 ∧ τ_36.1 26 ≤ 5000010 := hT.1 26
      have v27 : 0 ≤ τ_36.1 27 ∧ τ_36.1 27 ≤ 1 := hT.1 27
      have v28 : 0 ≤ τ_36.1 28 ∧ τ_36.1 28 ≤ 1 := hT.1 28
      have v29 : 0 ≤ τ_36.1 29 ∧ τ_36.1 29 ≤ 300 := hT.1 29
      have a18_22 : 0 ≤ τ_36.2.1 18 (τ_36.1 22) ∧ τ_36.2.1 18 (τ_36.1 22) ≤ 90000 := hT.2 18 _
      have a19_22 : 0 ≤ τ_36.2.1 19 (τ_36.1 22) ∧ τ_36.2.1 19 (τ_36.1 22) ≤ 60 := hT.2 19 _
      have a25_22 : 0 ≤ τ_36.2.1 25 (τ_36.1 22) ∧ τ_36.2.1 25 (τ_36.1 22) ≤ 20000 := hT.2 25 _
      have a26_22 : 0 ≤ τ_36.2.1 26 (τ_36.1 22) ∧ τ_36.2.1 26 (τ_36.1 22) ≤ 20000 := hT.2 26 _
      have av9 : σ.1 9 ≤ τ_36.1 9 := ag.1 9 (by decide)
      have zy36_0 := z_e ((τ_36.1 20))
      have zy36_1 := z_e ((τ_36.1 19))
      have y18_22_τ_36 : τ_36.2.1 18 (τ_36.1 22) = σ.2.1 18 (σ.1 22) := by rw [G18, W22]
      have y19_22_τ_36 : τ_36.2.1 19 (τ_36.1 22) = σ.2.1 19 (σ.1 22) := by rw [G19, W22]
      have y25_22_τ_36 : τ_36.2.1 25 (τ_36.1 22) = σ.2.1 25 (σ.1 22) := by rw [G25, W22]
      have o6_τ_36 := congrArg oc G6
      have o7_τ_36 := congrArg oc G7
      have Z4 : τ_36.2.1 25 (τ_36.1 22) + τ_36.2.1 26 (τ_36.1 22) = (τ_36.1 9) := i36_6
      have Y10 : ca (τ_36.2.1 28) ((τ_36.1 9)) ≤ ca (τ_36.2.1 28) (τ_36.2.1 25 (τ_36.1 22)) + (τ_36.1 29) := i36_7
      have Y12 : ¬ (τ_36.1 28) = 0 → τ_36.2.1 25 (τ_36.1 22) < (τ_36.1 9) ∧ τ_36.2.1 28 ((τ_36.1 9) - 1) = 0 := i36_8
      have Y13 : j_eq (σ.2.1 25 (σ.1 22)) (σ.2.1 28) (τ_36.2.1 28) := i36_9
      have l_68 : ∀ (m_68 : Nat) (u1_68 : Int) (τ_68 : S0), (τ_68.1 18) - u1_68 + 1 < (m_68 : Int) → (m_T τ_68) → (m_ag σ τ_68) → (τ_68.1 0 = σ.1 0) → (τ_68.1 3 = σ.1 3) → (τ_68.1 5 = σ.1 5) → (τ_68.1 6 = σ.1 6) → (τ_68.1 7 = σ.1 7) → (τ_68.1 8 = σ.1 8) → (τ_68.1 22 = σ.1 22) → (τ_68.2.1 6 = σ.2.1 6) → (τ_68.2.1 7 = σ.2.1 7) → (τ_68.2.1 18 = σ.2.1 18) → (τ_68.2.1 19 = σ.2.1 19) → (τ_68.2.1 25 = σ.2.1 25) → ((τ_68.1 16) ≤ (τ_68.1 0)) → ((τ_68.1 17) + (τ_68.1 18) ≤ (τ_68.1 0)) → (oc (τ_68.2.1 6) < 4096) → (oc (τ_68.2.1 7) < 4096) → (¬ (σ.1 20) = 0 → (τ_68.1 20) = (σ.1 20)) → (τ_68.2.1 25 (τ_68.1 22) + τ_68.2.1 26 (τ_68.1 22) = (τ_68.1 9)) → (ca (τ_68.2.1 28) ((τ_68.1 9)) ≤ ca (τ_68.2.1 28) (τ_68.2.1 25 (τ_68.1 22)) + (τ_68.1 29)) → (¬ (τ_68.1 28) = 0 → τ_68.2.1 25 (τ_68.1 22) < (τ_68.1 9) ∧ τ_68.2.1 28 ((τ_68.1 9) - 1) = 0) → (j_eq (σ.2.1 25 (σ.1 22)) (σ.2.1 28) (τ_68.2.1 28)) → ((τ_68.1 20) = 0 → (τ_68.1 26) ≤ 1000000) → (0 ≤ u1_68) → (u1_68 ≤ (τ_68.1 18)) → (3 * ((τ_68.1 0) - (τ_68.1 16)) + 2 ≤ (m_36 : Int)) → ((σ.1 16) ≤ (τ_68.1 16)) → P68 u1_68 τ_68 := by
        intro m_68
        induction m_68 with
        | zero =>
          intro u1_68 τ_68 hm hT ag W0 W3 W5 W6 W7 W8 W22 G6 G7 G18 G19 G25 i68_1 i68_2 i68_3 i68_4 i68_5 i68_6 i68_7 i68_8 i68_9 i68_10 i68_11 i68_12 i68_13 i68_14
          have A6 : ∀ j, (-1) ≤ τ_68.2.1 6 j ∧ τ_68.2.1 6 j ≤ 999 := fun j => hT.2 6 j
          have A7 : ∀ j, (-1) ≤ τ_68.2.1 7 j ∧ τ_68.2.1 7 j ≤ 1499 := fun j => hT.2 7 j
          have A18 : ∀ j, 0 ≤ τ_68.2.1 18 j ∧ τ_68.2.1 18 j ≤ 90000 := fun j => hT.2 18 j
          have A19 : ∀ j, 0 ≤ τ_68.2.1 19 j ∧ τ_68.2.1 19 j ≤ 60 := fun j => hT.2 19 j
          have A25 : ∀ j, 0 ≤ τ_68.2.1 25 j ∧ τ_68.2.1 25 j ≤ 20000 := fun j => hT.2 25 j
          have A26 : ∀ j, 0 ≤ τ_68.2.1 26 j ∧ τ_68.2.1 26 j ≤ 20000 := fun j => hT.2 26 j
          have A28 : ∀ j, 0 ≤ τ_68.2.1 28 j ∧ τ_68.2.1 28 j ≤ 1 := fun j => hT.2 28 j
          have v0 : 0 ≤ τ_68.1 0 ∧ τ_68.1 0 ≤ 60000 := hT.1 0
          have v3 : 0 ≤ τ_68.1 3 ∧ τ_68.1 3 ≤ 1000 := hT.1 3
          have v5 : 0 ≤ τ_68.1 5 ∧ τ_68.1 5 ≤ 1500 := hT.1 5
          have v6 : 0 ≤ τ_68.1 6 ∧ τ_68.1 6 ≤ 30000 := hT.1 6
          have v7 : 0 ≤ τ_68.1 7 ∧ τ_68.1 7 ≤ 90000 := hT.1 7
          have v8 : 0 ≤ τ_68.1 8 ∧ τ_68.1 8 ≤ 20000 := hT.1 8
          have v9 : 0 ≤ τ_68.1 9 ∧ τ_68.1 9 ≤ 20000 := hT.1 9
          have v16 : 0 ≤ τ_68.1 16 ∧ τ_68.1 16 ≤ 60000 := hT.1 16
          have v17 : 0 ≤ τ_68.1 17 ∧ τ_68.1 17 ≤ 60000 := hT.1 17
          have v18 : 0 ≤ τ_68.1 18 ∧ τ_68.1 18 ≤ 60000 := hT.1 18
          have v19 : (-1) ≤ τ_68.1 19 ∧ τ_68.1 19 ≤ 125 := hT.1 19
          have v20 : 0 ≤ τ_68.1 20 ∧ τ_68.1 20 ≤ 19 := hT.1 20
          have v22 : 0 ≤ τ_68.1 22 ∧ τ_68.1 22 ≤ 1499 := hT.1 22
          have v26 : 0 ≤ τ_68.1 26 ∧ τ_68.1 26 ≤ 5000010 := hT.1 26
          have v27 : 0 ≤ τ_68.1 27 ∧ τ_68.1 27 ≤ 1 := hT.1 27
          have v28 : 0 ≤ τ_68.1 28 ∧ τ_68.1 28 ≤ 1 := hT.1 28
          have v29 : 0 ≤ τ_68.1 29 ∧ τ_68.1 29 ≤ 300 := hT.1 29
          have a18_22 : 0 ≤ τ_68.2.1 18 (τ_68.1 22) ∧ τ_68.2.1 18 (τ_68.1 22) ≤ 90000 := hT.2 18 _
          have a19_22 : 0 ≤ τ_68.2.1 19 (τ_68.1 22) ∧ τ_68.2.1 19 (τ_68.1 22) ≤ 60 := hT.2 19 _
          have a25_22 : 0 ≤ τ_68.2.1 25 (τ_68.1 22) ∧ τ_68.2.1 25 (τ_68.1 22) ≤ 20000 := hT.2 25 _
          have a26_22 : 0 ≤ τ_68.2.1 26 (τ_68.1 22) ∧ τ_68.2.1 26 (τ_68.1 22) ≤ 20000 := hT.2 26 _
          have av9 : σ.1 9 ≤ τ_68.1 9 := ag.1 9 (by decide)
          exfalso; (first | omega | (simp only [st_s] <;> omega) | assumption | omega)
        | succ m_68 ih_68 =>
          intro u1_68 τ_68 hm_68 hT ag W0 W3 W5 W6 W7 W8 W22 G6 G7 G18 G19 G25 i68_1 i68_2 i68_3 i68_4 i68_5 i68_6 i68_7 i68_8 i68_9 i68_10 i68_11 i68_12 i68_13 i68_14
          have A6 : ∀ j, (-1) ≤ τ_68.2.1 6 j ∧ τ_68.2.1 6 j ≤ 999 := fun j => hT.2 6 j
          have A7 : ∀ j, (-1) ≤ τ_68.2.1 7 j ∧ τ_68.2.1 7 j ≤ 1499 := fun j => hT.2 7 j
          have A18 : ∀ j, 0 ≤ τ_68.2.1 18 j ∧ τ_68.2.1 18 j ≤ 90000 := fun j => hT.2 18 j
          have A19 : ∀ j, 0 ≤ τ_68.2.1 19 j ∧ τ_68.2.1 19 j ≤ 60 := fun j => hT.2 19 j
          have A25 : ∀ j, 0 ≤ τ_68.2.1 25 j ∧ τ_68.2.1 25 j ≤ 20000 := fun j => hT.2 25 j
          have A26 : ∀ j, 0 ≤ τ_68.2.1 26 j ∧ τ_68.2.1 26 j ≤ 20000 := fun j => hT.2 26 j
          have A28 : ∀ j, 0 ≤ τ_68.2.1 28 j ∧ τ_68.2.1 28 j ≤ 1 := fun j => hT.2 28 j
          have v0 : 0 ≤ τ_68.1 0 ∧ τ_68.1 0 ≤ 60000 := hT.1 0
          have v3 : 0 ≤ τ_68.1 3 ∧ τ_68.1 3 ≤ 1000 := hT.1 3
          have v5 : 0 ≤ τ_68.1 5 ∧ τ_68.1 5 ≤ 1500 := hT.1 5
          have v6 : 0 ≤ τ_68.1 6 ∧ τ_68.1 6 ≤ 30000 := hT.1 6
          have v7 : 0 ≤ τ_68.1 7 ∧ τ_68.1 7 ≤ 90000 := hT.1 7
          have v8 : 0 ≤ τ_68.1 8 ∧ τ_68.1 8 ≤ 20000 := hT.1 8
          have v9 : 0 ≤ τ_68.1 9 ∧ τ_68.1 9 ≤ 20000 := hT.1 9
          have v16 : 0 ≤ τ_68.1 16 ∧ τ_68.1 16 ≤ 60000 := hT.1 16
          have v17 : 0 ≤ τ_68.1 17 ∧ τ_68.1 17 ≤ 60000 := hT.1 17
          have v18 : 0 ≤ τ_68.1 18 ∧ τ_68.1 18 ≤ 60000 := hT.1 18
          have v19 : (-1) ≤ τ_68.1 19 ∧ τ_68.1 19 ≤ 125 := hT.1 19
          have v20 : 0 ≤ τ_68.1 20 ∧ τ_68.1 20 ≤ 19 := hT.1 20
          have v22 : 0 ≤ τ_68.1 22 ∧ τ_68.1 22 ≤ 1499 := hT.1 22
          have v26 : 0 ≤ τ_68.1 26 ∧ τ_68.1 26 ≤ 5000010 := hT.1 26
          have v27 : 0 ≤ τ_68.1 27 ∧ τ_68.1 27 ≤ 1 := hT.1 27
          have v28 : 0 ≤ τ_68.1 28 ∧ τ_68.1 28 ≤ 1 := hT.1 28
          have v29 : 0 ≤ τ_68.1 29 ∧ τ_68.1 29 ≤ 300 := hT.1 29
          have a18_22 : 0 ≤ τ_68.2.1 18 (τ_68.1 22) ∧ τ_68.2.1 18 (τ_68.1 22) ≤ 90000 := hT.2 18 _
          have a19_22 : 0 ≤ τ_68.2.1 19 (τ_68.1 22) ∧ τ_68.2.1 19 (τ_68.1 22) ≤ 60 := hT.2 19 _
          have a25_22 : 0 ≤ τ_68.2.1 25 (τ_68.1 22) ∧ τ_68.2.1 25 (τ_68.1 22) ≤ 20000 := hT.2 25 _
          have a26_22 : 0 ≤ τ_68.2.1 26 (τ_68.1 22) ∧ τ_68.2.1 26 (τ_68.1 22) ≤ 20000 := hT.2 26 _
          have av9 : σ.1 9 ≤ τ_68.1 9 := ag.1 9 (by decide)
          have y18_22_τ_68 : τ_68.2.1 18 (τ_68.1 22) = σ.2.1 18 (σ.1 22) := by rw [G18, W22]
          have y19_22_τ_68 : τ_68.2.1 19 (τ_68.1 22) = σ.2.1 19 (σ.1 22) := by rw [G19, W22]
          have y25_22_τ_68 : τ_68.2.1 25 (τ_68.1 22) = σ.2.1 25 (σ.1 22) := by rw [G25, W22]
          have o6_τ_68 := congrArg oc G6
          have o7_τ_68 := congrArg oc G7
          have Z4 : τ_68.2.1 25 (τ_68.1 22) + τ_68.2.1 26 (τ_68.1 22) = (τ_68.1 9) := i68_6
          have Y10 : ca (τ_68.2.1 28) ((τ_68.1 9)) ≤ ca (τ_68.2.1 28) (τ_68.2.1 25 (τ_68.1 22)) + (τ_68.1 29) := i68_7
          have Y12 : ¬ (τ_68.1 28) = 0 → τ_68.2.1 25 (τ_68.1 22) < (τ_68.1 9) ∧ τ_68.2.1 28 ((τ_68.1 9) - 1) = 0 := i68_8
          have Y13 : j_eq (σ.2.1 25 (σ.1 22)) (σ.2.1 28) (τ_68.2.1 28) := i68_9
          refine h68 u1_68 τ_68 ?_
          refine ⟨fun c19 => ?_, fun c19 => ?_⟩
          ·
            refine h110 _ ?_
            refine ⟨fun c27 => ?_, fun c27 => ?_⟩
            ·
              exact ih_36 _ (show (3 * ((τ_68.1 0) - (τ_68.1 16)) + z_0 ((τ_68.1 20)) + 1 - z_0 ((τ_68.1 19)) : Int) < ((m_36 : Nat) : Int) from by (have zz0 := z_e ((τ_68.1 20)); have zz1 := z_e ((τ_68.1 19)); (first | omega | (simp only [st_s] <;> omega) | assumption | omega))) hT ag (show τ_68.1 0 = σ.1 0 from by omega) (show τ_68.1 3 = σ.1 3 from by omega) (show τ_68.1 5 = σ.1 5 from by omega) (show τ_68.1 6 = σ.1 6 from by omega) (show τ_68.1 7 = σ.1 7 from by omega) (show τ_68.1 8 = σ.1 8 from by omega) (show τ_68.1 22 = σ.1 22 from by omega) G6 G7 G18 G19 G25 (show (τ_68.1 16) ≤ (τ_68.1 0) from by (first | omega | (simp only [st_s] <;> omega) | assumption | omega)) (show (τ_68.1 17) + (τ_68.1 18) ≤ (τ_68.1 0) from by (first | omega | (simp only [st_s] <;> omega) | assumption | omega)) (show oc (τ_68.2.1 6) < 4096 from by (first | omega | (simp only [st_s] <;> omega) | assumption | omega)) (show oc (τ_68.2.1 7) < 4096 from by (first | omega | (simp only [st_s] <;> omega) | assumption | omega)) (show ¬ (σ.1 20) = 0 → (τ_68.1 20) = (σ.1 20) from by (first | omega | (simp only [st_s] <;> omega) | assumption | omega)) (show τ_68.2.1 25 (τ_68.1 22) + τ_68.2.1 26 (τ_68.1 22) = (τ_68.1 9) from Z4) (show ca (τ_68.2.1 28) ((τ_68.1 9)) ≤ ca (τ_68.2.1 28) (τ_68.2.1 25 (τ_68.1 22)) + (τ_68.1 29) from Y10) (show ¬ (τ_68.1 28) = 0 → τ_68.2.1 25 (τ_68.1 22) < (τ_68.1 9) ∧ τ_68.2.1 28 ((τ_68.1 9) - 1) = 0 from Y12) (show j_eq (σ.2.1 25 (σ.1 22)) (σ.2.1 28) (τ_68.2.1 28) from Y13) (show (τ_68.1 20) = 0 → (τ_68.1 26) ≤ 1000000 from by (first | omega | (simp only [st_s] <;> omega) | assumption | omega)) (show (σ.1 16) ≤ (τ_68.1 16) from by (first | omega | (simp only [st_s] <;> omega) | assumption | omega))
            ·
              refine ⟨_, K_X13_next hT (show (τ_68.1 16) ≤ (τ_68.1 0) from by (first | omega | (simp only [st_s] <;> omega) | assumption | omega)), ?_⟩
              intro τ30 hn_τ30 hf_τ30 hq
              obtain ⟨hT, q28_1, q28_2, q28_3, q28_4, q28_5⟩ := hq
              replace q28_1 : (τ30.1 16) ≤ (τ30.1 0) := q28_1
              replace q28_2 : (τ30.1 17) + (τ30.1 18) ≤ (τ30.1 0) := q28_2
              replace q28_3 : (τ_68.1 16) ≤ (τ30.1 16) := q28_3
              replace q28_4 : ¬ (τ_68.1 20) = 0 → (τ30.1 20) = (τ_68.1 20) := q28_4
              replace q28_5 : (τ30.1 20) = 0 → ¬ (τ30.1 19) = 0 → (τ_68.1 16) < (τ30.1 16) ∧ 0 < (τ30.1 18) := q28_5
              replace ag : m_ag σ τ30 := ag_r ag hf_τ30 rfl rfl
              have w0_τ30 : τ30.1 0 = τ_68.1 0 := hf_τ30.1 0 (by decide)
              have w3_τ30 : τ30.1 3 = τ_68.1 3 := hf_τ30.1 3 (by decide)
              have w5_τ30 : τ30.1 5 = τ_68.1 5 := hf_τ30.1 5 (by decide)
              have w6_τ30 : τ30.1 6 = τ_68.1 6 := hf_τ30.1 6 (by decide)
              have w7_τ30 : τ30.1 7 = τ_68.1 7 := hf_τ30.1 7 (by decide)
              have w8_τ30 : τ30.1 8 = τ_68.1 8 := hf_τ30.1 8 (by decide)
              have w9_τ30 : τ30.1 9 = τ_68.1 9 := hf_τ30.1 9 (by decide)
              have w22_τ30 : τ30.1 22 = τ_68.1 22 := hf_τ30.1 22 (by decide)
              have w26_τ30 : τ30.1 26 = τ_68.1 26 := hf_τ30.1 26 (by decide)
              have w27_τ30 : τ30.1 27 = τ_68.1 27 := hf_τ30.1 27 (by decide)
              have w28_τ30 : τ30.1 28 = τ_68.1 28 := hf_τ30.1 28 (by decide)
              have w29_τ30 : τ30.1 29 = τ_68.1 29 := hf_τ30.1 29 (by decide)
              have g6_τ30 : τ30.2.1 6 = τ_68.2.1 6 := hf_τ30.2.1 6 (by decide)
              have g7_τ30 : τ30.2.1 7 = τ_68.2.1 7 := hf_τ30.2.1 7 (by decide)
              have g18_τ30 : τ30.2.1 18 = τ_68.2.1 18 := hf_τ30.2.1 18 (by decide)
              have g19_τ30 : τ30.2.1 19 = τ_68.2.1 19 := hf_τ30.2.1 19 (by decide)
              have g25_τ30 : τ30.2.1 25 = τ_68.2.1 25 := hf_τ30.2.1 25 (by decide)
              have g26_τ30 : τ30.2.1 26 = τ_68.2.1 26 := hf_τ30.2.1 26 (by decide)
              have g28_τ30 : τ30.2.1 28 = τ_68.2.1 28 := hf_τ30.2.1 28 (by decide)
              first | (have o6_τ30 := congrArg oc g6_τ30) | skip
              first | (have o7_τ30 := congrArg oc g7_τ30) | skip
              have W0 : τ30.1 0 = σ.1 0 := by omega
              have W3 : τ30.1 3 = σ.1 3 := by omega
              have W5 : τ30.1 5 = σ.1 5 := by omega
              have W6 : τ30.1 6 = σ.1 6 := by omega
              have W7 : τ30.1 7 = σ.1 7 := by omega
              have W8 : τ30.1 8 = σ.1 8 := by omega
              have W22 : τ30.1 22 = σ.1 22 := by omega
              have G6 : τ30.2.1 6 = σ.2.1 6 := (g6_τ30).trans G6
              have G7 : τ30.2.1 7 = σ.2.1 7 := (g7_τ30).trans G7
              have G18 : τ30.2.1 18 = σ.2.1 18 := (g18_τ30).trans G18
              have G19 : τ30.2.1 19 = σ.2.1 19 := (g19_τ30).trans G19
              have G25 : τ30.2.1 25 = σ.2.1 25 := (g25_τ30).trans G25
              have y18_22_τ30 : τ30.2.1 18 (τ30.1 22) = (τ_68.2.1 18) (τ_68.1 22) := by rw [g18_τ30, w22_τ30]
              have y19_22_τ30 : τ30.2.1 19 (τ30.1 22) = (τ_68.2.1 19) (τ_68.1 22) := by rw [g19_τ30, w22_τ30]
              have y25_22_τ30 : τ30.2.1 25 (τ30.1 22) = (τ_68.2.1 25) (τ_68.1 22) := by rw [g25_τ30, w22_τ30]
              have y26_22_τ30 : τ30.2.1 26 (τ30.1 22) = (τ_68.2.1 26) (τ_68.1 22) := by rw [g26_τ30, w22_τ30]
              have Z4 : τ30.2.1 25 (τ30.1 22) + τ30.2.1 26 (τ30.1 22) = (τ30.1 9) := by rw [show (τ30.2.1 25 (τ30.1 22) + τ30.2.1 26 (τ30.1 22) = (τ30.1 9)) = (τ_68.2.1 25 (τ_68.1 22) + τ_68.2.1 26 (τ_68.1 22) = (τ_68.1 9)) from by rw [w9_τ30, w22_τ30, g25_τ30, g26_τ30]]; exact Z4
              have Y10 : ca (τ30.2.1 28) ((τ30.1 9)) ≤ ca (τ30.2.1 28) (τ30.2.1 25 (τ30.1 22)) + (τ30.1 29) := by rw [show (ca (τ30.2.1 28) ((τ30.1 9)) ≤ ca (τ30.2.1 28) (τ30.2.1 25 (τ30.1 22)) + (τ30.1 29)) = (ca (τ_68.2.1 28) ((τ_68.1 9)) ≤ ca (τ_68.2.1 28) (τ_68.2.1 25 (τ_68.1 22)) + (τ_68.1 29)) from by rw [w9_τ30, w22_τ30, w29_τ30, g25_τ30, g28_τ30]]; exact Y10
              have Y12 : ¬ (τ30.1 28) = 0 → τ30.2.1 25 (τ30.1 22) < (τ30.1 9) ∧ τ30.2.1 28 ((τ30.1 9) - 1) = 0 := by rw [show (¬ (τ30.1 28) = 0 → τ30.2.1 25 (τ30.1 22) < (τ30.1 9) ∧ τ30.2.1 28 ((τ30.1 9) - 1) = 0) = (¬ (τ_68.1 28) = 0 → τ_68.2.1 25 (τ_68.1 22) < (τ_68.1 9) ∧ τ_68.2.1 28 ((τ_68.1 9) - 1) = 0) from by rw [w9_τ30, w22_τ30, w28_τ30, g25_τ30, g28_τ30]]; exact Y12
              have Y13 : j_eq (σ.2.1 25 (σ.1 22)) (σ.2.1 28) (τ30.2.1 28) := by rw [show (j_eq (σ.2.1 25 (σ.1 22)) (σ.2.1 28) (τ30.2.1 28)) = (j_eq (σ.2.1 25 (σ.1 22)) (σ.2.1 28) (τ_68.2.1 28)) from by rw [g28_τ30]]; exact Y13
              have A6 : ∀ j, (-1) ≤ τ30.2.1 6 j ∧ τ30.2.1 6 j ≤ 999 := fun j => hT.2 6 j
              have A7 : ∀ j, (-1) ≤ τ30.2.1 7 j ∧ τ30.2.1 7 j ≤ 1499 := fun j => hT.2 7 j
              have A18 : ∀ j, 0 ≤ τ30.2.1 18 j ∧ τ30.2.1 18 j ≤ 90000 := fun j => hT.2 18 j
              have A19 : ∀ j, 0 ≤ τ30.2.1 19 j ∧ τ30.2.1 19 j ≤ 60 := fun j => hT.2 19 j
              have A25 : ∀ j, 0 ≤ τ30.2.1 25 j ∧ τ30.2.1 25 j ≤ 20000 := fun j => hT.2 25 j
              have A26 : ∀ j, 0 ≤ τ30.2.1 26 j ∧ τ30.2.1 26 j ≤ 20000 := fun j => hT.2 26 j
              have A28 : ∀ j, 0 ≤ τ30.2.1 28 j ∧ τ30.2.1 28 j ≤ 1 := fun j => hT.2 28 j
              have v0 : 0 ≤ τ30.1 0 ∧ τ30.1 0 ≤ 60000 := hT.1 0
              have v3 : 0 ≤ τ30.1 3 ∧ τ30.1 3 ≤ 1000 := hT.1 3
              have v5 : 0 ≤ τ30.1 5 ∧ τ30.1 5 ≤ 1500 := hT.1 5
              have v6 : 0 ≤ τ30.1 6 ∧ τ30.1 6 ≤ 30000 := hT.1 6
              have v7 : 0 ≤ τ30.1 7 ∧ τ30.1 7 ≤ 90000 := hT.1 7
              have v8 : 0 ≤ τ30.1 8 ∧ τ30.1 8 ≤ 20000 := hT.1 8
              have v9 : 0 ≤ τ30.1 9 ∧ τ30.1 9 ≤ 20000 := hT.1 9
              have v16 : 0 ≤ τ30.1 16 ∧ τ30.1 16 ≤ 60000 := hT.1 16
              have v17 : 0 ≤ τ30.1 17 ∧ τ30.1 17 ≤ 60000 := hT.1 17
              have v18 : 0 ≤ τ30.1 18 ∧ τ30.1 18 ≤ 60000 := hT.1 18
              have v19 : (-1) ≤ τ30.1 19 ∧ τ30.1 19 ≤ 125 := hT.1 19
              have v20 : 0 ≤ τ30.1 20 ∧ τ30.1 20 ≤ 19 := hT.1 20
              have v22 : 0 ≤ τ30.1 22 ∧ τ30.1 22 ≤ 1499 := hT.1 22
              have v26 : 0 ≤ τ30.1 26 ∧ τ30.1 26 ≤ 5000010 := hT.1 26
              have v27 : 0 ≤ τ30.1 27 ∧ τ30.1 27 ≤ 1 := hT.1 27
              have v28 : 0 ≤ τ30.1 28 ∧ τ30.1 28 ≤ 1 := hT.1 28
              have v29 : 0 ≤ τ30.1 29 ∧ τ30.1 29 ≤ 300 := hT.1 29
              have a18_22 : 0 ≤ τ30.2.1 18 (τ30.1 22) ∧ τ30.2.1 18 (τ30.1 22) ≤ 90000 := hT.2 18 _
              have a19_22 : 0 ≤ τ30.2.1 19 (τ30.1 22) ∧ τ30.2.1 19 (τ30.1 22) ≤ 60 := hT.2 19 _
              have a25_22 : 0 ≤ τ30.2.1 25 (τ30.1 22) ∧ τ30.2.1 25 (τ30.1 22) ≤ 20000 := hT.2 25 _
              have a26_22 : 0 ≤ τ30.2.1 26 (τ30.1 22) ∧ τ30.2.1 26 (τ30.1 22) ≤ 20000 := hT.2 26 _
              have av9 : σ.1 9 ≤ τ30.1 9 := ag.1 9 (by decide)
              exact ih_36 _ (show (3 * ((τ30.1 0) - (τ30.1 16)) + z_0 ((τ30.1 20)) + 1 - z_0 ((τ30.1 19)) : Int) < ((m_36 : Nat) : Int) from by (have zz0 := z_e ((τ30.1 20)); have zz1 := z_e ((τ30.1 19)); (first | omega | (simp only [st_s] <;> omega) | assumption | omega))) hT ag (show τ30.1 0 = σ.1 0 from by omega) (show τ30.1 3 = σ.1 3 from by omega) (show τ30.1 5 = σ.1 5 from by omega) (show τ30.1 6 = σ.1 6 from by omega) (show τ30.1 7 = σ.1 7 from by omega) (show τ30.1 8 = σ.1 8 from by omega) (show τ30.1 22 = σ.1 22 from by omega) G6 G7 G18 G19 G25 (show (τ30.1 16) ≤ (τ30.1 0) from by (first | omega | (simp only [st_s] <;> omega) | assumption | omega)) (show (τ30.1 17) + (τ30.1 18) ≤ (τ30.1 0) from by (first | omega | (simp only [st_s] <;> omega) | assumption | omega)) (show oc (τ30.2.1 6) < 4096 from by (first | omega | (simp only [st_s] <;> omega) | assumption | omega)) (show oc (τ30.2.1 7) < 4096 from by (first | omega | (simp only [st_s] <;> omega) | assumption | omega)) (show ¬ (σ.1 20) = 0 → (τ30.1 20) = (σ.1 20) from by (first | omega | (simp only [st_s] <;> omega) | assumption | omega)) (show τ30.2.1 25 (τ30.1 22) + τ30.2.1 26 (τ30.1 22) = (τ30.1 9) from Z4) (show ca (τ30.2.1 28) ((τ30.1 9)) ≤ ca (τ30.2.1 28) (τ30.2.1 25 (τ30.1 22)) + (τ30.1 29) from Y10) (show ¬ (τ30.1 28) = 0 → τ30.2.1 25 (τ30.1 22) < (τ30.1 9) ∧ τ30.2.1 28 ((τ30.1 9) - 1) = 0 from Y12) (show j_eq (σ.2.1 25 (σ.1 22)) (σ.2.1 28) (τ30.2.1 28) from Y13) (show (τ30.1 20) = 0 → (τ30.1 26) ≤ 1000000 from by (first | omega | (simp only [st_s] <;> omega) | assumption | omega)) (show (σ.1 16) ≤ (τ30.1 16) from by (first | omega | (simp only [st_s] <;> omega) | assumption | omega))
          ·
            refine ⟨fun c20 => ?_, fun c20 => ?_⟩
            ·
              refine h110 _ ?_
              refine ⟨fun c27 => ?_, fun c27 => ?_⟩
              ·
                exact ih_36 _ (show (3 * ((τ_68.1 0) - (τ_68.1 16)) + z_0 ((τ_68.1 20)) + 1 - z_0 ((τ_68.1 19)) : Int) < ((m_36 : Nat) : Int) from by (have zz0 := z_e ((τ_68.1 20)); have zz1 := z_e ((τ_68.1 19)); (first | omega | (simp only [st_s] <;> omega) | assumption | omega))) hT ag (show τ_68.1 0 = σ.1 0 from by omega) (show τ_68.1 3 = σ.1 3 from by omega) (show τ_68.1 5 = σ.1 5 from by omega) (show τ_68.1 6 = σ.1 6 from by omega) (show τ_68.1 7 = σ.1 7 from by omega) (show τ_68.1 8 = σ.1 8 from by omega) (show τ_68.1 22 = σ.1 22 from by omega) G6 G7 G18 G19 G25 (show (τ_68.1 16) ≤ (τ_68.1 0) from by (first | omega | (simp only [st_s] <;> omega) | assumption | omega)) (show (τ_68.1 17) + (τ_68.1 18) ≤ (τ_68.1 0) from by (first | omega | (simp only [st_s] <;> omega) | assumption | omega)) (show oc (τ_68.2.1 6) < 4096 from by (first | omega | (simp only [st_s] <;> omega) | assumption | omega)) (show oc (τ_68.2.1 7) < 4096 from by (first | omega | (simp only [st_s] <;> omega) | assumption | omega)) (show ¬ (σ.1 20) = 0 → (τ_68.1 20) = (σ.1 20) from by (first | omega | (simp only [st_s] <;> omega) | assumption | omega)) (show τ_68.2.1 25 (τ_68.1 22) + τ_68.2.1 26 (τ_68.1 22) = (τ_68.1 9) from Z4) (show ca (τ_68.2.1 28) ((τ_68.1 9)) ≤ ca (τ_68.2.1 28) (τ_68.2.1 25 (τ_68.1 22)) + (τ_68.1 29) from Y10) (show ¬ (τ_68.1 28) = 0 → τ_68.2.1 25 (τ_68.1 22) < (τ_68.1 9) ∧ τ_68.2.1 28 ((τ_68.1 9) - 1) = 0 from Y12) (show j_eq (σ.2.1 25 (σ.1 22)) (σ.2.1 28) (τ_68.2.1 28) from Y13) (show (τ_68.1 20) = 0 → (τ_68.1 26) ≤ 1000000 from by (first | omega | (simp only [st_s] <;> omega) | assumption | omega)) (show (σ.1 16) ≤ (τ_68.1 16) from by (first | omega | (simp only [st_s] <;> omega) | assumption | omega))
              ·
                refine ⟨_, K_X13_next hT (show (τ_68.1 16) ≤ (τ_68.1 0) from by (first | omega | (simp only [st_s] <;> omega) | assumption | omega)), ?_⟩
                intro τ30 hn_τ30 hf_τ30 hq
                obtain ⟨hT, q28_1, q28_2, q28_3, q28_4, q28_5⟩ := hq
                replace q28_1 : (τ30.1 16) ≤ (τ30.1 0) := q28_1
                replace q28_2 : (τ30.1 17) + (τ30.1 18) ≤ (τ30.1 0) := q28_2
                replace q28_3 : (τ_68.1 16) ≤ (τ30.1 16) := q28_3
                replace q28_4 : ¬ (τ_68.1 20) = 0 → (τ30.1 20) = (τ_68.1 20) := q28_4
                replace q28_5 : (τ30.1 20) = 0 → ¬ (τ30.1 19) = 0 → (τ_68.1 16) < (τ30.1 16) ∧ 0 < (τ30.1 18) := q28_5
                replace ag : m_ag σ τ30 := ag_r ag hf_τ30 rfl rfl
                have w0_τ30 : τ30.1 0 = τ_68.1 0 := hf_τ30.1 0 (by decide)
                have w3_τ30 : τ30.1 3 = τ_68.1 3 := hf_τ30.1 3 (by decide)
                have w5_τ30 : τ30.1 5 = τ_68.1 5 := hf_τ30.1 5 (by decide)
                have w6_τ30 : τ30.1 6 = τ_68.1 6 := hf_τ30.1 6 (by decide)
                have w7_τ30 : τ30.1 7 = τ_68.1 7 := hf_τ30.1 7 (by decide)
                have w8_τ30 : τ30.1 8 = τ_68.1 8 := hf_τ30.1 8 (by decide)
                have w9_τ30 : τ30.1 9 = τ_68.1 9 := hf_τ30.1 9 (by decide)
                have w22_τ30 : τ30.1 22 = τ_68.1 22 := hf_τ30.1 22 (by decide)
                have w26_τ30 : τ30.1 26 = τ_68.1 26 := hf_τ30.1 26 (by decide)
                have w27_τ30 : τ30.1 27 = τ_68.1 27 := hf_τ30.1 27 (by decide)
                have w28_τ30 : τ30.1 28 = τ_68.1 28 := hf_τ30.1 28 (by decide)
                have w29_τ30 : τ30.1 29 = τ_68.1 29 := hf_τ30.1 29 (by decide)
                have g6_τ30 : τ30.2.1 6 = τ_68.2.1 6 := hf_τ30.2.1 6 (by decide)
                have g7_τ30 : τ30.2.1 7 = τ_68.2.1 7 := hf_τ30.2.1 7 (by decide)
                have g18_τ30 : τ30.2.1 18 = τ_68.2.1 18 := hf_τ30.2.1 18 (by decide)
                have g19_τ30 : τ30.2.1 19 = τ_68.2.1 19 := hf_τ30.2.1 19 (by decide)
                have g25_τ30 : τ30.2.1 25 = τ_68.2.1 25 := hf_τ30.2.1 25 (by decide)
                have g26_τ30 : τ30.2.1 26 = τ_68.2.1 26 := hf_τ30.2.1 26 (by decide)
                have g28_τ30 : τ30.2.1 28 = τ_68.2.1 28 := hf_τ30.2.1 28 (by decide)
                first | (have o6_τ30 := congrArg oc g6_τ30) | skip
                first | (have o7_τ30 := congrArg oc g7_τ30) | skip
                have W0 : τ30.1 0 = σ.1 0 := by omega
                have W3 : τ30.1 3 = σ.1 3 := by omega
                have W5 : τ30.1 5 = σ.1 5 := by omega
                have W6 : τ30.1 6 = σ.1 6 := by omega
                have W7 : τ30.1 7 = σ.1 7 := by omega
                have W8 : τ30.1 8 = σ.1 8 := by omega
                have W22 : τ30.1 22 = σ.1 22 := by omega
                have G6 : τ30.2.1 6 = σ.2.1 6 := (g6_τ30).trans G6
                have G7 : τ30.2.1 7 = σ.2.1 7 := (g7_τ30).trans G7
                have G18 : τ30.2.1 18 = σ.2.1 18 := (g18_τ30).trans G18
                have G19 : τ30.2.1 19 = σ.2.1 19 := (g19_τ30).trans G19
                have G25 : τ30.2.1 25 = σ.2.1 25 := (g25_τ30).trans G25
                have y18_22_τ30 : τ30.2.1 18 (τ30.1 22) = (τ_68.2.1 18) (τ_68.1 22) := by rw [g18_τ30, w22_τ30]
                have y19_22_τ30 : τ30.2.1 19 (τ30.1 22) = (τ_68.2.1 19) (τ_68.1 22) := by rw [g19_τ30, w22_τ30]
                have y25_22_τ30 : τ30.2.1 25 (τ30.1 22) = (τ_68.2.1 25) (τ_68.1 22) := by rw [g25_τ30, w22_τ30]
                have y26_22_τ30 : τ30.2.1 26 (τ30.1 22) = (τ_68.2.1 26) (τ_68.1 22) := by rw [g26_τ30, w22_τ30]
                have Z4 : τ30.2.1 25 (τ30.1 22) + τ30.2.1 26 (τ30.1 22) = (τ30.1 9) := by rw [show (τ30.2.1 25 (τ30.1 22) + τ30.2.1 26 (τ30.1 22) = (τ30.1 9)) = (τ_68.2.1 25 (τ_68.1 22) + τ_68.2.1 26 (τ_68.1 22) = (τ_68.1 9)) from by rw [w9_τ30, w22_τ30, g25_τ30, g26_τ30]]; exact Z4
                have Y10 : ca (τ30.2.1 28) ((τ30.1 9)) ≤ ca (τ30.2.1 28) (τ30.2.1 25 (τ30.1 22)) + (τ30.1 29) := by rw [show (ca (τ30.2.1 28) ((τ30.1 9)) ≤ ca (τ30.2.1 28) (τ30.2.1 25 (τ30.1 22)) + (τ30.1 29)) = (ca (τ_68.2.1 28) ((τ_68.1 9)) ≤ ca (τ_68.2.1 28) (τ_68.2.1 25 (τ_68.1 22)) + (τ_68.1 29)) from by rw [w9_τ30, w22_τ30, w29_τ30, g25_τ30, g28_τ30]]; exact Y10
                have Y12 : ¬ (τ30.1 28) = 0 → τ30.2.1 25 (τ30.1 22) < (τ30.1 9) ∧ τ30.2.1 28 ((τ30.1 9) - 1) = 0 := by rw [show (¬ (τ30.1 28) = 0 → τ30.2.1 25 (τ30.1 22) < (τ30.1 9) ∧ τ30.2.1 28 ((τ30.1 9) - 1) = 0) = (¬ (τ_68.1 28) = 0 → τ_68.2.1 25 (τ_68.1 22) < (τ_68.1 9) ∧ τ_68.2.1 28 ((τ_68.1 9) - 1) = 0) from by rw [w9_τ30, w22_τ30, w28_τ30, g25_τ30, g28_τ30]]; exact Y12
                have Y13 : j_eq (σ.2.1 25 (σ.1 22)) (σ.2.1 28) (τ30.2.1 28) := by rw [show (j_eq (σ.2.1 25 (σ.1 22)) (σ.2.1 28) (τ30.2.1 28)) = (j_eq (σ.2.1 25 (σ.1 22)) (σ.2.1 28) (τ_68.2.1 28)) from by rw [g28_τ30]]; exact Y13
                have A6 : ∀ j, (-1) ≤ τ30.2.1 6 j ∧ τ30.2.1 6 j ≤ 999 := fun j => hT.2 6 j
                have A7 : ∀ j, (-1) ≤ τ30.2.1 7 j ∧ τ30.2.1 7 j ≤ 1499 := fun j => hT.2 7 j
                have A18 : ∀ j, 0 ≤ τ30.2.1 18 j ∧ τ30.2.1 18 j ≤ 90000 := fun j => hT.2 18 j
                have A19 : ∀ j, 0 ≤ τ30.2.1 19 j ∧ τ30.2.1 19 j ≤ 60 := fun j => hT.2 19 j
                have A25 : ∀ j, 0 ≤ τ30.2.1 25 j ∧ τ30.2.1 25 j ≤ 20000 := fun j => hT.2 25 j
                have A26 : ∀ j, 0 ≤ τ30.2.1 26 j ∧ τ30.2.1 26 j ≤ 20000 := fun j => hT.2 26 j
                have A28 : ∀ j, 0 ≤ τ30.2.1 28 j ∧ τ30.2.1 28 j ≤ 1 := fun j => hT.2 28 j
                have v0 : 0 ≤ τ30.1 0 ∧ τ30.1 0 ≤ 60000 := hT.1 0
                have v3 : 0 ≤ τ30.1 3 ∧ τ30.1 3 ≤ 1000 := hT.1 3
                have v5 : 0 ≤ τ30.1 5 ∧ τ30.1 5 ≤ 1500 := hT.1 5
                have v6 : 0 ≤ τ30.1 6 ∧ τ30.1 6 ≤ 30000 := hT.1 6
                have v7 : 0 ≤ τ30.1 7 ∧ τ30.1 7 ≤ 90000 := hT.1 7
                have v8 : 0 ≤ τ30.1 8 ∧ τ30.1 8 ≤ 20000 := hT.1 8
                have v9 : 0 ≤ τ30.1 9 ∧ τ30.1 9 ≤ 20000 := hT.1 9
                have v16 : 0 ≤ τ30.1 16 ∧ τ30.1 16 ≤ 60000 := hT.1 16
                have v17 : 0 ≤ τ30.1 17 ∧ τ30.1 17 ≤ 60000 := hT.1 17
                have v18 : 0 ≤ τ30.1 18 ∧ τ30.1 18 ≤ 60000 := hT.1 18
                have v19 : (-1) ≤ τ30.1 19 ∧ τ30.1 19 ≤ 125 := hT.1 19
                have v20 : 0 ≤ τ30.1 20 ∧ τ30.1 20 ≤ 19 := hT.1 20
                have v22 : 0 ≤ τ30.1 22 ∧ τ30.1 22 ≤ 1499 := hT.1 22
                have v26 : 0 ≤ τ30.1 26 ∧ τ30.1 26 ≤ 5000010 := hT.1 26
                have v27 : 0 ≤ τ30.1 27 ∧ τ30.1 27 ≤ 1 := hT.1 27
                have v28 : 0 ≤ τ30.1 28 ∧ τ30.1 28 ≤ 1 := hT.1 28
                have v29 : 0 ≤ τ30.1 29 ∧ τ30.1 29 ≤ 300 := hT.1 29
                have a18_22 : 0 ≤ τ30.2.1 18 (τ30.1 22) ∧ τ30.2.1 18 (τ30.1 22) ≤ 90000 := hT.2 18 _
                have a19_22 : 0 ≤ τ30.2.1 19 (τ30.1 22) ∧ τ30.2.1 19 (τ30.1 22) ≤ 60 := hT.2 19 _
                have a25_22 : 0 ≤ τ30.2.1 25 (τ30.1 22) ∧ τ30.2.1 25 (τ30.1 22) ≤ 20000 := hT.2 25 _
                have a26_22 : 0 ≤ τ30.2.1 26 (τ30.1 22) ∧ τ30.2.1 26 (τ30.1 22) ≤ 20000 := hT.2 26 _
                have av9 : σ.1 9 ≤ τ30.1 9 := ag.1 9 (by decide)
                exact ih_36 _ (show (3 * ((τ30.1 0) - (τ30.1 16)) + z_0 ((τ30.1 20)) + 1 - z_0 ((τ30.1 19)) : Int) < ((m_36 : Nat) : Int) from by (have zz0 := z_e ((τ30.1 20)); have zz1 := z_e ((τ30.1 19)); (first | omega | (simp only [st_s] <;> omega) | assumption | omega))) hT ag (show τ30.1 0 = σ.1 0 from by omega) (show τ30.1 3 = σ.1 3 from by omega) (show τ30.1 5 = σ.1 5 from by omega) (show τ30.1 6 = σ.1 6 from by omega) (show τ30.1 7 = σ.1 7 from by omega) (show τ30.1 8 = σ.1 8 from by omega) (show τ30.1 22 = σ.1 22 from by omega) G6 G7 G18 G19 G25 (show (τ30.1 16) ≤ (τ30.1 0) from by (first | omega | (simp only [st_s] <;> omega) | assumption | omega)) (show (τ30.1 17) + (τ30.1 18) ≤ (τ30.1 0) from by (first | omega | (simp only [st_s] <;> omega) | assumption | omega)) (show oc (τ30.2.1 6) < 4096 from by (first | omega | (simp only [st_s] <;> omega) | assumption | omega)) (show oc (τ30.2.1 7) < 4096 from by (first | omega | (simp only [st_s] <;> omega) | assumption | omega)) (show ¬ (σ.1 20) = 0 → (τ30.1 20) = (σ.1 20) from by (first | omega | (simp only [st_s] <;> omega) | assumption | omega)) (show τ30.2.1 25 (τ30.1 22) + τ30.2.1 26 (τ30.1 22) = (τ30.1 9) from Z4) (show ca (τ30.2.1 28) ((τ30.1 9)) ≤ ca (τ30.2.1 28) (τ30.2.1 25 (τ30.1 22)) + (τ30.1 29) from Y10) (show ¬ (τ30.1 28) = 0 → τ30.2.1 25 (τ30.1 22) < (τ30.1 9) ∧ τ30.2.1 28 ((τ30.1 9) - 1) = 0 from Y12) (show j_eq (σ.2.1 25 (σ.1 22)) (σ.2.1 28) (τ30.2.1 28) from Y13) (show (τ30.1 20) = 0 → (τ30.1 26) ≤ 1000000 from by (first | omega | (simp only [st_s] <;> omega) | assumption | omega)) (show (σ.1 16) ≤ (τ30.1 16) from by (first | omega | (simp only [st_s] <;> omega) | assumption | omega))
            ·
              refine ⟨(show 0 ≤ (τ_68.1 17 + u1_68) ∧ (τ_68.1 17 + u1_68) < 60000 from by (first | omega | (simp only [st_s] <;> omega) | assumption | omega)), ?_⟩
              intro x22 r_x22 e_x22
              have b_x22 : 0 ≤ x22 ∧ x22 ≤ 255 := by rw [e_x22]; exact hT.2 0 _
              refine ⟨_, K_X13_readLetter hT (show -1000 ≤ x22 from by (first | omega | (simp only [st_s] <;> omega) | assumption | omega)) (show x22 ≤ 1000 from by (first | omega | (simp only [st_s] <;> omega) | assumption | omega)) (show 0 ≤ (τ_68.1 17 + u1_68) from by (first | omega | (simp only [st_s] <;> omega) | assumption | omega)) (show (τ_68.1 17 + u1_68) ≤ 60000 from by (first | omega | (simp only [st_s] <;> omega) | assumption | omega)) (show (τ_68.1 26) ≤ 1000000 from by (first | omega | (simp only [st_s] <;> omega) | assumption | omega)) (show (τ_68.1 22) = (τ_68.1 5) from by (first | omega | (simp only [st_s] <;> omega) | assumption | omega)) (show τ_68.2.1 25 (τ_68.1 22) + τ_68.2.1 26 (τ_68.1 22) = (τ_68.1 9) from Z4) (show ca (τ_68.2.1 28) ((τ_68.1 9)) ≤ ca (τ_68.2.1 28) (τ_68.2.1 25 (τ_68.1 22)) + (τ_68.1 29) from Y10) (show ¬ (τ_68.1 28) = 0 → τ_68.2.1 25 (τ_68.1 22) < (τ_68.1 9) ∧ τ_68.2.1 28 ((τ_68.1 9) - 1) = 0 from Y12), ?_⟩
              intro τ25 hn_τ25 hf_τ25 hq
              obtain ⟨hT, q23_1, q23_2, q23_3, q23_4, q23_5, q23_6, q23_7⟩ := hq
              replace q23_1 : ¬ (τ_68.1 20) = 0 → (τ25.1 20) = (τ_68.1 20) := q23_1
              replace q23_2 : τ25.2.1 25 (τ25.1 22) + τ25.2.1 26 (τ25.1 22) = (τ25.1 9) := q23_2
              replace q23_3 : ca (τ25.2.1 28) ((τ25.1 9)) ≤ ca (τ25.2.1 28) (τ25.2.1 25 (τ25.1 22)) + (τ25.1 29) := q23_3
              replace q23_4 : ¬ (τ25.1 28) = 0 → τ25.2.1 25 (τ25.1 22) < (τ25.1 9) ∧ τ25.2.1 28 ((τ25.1 9) - 1) = 0 := q23_4
              replace q23_5 : j_eq (τ_68.2.1 25 (τ_68.1 22)) (τ_68.2.1 28) (τ25.2.1 28) := q23_5
              replace q23_6 : (τ25.1 20) = 0 → (τ25.1 26) ≤ 1000000 := q23_6
              replace q23_7 : m_ag τ_68 τ25 := q23_7
              replace ag : m_ag σ τ25 := ag_t ag q23_7 rfl
              have w0_τ25 : τ25.1 0 = τ_68.1 0 := hf_τ25.1 0 (by decide)
              have w3_τ25 : τ25.1 3 = τ_68.1 3 := hf_τ25.1 3 (by decide)
              have w5_τ25 : τ25.1 5 = τ_68.1 5 := hf_τ25.1 5 (by decide)
              have w6_τ25 : τ25.1 6 = τ_68.1 6 := hf_τ25.1 6 (by decide)
              have w7_τ25 : τ25.1 7 = τ_68.1 7 := hf_τ25.1 7 (by decide)
              have w8_τ25 : τ25.1 8 = τ_68.1 8 := hf_τ25.1 8 (by decide)
              have w16_τ25 : τ25.1 16 = τ_68.1 16 := hf_τ25.1 16 (by decide)
              have w17_τ25 : τ25.1 17 = τ_68.1 17 := hf_τ25.1 17 (by decide)
              have w18_τ25 : τ25.1 18 = τ_68.1 18 := hf_τ25.1 18 (by decide)
              have w19_τ25 : τ25.1 19 = τ_68.1 19 := hf_τ25.1 19 (by decide)
              have w22_τ25 : τ25.1 22 = τ_68.1 22 := hf_τ25.1 22 (by decide)
              have g6_τ25 : τ25.2.1 6 = τ_68.2.1 6 := hf_τ25.2.1 6 (by decide)
              have g7_τ25 : τ25.2.1 7 = τ_68.2.1 7 := hf_τ25.2.1 7 (by decide)
              have g18_τ25 : τ25.2.1 18 = τ_68.2.1 18 := hf_τ25.2.1 18 (by decide)
              have g19_τ25 : τ25.2.1 19 = τ_68.2.1 19 := hf_τ25.2.1 19 (by decide)
              have g25_τ25 : τ25.2.1 25 = τ_68.2.1 25 := hf_τ25.2.1 25 (by decide)
              first | (have o6_τ25 := congrArg oc g6_τ25) | skip
              first | (have o7_τ25 := congrArg oc g7_τ25) | skip
              have W0 : τ25.1 0 = σ.1 0 := by omega
              have W3 : τ25.1 3 = σ.1 3 := by omega
              have W5 : τ25.1 5 = σ.1 5 := by omega
              have W6 : τ25.1 6 = σ.1 6 := by omega
              have W7 : τ25.1 7 = σ.1 7 := by omega
              have W8 : τ25.1 8 = σ.1 8 := by omega
              have W22 : τ25.1 22 = σ.1 22 := by omega
              have G6 : τ25.2.1 6 = σ.2.1 6 := (g6_τ25).trans G6
              have G7 : τ25.2.1 7 = σ.2.1 7 := (g7_τ25).trans G7
              have G18 : τ25.2.1 18 = σ.2.1 18 := (g18_τ25).trans G18
              have G19 : τ25.2.1 19 = σ.2.1 19 := (g19_τ25).trans G19
              have G25 : τ25.2.1 25 = σ.2.1 25 := (g25_τ25).trans G25
              have y18_22_τ25 : τ25.2.1 18 (τ25.1 22) = (τ_68.2.1 18) (τ_68.1 22) := by rw [g18_τ25, w22_τ25]
              have y19_22_τ25 : τ25.2.1 19 (τ25.1 22) = (τ_68.2.1 19) (τ_68.1 22) := by rw [g19_τ25, w22_τ25]
              have y25_22_τ25 : τ25.2.1 25 (τ25.1 22) = (τ_68.2.1 25) (τ_68.1 22) := by rw [g25_τ25, w22_τ25]
              have Z4 : τ25.2.1 25 (τ25.1 22) + τ25.2.1 26 (τ25.1 22) = (τ25.1 9) := q23_2
              have Y10 : ca (τ25.2.1 28) ((τ25.1 9)) ≤ ca (τ25.2.1 28) (τ25.2.1 25 (τ25.1 22)) + (τ25.1 29) := q23_3
              have Y12 : ¬ (τ25.1 28) = 0 → τ25.2.1 25 (τ25.1 22) < (τ25.1 9) ∧ τ25.2.1 28 ((τ25.1 9) - 1) = 0 := q23_4
              have A6 : ∀ j, (-1) ≤ τ25.2.1 6 j ∧ τ25.2.1 6 j ≤ 999 := fun j => hT.2 6 j
              have A7 : ∀ j, (-1) ≤ τ25.2.1 7 j ∧ τ25.2.1 7 j ≤ 1499 := fun j => hT.2 7 j
              have A18 : ∀ j, 0 ≤ τ25.2.1 18 j ∧ τ25.2.1 18 j ≤ 90000 := fun j => hT.2 18 j
              have A19 : ∀ j, 0 ≤ τ25.2.1 19 j ∧ τ25.2.1 19 j ≤ 60 := fun j => hT.2 19 j
              have A25 : ∀ j, 0 ≤ τ25.2.1 25 j ∧ τ25.2.1 25 j ≤ 20000 := fun j => hT.2 25 j
              have A26 : ∀ j, 0 ≤ τ25.2.1 26 j ∧ τ25.2.1 26 j ≤ 20000 := fun j => hT.2 26 j
              have A28 : ∀ j, 0 ≤ τ25.2.1 28 j ∧ τ25.2.1 28 j ≤ 1 := fun j => hT.2 28 j
              have v0 : 0 ≤ τ25.1 0 ∧ τ25.1 0 ≤ 60000 := hT.1 0
              have v3 : 0 ≤ τ25.1 3 ∧ τ25.1 3 ≤ 1000 := hT.1 3
              have v5 : 0 ≤ τ25.1 5 ∧ τ25.1 5 ≤ 1500 := hT.1 5
              have v6 : 0 ≤ τ25.1 6 ∧ τ25.1 6 ≤ 30000 := hT.1 6
              have v7 : 0 ≤ τ25.1 7 ∧ τ25.1 7 ≤ 90000 := hT.1 7
              have v8 : 0 ≤ τ25.1 8 ∧ τ25.1 8 ≤ 20000 := hT.1 8
              have v9 : 0 ≤ τ25.1 9 ∧ τ25.1 9 ≤ 20000 := hT.1 9
              have v16 : 0 ≤ τ25.1 16 ∧ τ25.1 16 ≤ 60000 := hT.1 16
              have v17 : 0 ≤ τ25.1 17 ∧ τ25.1 17 ≤ 60000 := hT.1 17
              have v18 : 0 ≤ τ25.1 18 ∧ τ25.1 18 ≤ 60000 := hT.1 18
              have v19 : (-1) ≤ τ25.1 19 ∧ τ25.1 19 ≤ 125 := hT.1 19
              have v20 : 0 ≤ τ25.1 20 ∧ τ25.1 20 ≤ 19 := hT.1 20
              have v22 : 0 ≤ τ25.1 22 ∧ τ25.1 22 ≤ 1499 := hT.1 22
              have v26 : 0 ≤ τ25.1 26 ∧ τ25.1 26 ≤ 5000010 := hT.1 26
              have v27 : 0 ≤ τ25.1 27 ∧ τ25.1 27 ≤ 1 := hT.1 27
              have v28 : 0 ≤ τ25.1 28 ∧ τ25.1 28 ≤ 1 := hT.1 28
              have v29 : 0 ≤ τ25.1 29 ∧ τ25.1 29 ≤ 300 := hT.1 29
              have a18_22 : 0 ≤ τ25.2.1 18 (τ25.1 22) ∧ τ25.2.1 18 (τ25.1 22) ≤ 90000 := hT.2 18 _
              have a19_22 : 0 ≤ τ25.2.1 19 (τ25.1 22) ∧ τ25.2.1 19 (τ25.1 22) ≤ 60 := hT.2 19 _
              have a25_22 : 0 ≤ τ25.2.1 25 (τ25.1 22) ∧ τ25.2.1 25 (τ25.1 22) ≤ 20000 := hT.2 25 _
              have a26_22 : 0 ≤ τ25.2.1 26 (τ25.1 22) ∧ τ25.2.1 26 (τ25.1 22) ≤ 20000 := hT.2 26 _
              have av9 : σ.1 9 ≤ τ25.1 9 := ag.1 9 (by decide)
              have Y13 := j_eqt Y13 (by have := q23_5; rw [y25_22_τ_68] at this; exact this)
              refine ⟨(⟨by (first | omega | (simp only [st_s] <;> omega) | assumption | omega), by (first | omega | (simp only [st_s] <;> omega) | assumption | omega)⟩ : rg (u1_68 + 1)), ?_⟩
              exact ih_68 _ _ (show ((τ25.1 18) - (u1_68 + 1) + 1 : Int) < ((m_68 : Nat) : Int) from by ((first | omega | (simp only [st_s] <;> omega) | assumption | omega))) hT ag (show τ25.1 0 = σ.1 0 from by omega) (show τ25.1 3 = σ.1 3 from by omega) (show τ25.1 5 = σ.1 5 from by omega) (show τ25.1 6 = σ.1 6 from by omega) (show τ25.1 7 = σ.1 7 from by omega) (show τ25.1 8 = σ.1 8 from by omega) (show τ25.1 22 = σ.1 22 from by omega) G6 G7 G18 G19 G25 (show (τ25.1 16) ≤ (τ25.1 0) from by (first | omega | (simp only [st_s] <;> omega) | assumption | omega)) (show (τ25.1 17) + (τ25.1 18) ≤ (τ25.1 0) from by (first | omega | (simp only [st_s] <;> omega) | assumption | omega)) (show oc (τ25.2.1 6) < 4096 from by (first | omega | (simp only [st_s] <;> omega) | assumption | omega)) (show oc (τ25.2.1 7) < 4096 from by (first | omega | (simp only [st_s] <;> omega) | assumption | omega)) (show ¬ (σ.1 20) = 0 → (τ25.1 20) = (σ.1 20) from by (first | omega | (simp only [st_s] <;> omega) | assumption | omega)) (show τ25.2.1 25 (τ25.1 22) + τ25.2.1 26 (τ25.1 22) = (τ25.1 9) from Z4) (show ca (τ25.2.1 28) ((τ25.1 9)) ≤ ca (τ25.2.1 28) (τ25.2.1 25 (τ25.1 22)) + (τ25.1 29) from Y10) (show ¬ (τ25.1 28) = 0 → τ25.2.1 25 (τ25.1 22) < (τ25.1 9) ∧ τ25.2.1 28 ((τ25.1 9) - 1) = 0 from Y12) (show j_eq (σ.2.1 25 (σ.1 22)) (σ.2.1 28) (τ25.2.1 28) from Y13) (show (τ25.1 20) = 0 → (τ25.1 26) ≤ 1000000 from by (first | omega | (simp only [st_s] <;> omega) | assumption | omega)) (show 0 ≤ (u1_68 + 1) from by (first | omega | (simp only [st_s] <;> omega) | assumption | omega)) (show (u1_68 + 1) ≤ (τ25.1 18) from by (first | omega | (simp only [st_s] <;> omega) | assumption | omega)) (show 3 * ((τ25.1 0) - (τ25.1 16)) + 2 ≤ (m_36 : Int) from by (first | omega | (simp only [st_s] <;> omega) | assumption | omega)) (show (σ.1 16) ≤ (τ25.1 16) from by (first | omega | (simp only [st_s] <;> omega) | assumption | omega))
      refine h36 τ_36 ?_
      refine ⟨fun c8 => ?_, fun c8 => ?_⟩
      ·
        refine h124 _ ?_
        refine ⟨fun c14 => ?_, fun c14 => ?_⟩
        ·
          exact ⟨hT, (show (τ_36.1 16) ≤ (τ_36.1 0) from by (first | omega | (simp only [st_s] <;> omega) | assumption | omega)), (show (τ_36.1 17) + (τ_36.1 18) ≤ (τ_36.1 0) from by (first | omega | (simp only [st_s] <;> omega) | assumption | omega)), (show ¬ (σ.1 20) = 0 → (τ_36.1 20) = (σ.1 20) from by (first | omega | (simp only [st_s] <;> omega) | assumption | omega)), (show τ_36.2.1 25 (τ_36.1 22) + τ_36.2.1 26 (τ_36.1 22) = (τ_36.1 9) from Z4), (show ca (τ_36.2.1 28) ((τ_36.1 9)) ≤ ca (τ_36.2.1 28) (τ_36.2.1 25 (τ_36.1 22)) + 300 from by omega), (show j_eq (σ.2.1 25 (σ.1 22)) (σ.2.1 28) (τ_36.2.1 28) from Y13), (show oc (τ_36.2.1 6) < 4096 from by (first | omega | (simp only [st_s] <;> omega) | assumption | omega)), (show oc (τ_36.2.1 7) < 4096 from by (first | omega | (simp only [st_s] <;> omega) | assumption | omega)), (show (σ.1 16) ≤ (τ_36.1 16) from by (first | omega | (simp only [st_s] <;> omega) | assumption | omega)), ag⟩
        ·
          refine ⟨fun c15 => ?_, fun c15 => ?_⟩
          ·
            exact ⟨hT, (show (τ_36.1 16) ≤ (τ_36.1 0) from by (first | omega | (simp only [st_s] <;> omega) | assumption | omega)), (show (τ_36.1 17) + (τ_36.1 18) ≤ (τ_36.1 0) from by (first | omega | (simp only [st_s] <;> omega) | assumption | omega)), (show ¬ (σ.1 20) = 0 → (τ_36.1 20) = (σ.1 20) from by (first | omega | (simp only [st_s] <;> omega) | assumption | omega)), (show τ_36.2.1 25 (τ_36.1 22) + τ_36.2.1 26 (τ_36.1 22) = (τ_36.1 9) from Z4), (show ca (τ_36.2.1 28) ((τ_36.1 9)) ≤ ca (τ_36.2.1 28) (τ_36.2.1 25 (τ_36.1 22)) + 300 from by omega), (show j_eq (σ.2.1 25 (σ.1 22)) (σ.2.1 28) (τ_36.2.1 28) from Y13), (show oc (τ_36.2.1 6) < 4096 from by (first | omega | (simp only [st_s] <;> omega) | assumption | omega)), (show oc (τ_36.2.1 7) < 4096 from by (first | omega | (simp only [st_s] <;> omega) | assumption | omega)), (show (σ.1 16) ≤ (τ_36.1 16) from by (first | omega | (simp only [st_s] <;> omega) | assumption | omega)), ag⟩
          ·
            refine ⟨_, K_X13_failHere hT (show 0 ≤ 14 from by (first | omega | (simp only [st_s] <;> omega) | assumption | omega)) (show 14 ≤ 19 from by (first | omega | (simp only [st_s] <;> omega) | assumption | omega)), ?_⟩
            intro τ18 hn_τ18 hf_τ18 hq
            obtain ⟨hT, q16_1, q16_2⟩ := hq
            replace q16_1 : ¬ (τ_36.1 20) = 0 → (τ18.1 20) = (τ_36.1 20) := q16_1
            replace q16_2 : (τ_36.1 20) = 0 → (τ18.1 20) = 14 := q16_2
            replace ag : m_ag σ τ18 := ag_r ag hf_τ18 rfl rfl
            have w0_τ18 : τ18.1 0 = τ_36.1 0 := hf_τ18.1 0 (by decide)
            have w3_τ18 : τ18.1 3 = τ_36.1 3 := hf_τ18.1 3 (by decide)
            have w5_τ18 : τ18.1 5 = τ_36.1 5 := hf_τ18.1 5 (by decide)
            have w6_τ18 : τ18.1 6 = τ_36.1 6 := hf_τ18.1 6 (by decide)
            have w7_τ18 : τ18.1 7 = τ_36.1 7 := hf_τ18.1 7 (by decide)
            have w8_τ18 : τ18.1 8 = τ_36.1 8 := hf_τ18.1 8 (by decide)
            have w9_τ18 : τ18.1 9 = τ_36.1 9 := hf_τ18.1 9 (by decide)
            have w16_τ18 : τ18.1 16 = τ_36.1 16 := hf_τ18.1 16 (by decide)
            have w17_τ18 : τ18.1 17 = τ_36.1 17 := hf_τ18.1 17 (by decide)
            have w18_τ18 : τ18.1 18 = τ_36.1 18 := hf_τ18.1 18 (by decide)
            have w19_τ18 : τ18.1 19 = τ_36.1 19 := hf_τ18.1 19 (by decide)
            have w22_τ18 : τ18.1 22 = τ_36.1 22 := hf_τ18.1 22 (by decide)
            have w26_τ18 : τ18.1 26 = τ_36.1 26 := hf_τ18.1 26 (by decide)
            have w27_τ18 : τ18.1 27 = τ_36.1 27 := hf_τ18.1 27 (by decide)
            have w28_τ18 : τ18.1 28 = τ_36.1 28 := hf_τ18.1 28 (by decide)
            have w29_τ18 : τ18.1 29 = τ_36.1 29 := hf_τ18.1 29 (by decide)
            have g6_τ18 : τ18.2.1 6 = τ_36.2.1 6 := hf_τ18.2.1 6 (by decide)
            have g7_τ18 : τ18.2.1 7 = τ_36.2.1 7 := hf_τ18.2.1 7 (by decide)
            have g18_τ18 : τ18.2.1 18 = τ_36.2.1 18 := hf_τ18.2.1 18 (by decide)
            have g19_τ18 : τ18.2.1 19 = τ_36.2.1 19 := hf_τ18.2.1 19 (by decide)
            have g25_τ18 : τ18.2.1 25 = τ_36.2.1 25 := hf_τ18.2.1 25 (by decide)
            have g26_τ18 : τ18.2.1 26 = τ_36.2.1 26 := hf_τ18.2.1 26 (by decide)
            have g28_τ18 : τ18.2.1 28 = τ_36.2.1 28 := hf_τ18.2.1 28 (by decide)
            first | (have o6_τ18 := congrArg oc g6_τ18) | skip
            first | (have o7_τ18 := congrArg oc g7_τ18) | skip
            have W0 : τ18.1 0 = σ.1 0 := by omega
            have W3 : τ18.1 3 = σ.1 3 := by omega
            have W5 : τ18.1 5 = σ.1 5 := by omega
            have W6 : τ18.1 6 = σ.1 6 := by omega
            have W7 : τ18.1 7 = σ.1 7 := by omega
            have W8 : τ18.1 8 = σ.1 8 := by omega
            have W22 : τ18.1 22 = σ.1 22 := by omega
            have G6 : τ18.2.1 6 = σ.2.1 6 := (g6_τ18).trans G6
            have G7 : τ18.2.1 7 = σ.2.1 7 := (g7_τ18).trans G7
            have G18 : τ18.2.1 18 = σ.2.1 18 := (g18_τ18).trans G18
            have G19 : τ18.2.1 19 = σ.2.1 19 := (g19_τ18).trans G19
            have G25 : τ18.2.1 25 = σ.2.1 25 := (g25_τ18).trans G25
            have y18_22_τ18 : τ18.2.1 18 (τ18.1 22) = (τ_36.2.1 18) (τ_36.1 22) := by rw [g18_τ18, w22_τ18]
            have y19_22_τ18 : τ18.2.1 19 (τ18.1 22) = (τ_36.2.1 19) (τ_36.1 22) := by rw [g19_τ18, w22_τ18]
            have y25_22_τ18 : τ18.2.1 25 (τ18.1 22) = (τ_36.2.1 25) (τ_36.1 22) := by rw [g25_τ18, w22_τ18]
            have y26_22_τ18 : τ18.2.1 26 (τ18.1 22) = (τ_36.2.1 26) (τ_36.1 22) := by rw [g26_τ18, w22_τ18]
            have Z4 : τ18.2.1 25 (τ18.1 22) + τ18.2.1 26 (τ18.1 22) = (τ18.1 9) := by rw [show (τ18.2.1 25 (τ18.1 22) + τ18.2.1 26 (τ18.1 22) = (τ18.1 9)) = (τ_36.2.1 25 (τ_36.1 22) + τ_36.2.1 26 (τ_36.1 22) = (τ_36.1 9)) from by rw [w9_τ18, w22_τ18, g25_τ18, g26_τ18]]; exact Z4
            have Y10 : ca (τ18.2.1 28) ((τ18.1 9)) ≤ ca (τ18.2.1 28) (τ18.2.1 25 (τ18.1 22)) + (τ18.1 29) := by rw [show (ca (τ18.2.1 28) ((τ18.1 9)) ≤ ca (τ18.2.1 28) (τ18.2.1 25 (τ18.1 22)) + (τ18.1 29)) = (ca (τ_36.2.1 28) ((τ_36.1 9)) ≤ ca (τ_36.2.1 28) (τ_36.2.1 25 (τ_36.1 22)) + (τ_36.1 29)) from by rw [w9_τ18, w22_τ18, w29_τ18, g25_τ18, g28_τ18]]; exact Y10
            have Y12 : ¬ (τ18.1 28) = 0 → τ18.2.1 25 (τ18.1 22) < (τ18.1 9) ∧ τ18.2.1 28 ((τ18.1 9) - 1) = 0 := by rw [show (¬ (τ18.1 28) = 0 → τ18.2.1 25 (τ18.1 22) < (τ18.1 9) ∧ τ18.2.1 28 ((τ18.1 9) - 1) = 0) = (¬ (τ_36.1 28) = 0 → τ_36.2.1 25 (τ_36.1 22) < (τ_36.1 9) ∧ τ_36.2.1 28 ((τ_36.1 9) - 1) = 0) from by rw [w9_τ18, w22_τ18, w28_τ18, g25_τ18, g28_τ18]]; exact Y12
            have Y13 : j_eq (σ.2.1 25 (σ.1 22)) (σ.2.1 28) (τ18.2.1 28) := by rw [show (j_eq (σ.2.1 25 (σ.1 22)) (σ.2.1 28) (τ18.2.1 28)) = (j_eq (σ.2.1 25 (σ.1 22)) (σ.2.1 28) (τ_36.2.1 28)) from by rw [g28_τ18]]; exact Y13
            have A6 : ∀ j, (-1) ≤ τ18.2.1 6 j ∧ τ18.2.1 6 j ≤ 999 := fun j => hT.2 6 j
            have A7 : ∀ j, (-1) ≤ τ18.2.1 7 j ∧ τ18.2.1 7 j ≤ 1499 := fun j => hT.2 7 j
            have A18 : ∀ j, 0 ≤ τ18.2.1 18 j ∧ τ18.2.1 18 j ≤ 90000 := fun j => hT.2 18 j
            have A19 : ∀ j, 0 ≤ τ18.2.1 19 j ∧ τ18.2.1 19 j ≤ 60 := fun j => hT.2 19 j
            have A25 : ∀ j, 0 ≤ τ18.2.1 25 j ∧ τ18.2.1 25 j ≤ 20000 := fun j => hT.2 25 j
            have A26 : ∀ j, 0 ≤ τ18.2.1 26 j ∧ τ18.2.1 26 j ≤ 20000 := fun j => hT.2 26 j
            have A28 : ∀ j, 0 ≤ τ18.2.1 28 j ∧ τ18.2.1 28 j ≤ 1 := fun j => hT.2 28 j
            have v0 : 0 ≤ τ18.1 0 ∧ τ18.1 0 ≤ 60000 := hT.1 0
            have v3 : 0 ≤ τ18.1 3 ∧ τ18.1 3 ≤ 1000 := hT.1 3
            have v5 : 0 ≤ τ18.1 5 ∧ τ18.1 5 ≤ 1500 := hT.1 5
            have v6 : 0 ≤ τ18.1 6 ∧ τ18.1 6 ≤ 30000 := hT.1 6
            have v7 : 0 ≤ τ18.1 7 ∧ τ18.1 7 ≤ 90000 := hT.1 7
            have v8 : 0 ≤ τ18.1 8 ∧ τ18.1 8 ≤ 20000 := hT.1 8
            have v9 : 0 ≤ τ18.1 9 ∧ τ18.1 9 ≤ 20000 := hT.1 9
            have v16 : 0 ≤ τ18.1 16 ∧ τ18.1 16 ≤ 60000 := hT.1 16
            have v17 : 0 ≤ τ18.1 17 ∧ τ18.1 17 ≤ 60000 := hT.1 17
            have v18 : 0 ≤ τ18.1 18 ∧ τ18.1 18 ≤ 60000 := hT.1 18
            have v19 : (-1) ≤ τ18.1 19 ∧ τ18.1 19 ≤ 125 := hT.1 19
            have v20 : 0 ≤ τ18.1 20 ∧ τ18.1 20 ≤ 19 := hT.1 20
            have v22 : 0 ≤ τ18.1 22 ∧ τ18.1 22 ≤ 1499 := hT.1 22
            have v26 : 0 ≤ τ18.1 26 ∧ τ18.1 26 ≤ 5000010 := hT.1 26
            have v27 : 0 ≤ τ18.1 27 ∧ τ18.1 27 ≤ 1 := hT.1 27
            have v28 : 0 ≤ τ18.1 28 ∧ τ18.1 28 ≤ 1 := hT.1 28
            have v29 : 0 ≤ τ18.1 29 ∧ τ18.1 29 ≤ 300 := hT.1 29
            have a18_22 : 0 ≤ τ18.2.1 18 (τ18.1 22) ∧ τ18.2.1 18 (τ18.1 22) ≤ 90000 := hT.2 18 _
            have a19_22 : 0 ≤ τ18.2.1 19 (τ18.1 22) ∧ τ18.2.1 19 (τ18.1 22) ≤ 60 := hT.2 19 _
            have a25_22 : 0 ≤ τ18.2.1 25 (τ18.1 22) ∧ τ18.2.1 25 (τ18.1 22) ≤ 20000 := hT.2 25 _
            have a26_22 : 0 ≤ τ18.2.1 26 (τ18.1 22) ∧ τ18.2.1 26 (τ18.1 22) ≤ 20000 := hT.2 26 _
            have av9 : σ.1 9 ≤ τ18.1 9 := ag.1 9 (by decide)
            exact ⟨hT, (show (τ18.1 16) ≤ (τ18.1 0) from by (first | omega | (simp only [st_s] <;> omega) | assumption | omega)), (show (τ18.1 17) + (τ18.1 18) ≤ (τ18.1 0) from by (first | omega | (simp only [st_s] <;> omega) | assumption | omega)), (show ¬ (σ.1 20) = 0 → (τ18.1 20) = (σ.1 20) from by (first | omega | (simp only [st_s] <;> omega) | assumption | omega)), (show τ18.2.1 25 (τ18.1 22) + τ18.2.1 26 (τ18.1 22) = (τ18.1 9) from Z4), (show ca (τ18.2.1 28) ((τ18.1 9)) ≤ ca (τ18.2.1 28) (τ18.2.1 25 (τ18.1 22)) + 300 from by omega), (show j_eq (σ.2.1 25 (σ.1 22)) (σ.2.1 28) (τ18.2.1 28) from Y13), (show oc (τ18.2.1 6) < 4096 from by (first | omega | (simp only [st_s] <;> omega) | assumption | omega)), (show oc (τ18.2.1 7) < 4096 from by (first | omega | (simp only [st_s] <;> omega) | assumption | omega)), (show (σ.1 16) ≤ (τ18.1 16) from by (first | omega | (simp only [st_s] <;> omega) | assumption | omega)), ag⟩
      ·
        refine ⟨fun c9 => ?_, fun c9 => ?_⟩
        ·
          refine h124 _ ?_
          refine ⟨fun c14 => ?_, fun c14 => ?_⟩
          ·
            exact ⟨hT, (show (τ_36.1 16) ≤ (τ_36.1 0) from by (first | omega | (simp only [st_s] <;> omega) | assumption | omega)), (show (τ_36.1 17) + (τ_36.1 18) ≤ (τ_36.1 0) from by (first | omega | (simp only [st_s] <;> omega) | assumption | omega)), (show ¬ (σ.1 20) = 0 → (τ_36.1 20) = (σ.1 20) from by (first | omega | (simp only [st_s] <;> omega) | assumption | omega)), (show τ_36.2.1 25 (τ_36.1 22) + τ_36.2.1 26 (τ_36.1 22) = (τ_36.1 9) from Z4), (show ca (τ_36.2.1 28) ((τ_36.1 9)) ≤ ca (τ_36.2.1 28) (τ_36.2.1 25 (τ_36.1 22)) + 300 from by omega), (show j_eq (σ.2.1 25 (σ.1 22)) (σ.2.1 28) (τ_36.2.1 28) from Y13), (show oc (τ_36.2.1 6) < 4096 from by (first | omega | (simp only [st_s] <;> omega) | assumption | omega)), (show oc (τ_36.2.1 7) < 4096 from by (first | omega | (simp only [st_s] <;> omega) | assumption | omega)), (show (σ.1 16) ≤ (τ_36.1 16) from by (first | omega | (simp only [st_s] <;> omega) | assumption | omega)), ag⟩
          ·
            refine ⟨fun c15 => ?_, fun c15 => ?_⟩
            ·
              exact ⟨hT, (show (τ_36.1 16) ≤ (τ_36.1 0) from by (first | omega | (simp only [st_s] <;> omega) | assumption | omega)), (show (τ_36.1 17) + (τ_36.1 18) ≤ (τ_36.1 0) from by (first | omega | (simp only [st_s] <;> omega) | assumption | omega)), (show ¬ (σ.1 20) = 0 → (τ_36.1 20) = (σ.1 20) from by (first | omega | (simp only [st_s] <;> omega) | assumption | omega)), (show τ_36.2.1 25 (τ_36.1 22) + τ_36.2.1 26 (τ_36.1 22) = (τ_36.1 9) from Z4), (show ca (τ_36.2.1 28) ((τ_36.1 9)) ≤ ca (τ_36.2.1 28) (τ_36.2.1 25 (τ_36.1 22)) + 300 from by omega), (show j_eq (σ.2.1 25 (σ.1 22)) (σ.2.1 28) (τ_36.2.1 28) from Y13), (show oc (τ_36.2.1 6) < 4096 from by (first | omega | (simp only [st_s] <;> omega) | assumption | omega)), (show oc (τ_36.2.1 7) < 4096 from by (first | omega | (simp only [st_s] <;> omega) | assumption | omega)), (show (σ.1 16) ≤ (τ_36.1 16) from by (first | omega | (simp only [st_s] <;> omega) | assumption | omega)), ag⟩
            ·
              refine ⟨_, K_X13_failHere hT (show 0 ≤ 14 from by (first | omega | (simp only [st_s] <;> omega) | assumption | omega)) (show 14 ≤ 19 from by (first | omega | (simp only [st_s] <;> omega) | assumption | omega)), ?_⟩
              intro τ18 hn_τ18 hf_τ18 hq
              obtain ⟨hT, q16_1, q16_2⟩ := hq
              replace q16_1 : ¬ (τ_36.1 20) = 0 → (τ18.1 20) = (τ_36.1 20) := q16_1
              replace q16_2 : (τ_36.1 20) = 0 → (τ18.1 20) = 14 := q16_2
              replace ag : m_ag σ τ18 := ag_r ag hf_τ18 rfl rfl
              have w0_τ18 : τ18.1 0 = τ_36.1 0 := hf_τ18.1 0 (by decide)
              have w3_τ18 : τ18.1 3 = τ_36.1 3 := hf_τ18.1 3 (by decide)
              have w5_τ18 : τ18.1 5 = τ_36.1 5 := hf_τ18.1 5 (by decide)
              have w6_τ18 : τ18.1 6 = τ_36.1 6 := hf_τ18.1 6 (by decide)
              have w7_τ18 : τ18.1 7 = τ_36.1 7 := hf_τ18.1 7 (by decide)
              have w8_τ18 : τ18.1 8 = τ_36.1 8 := hf_τ18.1 8 (by decide)
              have w9_τ18 : τ18.1 9 = τ_36.1 9 := hf_τ18.1 9 (by decide)
              have w16_τ18 : τ18.1 16 = τ_36.1 16 := hf_τ18.1 16 (by decide)
              have w17_τ18 : τ18.1 17 = τ_36.1 17 := hf_τ18.1 17 (by decide)
              have w18_τ18 : τ18.1 18 = τ_36.1 18 := hf_τ18.1 18 (by decide)
              have w19_τ18 : τ18.1 19 = τ_36.1 19 := hf_τ18.1 19 (by decide)
              have w22_τ18 : τ18.1 22 = τ_36.1 22 := hf_τ18.1 22 (by decide)
              have w26_τ18 : τ18.1 26 = τ_36.1 26 := hf_τ18.1 26 (by decide)
              have w27_τ18 : τ18.1 27 = τ_36.1 27 := hf_τ18.1 27 (by decide)
              have w28_τ18 : τ18.1 28 = τ_36.1 28 := hf_τ18.1 28 (by decide)
              have w29_τ18 : τ18.1 29 = τ_36.1 29 := hf_τ18.1 29 (by decide)
              have g6_τ18 : τ18.2.1 6 = τ_36.2.1 6 := hf_τ18.2.1 6 (by decide)
              have g7_τ18 : τ18.2.1 7 = τ_36.2.1 7 := hf_τ18.2.1 7 (by decide)
              have g18_τ18 : τ18.2.1 18 = τ_36.2.1 18 := hf_τ18.2.1 18 (by decide)
              have g19_τ18 : τ18.2.1 19 = τ_36.2.1 19 := hf_τ18.2.1 19 (by decide)
              have g25_τ18 : τ18.2.1 25 = τ_36.2.1 25 := hf_τ18.2.1 25 (by decide)
              have g26_τ18 : τ18.2.1 26 = τ_36.2.1 26 := hf_τ18.2.1 26 (by decide)
              have g28_τ18 : τ18.2.1 28 = τ_36.2.1 28 := hf_τ18.2.1 28 (by decide)
              first | (have o6_τ18 := congrArg oc g6_τ18) | skip
              first | (have o7_τ18 := congrArg oc g7_τ18) | skip
              have W0 : τ18.1 0 = σ.1 0 := by omega
              have W3 : τ18.1 3 = σ.1 3 := by omega
              have W5 : τ18.1 5 = σ.1 5 := by omega
              have W6 : τ18.1 6 = σ.1 6 := by omega
              have W7 : τ18.1 7 = σ.1 7 := by omega
              have W8 : τ18.1 8 = σ.1 8 := by omega
              have W22 : τ18.1 22 = σ.1 22 := by omega
              have G6 : τ18.2.1 6 = σ.2.1 6 := (g6_τ18).trans G6
              have G7 : τ18.2.1 7 = σ.2.1 7 := (g7_τ18).trans G7
              have G18 : τ18.2.1 18 = σ.2.1 18 := (g18_τ18).trans G18
              have G19 : τ18.2.1 19 = σ.2.1 19 := (g19_τ18).trans G19
              have G25 : τ18.2.1 25 = σ.2.1 25 := (g25_τ18).trans G25
              have y18_22_τ18 : τ18.2.1 18 (τ18.1 22) = (τ_36.2.1 18) (τ_36.1 22) := by rw [g18_τ18, w22_τ18]
              have y19_22_τ18 : τ18.2.1 19 (τ18.1 22) = (τ_36.2.1 19) (τ_36.1 22) := by rw [g19_τ18, w22_τ18]
              have y25_22_τ18 : τ18.2.1 25 (τ18.1 22) = (τ_36.2.1 25) (τ_36.1 22) := by rw [g25_τ18, w22_τ18]
              have y26_22_τ18 : τ18.2.1 26 (τ18.1 22) = (τ_36.2.1 26) (τ_36.1 22) := by rw [g26_τ18, w22_τ18]
              have Z4 : τ18.2.1 25 (τ18.1 22) + τ18.2.1 26 (τ18.1 22) = (τ18.1 9) := by rw [show (τ18.2.1 25 (τ18.1 22) + τ18.2.1 26 (τ18.1 22) = (τ18.1 9)) = (τ_36.2.1 25 (τ_36.1 22) + τ_36.2.1 26 (τ_36.1 22) = (τ_36.1 9)) from by rw [w9_τ18, w22_τ18, g25_τ18, g26_τ18]]; exact Z4
              have Y10 : ca (τ18.2.1 28) ((τ18.1 9)) ≤ ca (τ18.2.1 28) (τ18.2.1 25 (τ18.1 22)) + (τ18.1 29) := by rw [show (ca (τ18.2.1 28) ((τ18.1 9)) ≤ ca (τ18.2.1 28) (τ18.2.1 25 (τ18.1 22)) + (τ18.1 29)) = (ca (τ_36.2.1 28) ((τ_36.1 9)) ≤ ca (τ_36.2.1 28) (τ_36.2.1 25 (τ_36.1 22)) + (τ_36.1 29)) from by rw [w9_τ18, w22_τ18, w29_τ18, g25_τ18, g28_τ18]]; exact Y10
              have Y12 : ¬ (τ18.1 28) = 0 → τ18.2.1 25 (τ18.1 22) < (τ18.1 9) ∧ τ18.2.1 28 ((τ18.1 9) - 1) = 0 := by rw [show (¬ (τ18.1 28) = 0 → τ18.2.1 25 (τ18.1 22) < (τ18.1 9) ∧ τ18.2.1 28 ((τ18.1 9) - 1) = 0) = (¬ (τ_36.1 28) = 0 → τ_36.2.1 25 (τ_36.1 22) < (τ_36.1 9) ∧ τ_36.2.1 28 ((τ_36.1 9) - 1) = 0) from by rw [w9_τ18, w22_τ18, w28_τ18, g25_τ18, g28_τ18]]; exact Y12
              have Y13 : j_eq (σ.2.1 25 (σ.1 22)) (σ.2.1 28) (τ18.2.1 28) := by rw [show (j_eq (σ.2.1 25 (σ.1 22)) (σ.2.1 28) (τ18.2.1 28)) = (j_eq (σ.2.1 25 (σ.1 22)) (σ.2.1 28) (τ_36.2.1 28)) from by rw [g28_τ18]]; exact Y13
              have A6 : ∀ j, (-1) ≤ τ18.2.1 6 j ∧ τ18.2.1 6 j ≤ 999 := fun j => hT.2 6 j
              have A7 : ∀ j, (-1) ≤ τ18.2.1 7 j ∧ τ18.2.1 7 j ≤ 1499 := fun j => hT.2 7 j
              have A18 : ∀ j, 0 ≤ τ18.2.1 18 j ∧ τ18.2.1 18 j ≤ 90000 := fun j => hT.2 18 j
              have A19 : ∀ j, 0 ≤ τ18.2.1 19 j ∧ τ18.2.1 19 j ≤ 60 := fun j => hT.2 19 j
              have A25 : ∀ j, 0 ≤ τ18.2.1 25 j ∧ τ18.2.1 25 j ≤ 20000 := fun j => hT.2 25 j
              have A26 : ∀ j, 0 ≤ τ18.2.1 26 j ∧ τ18.2.1 26 j ≤ 20000 := fun j => hT.2 26 j
              have A28 : ∀ j, 0 ≤ τ18.2.1 28 j ∧ τ18.2.1 28 j ≤ 1 := fun j => hT.2 28 j
              have v0 : 0 ≤ τ18.1 0 ∧ τ18.1 0 ≤ 60000 := hT.1 0
              have v3 : 0 ≤ τ18.1 3 ∧ τ18.1 3 ≤ 1000 := hT.1 3
              have v5 : 0 ≤ τ18.1 5 ∧ τ18.1 5 ≤ 1500 := hT.1 5
              have v6 : 0 ≤ τ18.1 6 ∧ τ18.1 6 ≤ 30000 := hT.1 6
              have v7 : 0 ≤ τ18.1 7 ∧ τ18.1 7 ≤ 90000 := hT.1 7
              have v8 : 0 ≤ τ18.1 8 ∧ τ18.1 8 ≤ 20000 := hT.1 8
              have v9 : 0 ≤ τ18.1 9 ∧ τ18.1 9 ≤ 20000 := hT.1 9
              have v16 : 0 ≤ τ18.1 16 ∧ τ18.1 16 ≤ 60000 := hT.1 16
              have v17 : 0 ≤ τ18.1 17 ∧ τ18.1 17 ≤ 60000 := hT.1 17
              have v18 : 0 ≤ τ18.1 18 ∧ τ18.1 18 ≤ 60000 := hT.1 18
              have v19 : (-1) ≤ τ18.1 19 ∧ τ18.1 19 ≤ 125 := hT.1 19
              have v20 : 0 ≤ τ18.1 20 ∧ τ18.1 20 ≤ 19 := hT.1 20
              have v22 : 0 ≤ τ18.1 22 ∧ τ18.1 22 ≤ 1499 := hT.1 22
              have v26 : 0 ≤ τ18.1 26 ∧ τ18.1 26 ≤ 5000010 := hT.1 26
              have v27 : 0 ≤ τ18.1 27 ∧ τ18.1 27 ≤ 1 := hT.1 27
              have v28 : 0 ≤ τ18.1 28 ∧ τ18.1 28 ≤ 1 := hT.1 28
              have v29 : 0 ≤ τ18.1 29 ∧ τ18.1 29 ≤ 300 := hT.1 29
              have a18_22 : 0 ≤ τ18.2.1 18 (τ18.1 22) ∧ τ18.2.1 18 (τ18.1 22) ≤ 90000 := hT.2 18 _
              have a19_22 : 0 ≤ τ18.2.1 19 (τ18.1 22) ∧ τ18.2.1 19 (τ18.1 22) ≤ 60 := hT.2 19 _
              have a25_22 : 0 ≤ τ18.2.1 25 (τ18.1 22) ∧ τ18.2.1 25 (τ18.1 22) ≤ 20000 := hT.2 25 _
              have a26_22 : 0 ≤ τ18.2.1 26 (τ18.1 22) ∧ τ18.2.1 26 (τ18.1 22) ≤ 20000 := hT.2 26 _
              have av9 : σ.1 9 ≤ τ18.1 9 := ag.1 9 (by decide)
              exact ⟨hT, (show (τ18.1 16) ≤ (τ18.1 0) from by (first | omega | (simp only [st_s] <;> omega) | assumption | omega)), (show (τ18.1 17) + (τ18.1 18) ≤ (τ18.1 0) from by (first | omega | (simp only [st_s] <;> omega) | assumption | omega)), (show ¬ (σ.1 20) = 0 → (τ18.1 20) = (σ.1 20) from by (first | omega | (simp only [st_s] <;> omega) | assumption | omega)), (show τ18.2.1 25 (τ18.1 22) + τ18.2.1 26 (τ18.1 22) = (τ18.1 9) from Z4), (show ca (τ18.2.1 28) ((τ18.1 9)) ≤ ca (τ18.2.1 28) (τ18.2.1 25 (τ18.1 22)) + 300 from by omega), (show j_eq (σ.2.1 25 (σ.1 22)) (σ.2.1 28) (τ18.2.1 28) from Y13), (show oc (τ18.2.1 6) < 4096 from by (first | omega | (simp only [st_s] <;> omega) | assumption | omega)), (show oc (τ18.2.1 7) < 4096 from by (first | omega | (simp only [st_s] <;> omega) | assumption | omega)), (show (σ.1 16) ≤ (τ18.1 16) from by (first | omega | (simp only [st_s] <;> omega) | assumption | omega)), ag⟩
        ·
          refine ⟨fun c10 => ?_, fun c10 => ?_⟩
          ·
            exact l_68 (((τ_36.1 18) - 0 + 1 : Int).toNat + 1) _ _ (show ((τ_36.1 18) - 0 + 1 : Int) < ((((τ_36.1 18) - 0 + 1 : Int).toNat + 1 : Nat) : Int) from by ((first | omega | (simp only [st_s] <;> omega) | assumption | omega))) hT ag (show τ_36.1 0 = σ.1 0 from by omega) (show τ_36.1 3 = σ.1 3 from by omega) (show τ_36.1 5 = σ.1 5 from by omega) (show τ_36.1 6 = σ.1 6 from by omega) (show τ_36.1 7 = σ.1 7 from by omega) (show τ_36.1 8 = σ.1 8 from by omega) (show τ_36.1 22 = σ.1 22 from by omega) G6 G7 G18 G19 G25 (show (τ_36.1 16) ≤ (τ_36.1 0) from by (first | omega | (simp only [st_s] <;> omega) | assumption | omega)) (show (τ_36.1 17) + (τ_36.1 18) ≤ (τ_36.1 0) from by (first | omega | (simp only [st_s] <;> omega) | assumption | omega)) (show oc (τ_36.2.1 6) < 4096 from by (first | omega | (simp only [st_s] <;> omega) | assumption | omega)) (show oc (τ_36.2.1 7) < 4096 from by (first | omega | (simp only [st_s] <;> omega) | assumption | omega)) (show ¬ (σ.1 20) = 0 → (τ_36.1 20) = (σ.1 20) from by (first | omega | (simp only [st_s] <;> omega) | assumption | omega)) (show τ_36.2.1 25 (τ_36.1 22) + τ_36.2.1 26 (τ_36.1 22) = (τ_36.1 9) from Z4) (show ca (τ_36.2.1 28) ((τ_36.1 9)) ≤ ca (τ_36.2.1 28) (τ_36.2.1 25 (τ_36.1 22)) + (τ_36.1 29) from Y10) (show ¬ (τ_36.1 28) = 0 → τ_36.2.1 25 (τ_36.1 22) < (τ_36.1 9) ∧ τ_36.2.1 28 ((τ_36.1 9) - 1) = 0 from Y12) (show j_eq (σ.2.1 25 (σ.1 22)) (σ.2.1 28) (τ_36.2.1 28) from Y13) (show (τ_36.1 20) = 0 → (τ_36.1 26) ≤ 1000000 from by (first | omega | (simp only [st_s] <;> omega) | assumption | omega)) (show 0 ≤ 0 from by (first | omega | (simp only [st_s] <;> omega) | assumption | omega)) (show 0 ≤ (τ_36.1 18) from by (first | omega | (simp only [st_s] <;> omega) | assumption | omega)) (show 3 * ((τ_36.1 0) - (τ_36.1 16)) + 2 ≤ (m_36 : Int) from by (first | omega | (simp only [st_s] <;> omega) | assumption | omega)) (show (σ.1 16) ≤ (τ_36.1 16) from by (first | omega | (simp only [st_s] <;> omega) | assumption | omega))
          ·
            refine ⟨_, K_X13_failHere hT (show 0 ≤ 4 from by (first | omega | (simp only [st_s] <;> omega) | assumption | omega)) (show 4 ≤ 19 from by (first | omega | (simp only [st_s] <;> omega) | assumption | omega)), ?_⟩
            intro τ13 hn_τ13 hf_τ13 hq
            obtain ⟨hT, q11_1, q11_2⟩ := hq
            replace q11_1 : ¬ (τ_36.1 20) = 0 → (τ13.1 20) = (τ_36.1 20) := q11_1
            replace q11_2 : (τ_36.1 20) = 0 → (τ13.1 20) = 4 := q11_2
            replace ag : m_ag σ τ13 := ag_r ag hf_τ13 rfl rfl
            have w0_τ13 : τ13.1 0 = τ_36.1 0 := hf_τ13.1 0 (by decide)
            have w3_τ13 : τ13.1 3 = τ_36.1 3 := hf_τ13.1 3 (by decide)
            have w5_τ13 : τ13.1 5 = τ_36.1 5 := hf_τ13.1 5 (by decide)
            have w6_τ13 : τ13.1 6 = τ_36.1 6 := hf_τ13.1 6 (by decide)
            have w7_τ13 : τ13.1 7 = τ_36.1 7 := hf_τ13.1 7 (by decide)
            have w8_τ13 : τ13.1 8 = τ_36.1 8 := hf_τ13.1 8 (by decide)
            have w9_τ13 : τ13.1 9 = τ_36.1 9 := hf_τ13.1 9 (by decide)
            have w16_τ13 : τ13.1 16 = τ_36.1 16 := hf_τ13.1 16 (by decide)
            have w17_τ13 : τ13.1 17 = τ_36.1 17 := hf_τ13.1 17 (by decide)
            have w18_τ13 : τ13.1 18 = τ_36.1 18 := hf_τ13.1 18 (by decide)
            have w19_τ13 : τ13.1 19 = τ_36.1 19 := hf_τ13.1 19 (by decide)
            have w22_τ13 : τ13.1 22 = τ_36.1 22 := hf_τ13.1 22 (by decide)
            have w26_τ13 : τ13.1 26 = τ_36.1 26 := hf_τ13.1 26 (by decide)
            have w27_τ13 : τ13.1 27 = τ_36.1 27 := hf_τ13.1 27 (by decide)
            have w28_τ13 : τ13.1 28 = τ_36.1 28 := hf_τ13.1 28 (by decide)
            have w29_τ13 : τ13.1 29 = τ_36.1 29 := hf_τ13.1 29 (by decide)
            have g6_τ13 : τ13.2.1 6 = τ_36.2.1 6 := hf_τ13.2.1 6 (by decide)
            have g7_τ13 : τ13.2.1 7 = τ_36.2.1 7 := hf_τ13.2.1 7 (by decide)
            have g18_τ13 : τ13.2.1 18 = τ_36.2.1 18 := hf_τ13.2.1 18 (by decide)
            have g19_τ13 : τ13.2.1 19 = τ_36.2.1 19 := hf_τ13.2.1 19 (by decide)
            have g25_τ13 : τ13.2.1 25 = τ_36.2.1 25 := hf_τ13.2.1 25 (by decide)
            have g26_τ13 : τ13.2.1 26 = τ_36.2.1 26 := hf_τ13.2.1 26 (by decide)
            have g28_τ13 : τ13.2.1 28 = τ_36.2.1 28 := hf_τ13.2.1 28 (by decide)
            first | (have o6_τ13 := congrArg oc g6_τ13) | skip
            first | (have o7_τ13 := congrArg oc g7_τ13) | skip
            have W0 : τ13.1 0 = σ.1 0 := by omega
            have W3 : τ13.1 3 = σ.1 3 := by omega
            have W5 : τ13.1 5 = σ.1 5 := by omega
            have W6 : τ13.1 6 = σ.1 6 := by omega
            have W7 : τ13.1 7 = σ.1 7 := by omega
            have W8 : τ13.1 8 = σ.1 8 := by omega
            have W22 : τ13.1 22 = σ.1 22 := by omega
            have G6 : τ13.2.1 6 = σ.2.1 6 := (g6_τ13).trans G6
            have G7 : τ13.2.1 7 = σ.2.1 7 := (g7_τ13).trans G7
            have G18 : τ13.2.1 18 = σ.2.1 18 := (g18_τ13).trans G18
            have G19 : τ13.2.1 19 = σ.2.1 19 := (g19_τ13).trans G19
            have G25 : τ13.2.1 25 = σ.2.1 25 := (g25_τ13).trans G25
            have y18_22_τ13 : τ13.2.1 18 (τ13.1 22) = (τ_36.2.1 18) (τ_36.1 22) := by rw [g18_τ13, w22_τ13]
            have y19_22_τ13 : τ13.2.1 19 (τ13.1 22) = (τ_36.2.1 19) (τ_36.1 22) := by rw [g19_τ13, w22_τ13]
            have y25_22_τ13 : τ13.2.1 25 (τ13.1 22) = (τ_36.2.1 25) (τ_36.1 22) := by rw [g25_τ13, w22_τ13]
            have y26_22_τ13 : τ13.2.1 26 (τ13.1 22) = (τ_36.2.1 26) (τ_36.1 22) := by rw [g26_τ13, w22_τ13]
            have Z4 : τ13.2.1 25 (τ13.1 22) + τ13.2.1 26 (τ13.1 22) = (τ13.1 9) := by rw [show (τ13.2.1 25 (τ13.1 22) + τ13.2.1 26 (τ13.1 22) = (τ13.1 9)) = (τ_36.2.1 25 (τ_36.1 22) + τ_36.2.1 26 (τ_36.1 22) = (τ_36.1 9)) from by rw [w9_τ13, w22_τ13, g25_τ13, g26_τ13]]; exact Z4
            have Y10 : ca (τ13.2.1 28) ((τ13.1 9)) ≤ ca (τ13.2.1 28) (τ13.2.1 25 (τ13.1 22)) + (τ13.1 29) := by rw [show (ca (τ13.2.1 28) ((τ13.1 9)) ≤ ca (τ13.2.1 28) (τ13.2.1 25 (τ13.1 22)) + (τ13.1 29)) = (ca (τ_36.2.1 28) ((τ_36.1 9)) ≤ ca (τ_36.2.1 28) (τ_36.2.1 25 (τ_36.1 22)) + (τ_36.1 29)) from by rw [w9_τ13, w22_τ13, w29_τ13, g25_τ13, g28_τ13]]; exact Y10
            have Y12 : ¬ (τ13.1 28) = 0 → τ13.2.1 25 (τ13.1 22) < (τ13.1 9) ∧ τ13.2.1 28 ((τ13.1 9) - 1) = 0 := by rw [show (¬ (τ13.1 28) = 0 → τ13.2.1 25 (τ13.1 22) < (τ13.1 9) ∧ τ13.2.1 28 ((τ13.1 9) - 1) = 0) = (¬ (τ_36.1 28) = 0 → τ_36.2.1 25 (τ_36.1 22) < (τ_36.1 9) ∧ τ_36.2.1 28 ((τ_36.1 9) - 1) = 0) from by rw [w9_τ13, w22_τ13, w28_τ13, g25_τ13, g28_τ13]]; exact Y12
            have Y13 : j_eq (σ.2.1 25 (σ.1 22)) (σ.2.1 28) (τ13.2.1 28) := by rw [show (j_eq (σ.2.1 25 (σ.1 22)) (σ.2.1 28) (τ13.2.1 28)) = (j_eq (σ.2.1 25 (σ.1 22)) (σ.2.1 28) (τ_36.2.1 28)) from by rw [g28_τ13]]; exact Y13
            have A6 : ∀ j, (-1) ≤ τ13.2.1 6 j ∧ τ13.2.1 6 j ≤ 999 := fun j => hT.2 6 j
            have A7 : ∀ j, (-1) ≤ τ13.2.1 7 j ∧ τ13.2.1 7 j ≤ 1499 := fun j => hT.2 7 j
            have A18 : ∀ j, 0 ≤ τ13.2.1 18 j ∧ τ13.2.1 18 j ≤ 90000 := fun j => hT.2 18 j
            have A19 : ∀ j, 0 ≤ τ13.2.1 19 j ∧ τ13.2.1 19 j ≤ 60 := fun j => hT.2 19 j
            have A25 : ∀ j, 0 ≤ τ13.2.1 25 j ∧ τ13.2.1 25 j ≤ 20000 := fun j => hT.2 25 j
            have A26 : ∀ j, 0 ≤ τ13.2.1 26 j ∧ τ13.2.1 26 j ≤ 20000 := fun j => hT.2 26 j
            have A28 : ∀ j, 0 ≤ τ13.2.1 28 j ∧ τ13.2.1 28 j ≤ 1 := fun j => hT.2 28 j
            have v0 : 0 ≤ τ13.1 0 ∧ τ13.1 0 ≤ 60000 := hT.1 0
            have v3 : 0 ≤ τ13.1 3 ∧ τ13.1 3 ≤ 1000 := hT.1 3
            have v5 : 0 ≤ τ13.1 5 ∧ τ13.1 5 ≤ 1500 := hT.1 5
            have v6 : 0 ≤ τ13.1 6 ∧ τ13.1 6 ≤ 30000 := hT.1 6
            have v7 : 0 ≤ τ13.1 7 ∧ τ13.1 7 ≤ 90000 := hT.1 7
            have v8 : 0 ≤ τ13.1 8 ∧ τ13.1 8 ≤ 20000 := hT.1 8
            have v9 : 0 ≤ τ13.1 9 ∧ τ13.1 9 ≤ 20000 := hT.1 9
            have v16 : 0 ≤ τ13.1 16 ∧ τ13.1 16 ≤ 60000 := hT.1 16
            have v17 : 0 ≤ τ13.1 17 ∧ τ13.1 17 ≤ 60000 := hT.1 17
            have v18 : 0 ≤ τ13.1 18 ∧ τ13.1 18 ≤ 60000 := hT.1 18
            have v19 : (-1) ≤ τ13.1 19 ∧ τ13.1 19 ≤ 125 := hT.1 19
            have v20 : 0 ≤ τ13.1 20 ∧ τ13.1 20 ≤ 19 := hT.1 20
            have v22 : 0 ≤ τ13.1 22 ∧ τ13.1 22 ≤ 1499 := hT.1 22
            have v26 : 0 ≤ τ13.1 26 ∧ τ13.1 26 ≤ 5000010 := hT.1 26
            have v27 : 0 ≤ τ13.1 27 ∧ τ13.1 27 ≤ 1 := hT.1 27
            have v28 : 0 ≤ τ13.1 28 ∧ τ13.1 28 ≤ 1 := hT.1 28
            have v29 : 0 ≤ τ13.1 29 ∧ τ13.1 29 ≤ 300 := hT.1 29
            have a18_22 : 0 ≤ τ13.2.1 18 (τ13.1 22) ∧ τ13.2.1 18 (τ13.1 22) ≤ 90000 := hT.2 18 _
            have a19_22 : 0 ≤ τ13.2.1 19 (τ13.1 22) ∧ τ13.2.1 19 (τ13.1 22) ≤ 60 := hT.2 19 _
            have a25_22 : 0 ≤ τ13.2.1 25 (τ13.1 22) ∧ τ13.2.1 25 (τ13.1 22) ≤ 20000 := hT.2 25 _
            have a26_22 : 0 ≤ τ13.2.1 26 (τ13.1 22) ∧ τ13.2.1 26 (τ13.1 22) ≤ 20000 := hT.2 26 _
            have av9 : σ.1 9 ≤ τ13.1 9 := ag.1 9 (by decide)
            exact ⟨hT, (show (τ13.1 16) ≤ (τ13.1 0) from by (first | omega | (simp only [st_s] <;> omega) | assumption | omega)), (show (τ13.1 17) + (τ13.1 18) ≤ (τ13.1 0) from by (first | omega | (simp only [st_s] <;> omega) | assumption | omega)), (show ¬ (σ.1 20) = 0 → (τ13.1 20) = (σ.1 20) from by (first | omega | (simp only [st_s] <;> omega) | assumption | omega)), (show τ13.2.1 25 (τ13.1 22) + τ13.2.1 26 (τ13.1 22) = (τ13.1 9) from Z4), (show ca (τ13.2.1 28) ((τ13.1 9)) ≤ ca (τ13.2.1 28) (τ13.2.1 25 (τ13.1 22)) + 300 from by omega), (show j_eq (σ.2.1 25 (σ.1 22)) (σ.2.1 28) (τ13.2.1 28) from Y13), (show oc (τ13.2.1 6) < 4096 from by (first | omega | (simp only [st_s] <;> omega) | assumption | omega)), (show oc (τ13.2.1 7) < 4096 from by (first | omega | (simp only [st_s] <;> omega) | assumption | omega)), (show (σ.1 16) ≤ (τ13.1 16) from by (first | omega | (simp only [st_s] <;> omega) | assumption | omega)), ag⟩
  refine ⟨_, K_X13_readPackedLabels hT (show (σ.1 16) ≤ (σ.1 0) from by (first | omega | (simp only [st_s] <;> omega) | assumption | omega)) (show (σ.1 17) + (σ.1 18) ≤ (σ.1 0) from by (first | omega | (simp only [st_s] <;> omega) | assumption | omega)) (show oc (σ.2.1 6) < 4096 from by (first | omega | (simp only [st_s] <;> omega) | assumption | omega)) (show oc (σ.2.1 7) < 4096 from by (first | omega | (simp only [st_s] <;> omega) | assumption | omega)) (show σ.2.1 18 (σ.1 22) + σ.2.1 19 (σ.1 22) ≤ 90100 from by (first | omega | (simp only [st_s] <;> omega) | assumption | omega)), ?_⟩
  intro τ3 hn_τ3 hf_τ3 hq
  obtain ⟨hT, q1_1, q1_2, q1_3, q1_4, q1_5, q1_6⟩ := hq
  replace q1_1 : (τ3.1 16) ≤ (τ3.1 0) := q1_1
  replace q1_2 : (τ3.1 17) + (τ3.1 18) ≤ (τ3.1 0) := q1_2
  replace q1_3 : ¬ (σ.1 20) = 0 → (τ3.1 20) = (σ.1 20) := q1_3
  replace q1_4 : oc (τ3.2.1 6) < 4096 := q1_4
  replace q1_5 : oc (τ3.2.1 7) < 4096 := q1_5
  replace q1_6 : (σ.1 16) ≤ (τ3.1 16) := q1_6
  replace ag : m_ag σ τ3 := ag_r ag hf_τ3 rfl rfl
  have w0_τ3 : τ3.1 0 = σ.1 0 := hf_τ3.1 0 (by decide)
  have w3_τ3 : τ3.1 3 = σ.1 3 := hf_τ3.1 3 (by decide)
  have w5_τ3 : τ3.1 5 = σ.1 5 := hf_τ3.1 5 (by decide)
  have w6_τ3 : τ3.1 6 = σ.1 6 := hf_τ3.1 6 (by decide)
  have w7_τ3 : τ3.1 7 = σ.1 7 := hf_τ3.1 7 (by decide)
  have w8_τ3 : τ3.1 8 = σ.1 8 := hf_τ3.1 8 (by decide)
  have w9_τ3 : τ3.1 9 = σ.1 9 := hf_τ3.1 9 (by decide)
  have w22_τ3 : τ3.1 22 = σ.1 22 := hf_τ3.1 22 (by decide)
  have w26_τ3 : τ3.1 26 = σ.1 26 := hf_τ3.1 26 (by decide)
  have w27_τ3 : τ3.1 27 = σ.1 27 := hf_τ3.1 27 (by decide)
  have w28_τ3 : τ3.1 28 = σ.1 28 := hf_τ3.1 28 (by decide)
  have w29_τ3 : τ3.1 29 = σ.1 29 := hf_τ3.1 29 (by decide)
  have g6_τ3 : τ3.2.1 6 = σ.2.1 6 := hf_τ3.2.1 6 (by decide)
  have g7_τ3 : τ3.2.1 7 = σ.2.1 7 := hf_τ3.2.1 7 (by decide)
  have g18_τ3 : τ3.2.1 18 = σ.2.1 18 := hf_τ3.2.1 18 (by decide)
  have g19_τ3 : τ3.2.1 19 = σ.2.1 19 := hf_τ3.2.1 19 (by decide)
  have g25_τ3 : τ3.2.1 25 = σ.2.1 25 := hf_τ3.2.1 25 (by decide)
  have g26_τ3 : τ3.2.1 26 = σ.2.1 26 := hf_τ3.2.1 26 (by decide)
  have g28_τ3 : τ3.2.1 28 = σ.2.1 28 := hf_τ3.2.1 28 (by decide)
  first | (have o6_τ3 := congrArg oc g6_τ3) | skip
  first | (have o7_τ3 := congrArg oc g7_τ3) | skip
  have W0 : τ3.1 0 = σ.1 0 := by omega
  have W3 : τ3.1 3 = σ.1 3 := by omega
  have W5 : τ3.1 5 = σ.1 5 := by omega
  have W6 : τ3.1 6 = σ.1 6 := by omega
  have W7 : τ3.1 7 = σ.1 7 := by omega
  have W8 : τ3.1 8 = σ.1 8 := by omega
  have W22 : τ3.1 22 = σ.1 22 := by omega
  have G6 : τ3.2.1 6 = σ.2.1 6 := (g6_τ3).trans G6
  have G7 : τ3.2.1 7 = σ.2.1 7 := (g7_τ3).trans G7
  have G18 : τ3.2.1 18 = σ.2.1 18 := (g18_τ3).trans G18
  have G19 : τ3.2.1 19 = σ.2.1 19 := (g19_τ3).trans G19
  have G25 : τ3.2.1 25 = σ.2.1 25 := (g25_τ3).trans G25
  have y18_22_τ3 : τ3.2.1 18 (τ3.1 22) = (σ.2.1 18) (σ.1 22) := by rw [g18_τ3, w22_τ3]
  have y19_22_τ3 : τ3.2.1 19 (τ3.1 22) = (σ.2.1 19) (σ.1 22) := by rw [g19_τ3, w22_τ3]
  have y25_22_τ3 : τ3.2.1 25 (τ3.1 22) = (σ.2.1 25) (σ.1 22) := by rw [g25_τ3, w22_τ3]
  have y26_22_τ3 : τ3.2.1 26 (τ3.1 22) = (σ.2.1 26) (σ.1 22) := by rw [g26_τ3, w22_τ3]
  have Z4 : τ3.2.1 25 (τ3.1 22) + τ3.2.1 26 (τ3.1 22) = (τ3.1 9) := by rw [show (τ3.2.1 25 (τ3.1 22) + τ3.2.1 26 (τ3.1 22) = (τ3.1 9)) = (σ.2.1 25 (σ.1 22) + σ.2.1 26 (σ.1 22) = (σ.1 9)) from by rw [w9_τ3, w22_τ3, g25_τ3, g26_τ3]]; exact Z4
  have Y13 : j_eq (σ.2.1 25 (σ.1 22)) (σ.2.1 28) (τ3.2.1 28) := by rw [show (j_eq (σ.2.1 25 (σ.1 22)) (σ.2.1 28) (τ3.2.1 28)) = (j_eq (σ.2.1 25 (σ.1 22)) (σ.2.1 28) (σ.2.1 28)) from by rw [g28_τ3]]; exact Y13
  have Y14 : ca (τ3.2.1 28) ((τ3.1 9)) ≤ ca (τ3.2.1 28) (τ3.2.1 25 (τ3.1 22)) + 300 := by rw [show (ca (τ3.2.1 28) ((τ3.1 9)) ≤ ca (τ3.2.1 28) (τ3.2.1 25 (τ3.1 22)) + 300) = (ca (σ.2.1 28) ((σ.1 9)) ≤ ca (σ.2.1 28) (σ.2.1 25 (σ.1 22)) + 300) from by rw [w9_τ3, w22_τ3, g25_τ3, g28_τ3]]; exact Y14
  have A6 : ∀ j, (-1) ≤ τ3.2.1 6 j ∧ τ3.2.1 6 j ≤ 999 := fun j => hT.2 6 j
  have A7 : ∀ j, (-1) ≤ τ3.2.1 7 j ∧ τ3.2.1 7 j ≤ 1499 := fun j => hT.2 7 j
  have A18 : ∀ j, 0 ≤ τ3.2.1 18 j ∧ τ3.2.1 18 j ≤ 90000 := fun j => hT.2 18 j
  have A19 : ∀ j, 0 ≤ τ3.2.1 19 j ∧ τ3.2.1 19 j ≤ 60 := fun j => hT.2 19 j
  have A25 : ∀ j, 0 ≤ τ3.2.1 25 j ∧ τ3.2.1 25 j ≤ 20000 := fun j => hT.2 25 j
  have A26 : ∀ j, 0 ≤ τ3.2.1 26 j ∧ τ3.2.1 26 j ≤ 20000 := fun j => hT.2 26 j
  have A28 : ∀ j, 0 ≤ τ3.2.1 28 j ∧ τ3.2.1 28 j ≤ 1 := fun j => hT.2 28 j
  have v0 : 0 ≤ τ3.1 0 ∧ τ3.1 0 ≤ 60000 := hT.1 0
  have v3 : 0 ≤ τ3.1 3 ∧ τ3.1 3 ≤ 1000 := hT.1 3
  have v5 : 0 ≤ τ3.1 5 ∧ τ3.1 5 ≤ 1500 := hT.1 5
  have v6 : 0 ≤ τ3.1 6 ∧ τ3.1 6 ≤ 30000 := hT.1 6
  have v7 : 0 ≤ τ3.1 7 ∧ τ3.1 7 ≤ 90000 := hT.1 7
  have v8 : 0 ≤ τ3.1 8 ∧ τ3.1 8 ≤ 20000 := hT.1 8
  have v9 : 0 ≤ τ3.1 9 ∧ τ3.1 9 ≤ 20000 := hT.1 9
  have v16 : 0 ≤ τ3.1 16 ∧ τ3.1 16 ≤ 60000 := hT.1 16
  have v17 : 0 ≤ τ3.1 17 ∧ τ3.1 17 ≤ 60000 := hT.1 17
  have v18 : 0 ≤ τ3.1 18 ∧ τ3.1 18 ≤ 60000 := hT.1 18
  have v19 : (-1) ≤ τ3.1 19 ∧ τ3.1 19 ≤ 125 := hT.1 19
  have v20 : 0 ≤ τ3.1 20 ∧ τ3.1 20 ≤ 19 := hT.1 20
  have v22 : 0 ≤ τ3.1 22 ∧ τ3.1 22 ≤ 1499 := hT.1 22
  have v26 : 0 ≤ τ3.1 26 ∧ τ3.1 26 ≤ 5000010 := hT.1 26
  have v27 : 0 ≤ τ3.1 27 ∧ τ3.1 27 ≤ 1 := hT.1 27
  have v28 : 0 ≤ τ3.1 28 ∧ τ3.1 28 ≤ 1 := hT.1 28
  have v29 : 0 ≤ τ3.1 29 ∧ τ3.1 29 ≤ 300 := hT.1 29
  have a18_22 : 0 ≤ τ3.2.1 18 (τ3.1 22) ∧ τ3.2.1 18 (τ3.1 22) ≤ 90000 := hT.2 18 _
  have a19_22 : 0 ≤ τ3.2.1 19 (τ3.1 22) ∧ τ3.2.1 19 (τ3.1 22) ≤ 60 := hT.2 19 _
  have a25_22 : 0 ≤ τ3.2.1 25 (τ3.1 22) ∧ τ3.2.1 25 (τ3.1 22) ≤ 20000 := hT.2 25 _
  have a26_22 : 0 ≤ τ3.2.1 26 (τ3.1 22) ∧ τ3.2.1 26 (τ3.1 22) ≤ 20000 := hT.2 26 _
  have av9 : σ.1 9 ≤ τ3.1 9 := ag.1 9 (by decide)
  refine ⟨fun c4 => ?_, fun c4 => ?_⟩
  ·
    replace ag := ag_v (i := 26) (x := 0) ag (Or.inl rfl)
    replace hT := mT_v (i := 26) hT (show (0 : Int) ≤ 0 ∧ 0 ≤ 5000010 from by (first | omega | (simp only [st_s] <;> omega) | assumption | omega))
    replace ag := ag_v (i := 27) (x := 0) ag (Or.inl rfl)
    replace hT := mT_v (i := 27) hT (show (0 : Int) ≤ 0 ∧ 0 ≤ 1 from by (first | omega | (simp only [st_s] <;> omega) | assumption | omega))
    replace ag := ag_v (i := 28) (x := 0) ag (Or.inl rfl)
    replace hT := mT_v (i := 28) hT (show (0 : Int) ≤ 0 ∧ 0 ≤ 1 from by (first | omega | (simp only [st_s] <;> omega) | assumption | omega))
    replace ag := ag_v (i := 29) (x := 0) ag (Or.inl rfl)
    replace hT := mT_v (i := 29) hT (show (0 : Int) ≤ 0 ∧ 0 ≤ 300 from by (first | omega | (simp only [st_s] <;> omega) | assumption | omega))
    refine ⟨_, K_X13_next hT (show (τ3.1 16) ≤ (τ3.1 0) from by (first | omega | (simp only [st_s] <;> omega) | assumption | omega)), ?_⟩
    intro τ7 hn_τ7 hf_τ7 hq
    obtain ⟨hT, q5_1, q5_2, q5_3, q5_4, q5_5⟩ := hq
    replace q5_1 : (τ7.1 16) ≤ (τ7.1 0) := q5_1
    replace q5_2 : (τ7.1 17) + (τ7.1 18) ≤ (τ7.1 0) := q5_2
    replace q5_3 : (τ3.1 16) ≤ (τ7.1 16) := q5_3
    replace q5_4 : ¬ (τ3.1 20) = 0 → (τ7.1 20) = (τ3.1 20) := q5_4
    replace q5_5 : (τ7.1 20) = 0 → ¬ (τ7.1 19) = 0 → (τ3.1 16) < (τ7.1 16) ∧ 0 < (τ7.1 18) := q5_5
    replace ag : m_ag σ τ7 := ag_r ag hf_τ7 rfl rfl
    have w0_τ7 : τ7.1 0 = τ3.1 0 := hf_τ7.1 0 (by decide)
    have w3_τ7 : τ7.1 3 = τ3.1 3 := hf_τ7.1 3 (by decide)
    have w5_τ7 : τ7.1 5 = τ3.1 5 := hf_τ7.1 5 (by decide)
    have w6_τ7 : τ7.1 6 = τ3.1 6 := hf_τ7.1 6 (by decide)
    have w7_τ7 : τ7.1 7 = τ3.1 7 := hf_τ7.1 7 (by decide)
    have w8_τ7 : τ7.1 8 = τ3.1 8 := hf_τ7.1 8 (by decide)
    have w9_τ7 : τ7.1 9 = τ3.1 9 := hf_τ7.1 9 (by decide)
    have w22_τ7 : τ7.1 22 = τ3.1 22 := hf_τ7.1 22 (by decide)
    have w26_τ7 : τ7.1 26 = 0 := hf_τ7.1 26 (by decide)
    have w27_τ7 : τ7.1 27 = 0 := hf_τ7.1 27 (by decide)
    have w28_τ7 : τ7.1 28 = 0 := hf_τ7.1 28 (by decide)
    have w29_τ7 : τ7.1 29 = 0 := hf_τ7.1 29 (by decide)
    have g6_τ7 : τ7.2.1 6 = τ3.2.1 6 := hf_τ7.2.1 6 (by decide)
    have g7_τ7 : τ7.2.1 7 = τ3.2.1 7 := hf_τ7.2.1 7 (by decide)
    have g18_τ7 : τ7.2.1 18 = τ3.2.1 18 := hf_τ7.2.1 18 (by decide)
    have g19_τ7 : τ7.2.1 19 = τ3.2.1 19 := hf_τ7.2.1 19 (by decide)
    have g25_τ7 : τ7.2.1 25 = τ3.2.1 25 := hf_τ7.2.1 25 (by decide)
    have g26_τ7 : τ7.2.1 26 = τ3.2.1 26 := hf_τ7.2.1 26 (by decide)
    have g28_τ7 : τ7.2.1 28 = τ3.2.1 28 := hf_τ7.2.1 28 (by decide)
    first | (have o6_τ7 := congrArg oc g6_τ7) | skip
    first | (have o7_τ7 := congrArg oc g7_τ7) | skip
    have W0 : τ7.1 0 = σ.1 0 := by omega
    have W3 : τ7.1 3 = σ.1 3 := by omega
    have W5 : τ7.1 5 = σ.1 5 := by omega
    have W6 : τ7.1 6 = σ.1 6 := by omega
    have W7 : τ7.1 7 = σ.1 7 := by omega
    have W8 : τ7.1 8 = σ.1 8 := by omega
    have W22 : τ7.1 22 = σ.1 22 := by omega
    have G6 : τ7.2.1 6 = σ.2.1 6 := (g6_τ7).trans G6
    have G7 : τ7.2.1 7 = σ.2.1 7 := (g7_τ7).trans G7
    have G18 : τ7.2.1 18 = σ.2.1 18 := (g18_τ7).trans G18
    have G19 : τ7.2.1 19 = σ.2.1 19 := (g19_τ7).trans G19
    have G25 : τ7.2.1 25 = σ.2.1 25 := (g25_τ7).trans G25
    have y18_22_τ7 : τ7.2.1 18 (τ7.1 22) = (τ3.2.1 18) (τ3.1 22) := by rw [g18_τ7, w22_τ7]
    have y19_22_τ7 : τ7.2.1 19 (τ7.1 22) = (τ3.2.1 19) (τ3.1 22) := by rw [g19_τ7, w22_τ7]
    have y25_22_τ7 : τ7.2.1 25 (τ7.1 22) = (τ3.2.1 25) (τ3.1 22) := by rw [g25_τ7, w22_τ7]
    have y26_22_τ7 : τ7.2.1 26 (τ7.1 22) = (τ3.2.1 26) (τ3.1 22) := by rw [g26_τ7, w22_τ7]
    have Z4 : τ7.2.1 25 (τ7.1 22) + τ7.2.1 26 (τ7.1 22) = (τ7.1 9) := by rw [show (τ7.2.1 25 (τ7.1 22) + τ7.2.1 26 (τ7.1 22) = (τ7.1 9)) = (τ3.2.1 25 (τ3.1 22) + τ3.2.1 26 (τ3.1 22) = (τ3.1 9)) from by rw [w9_τ7, w22_τ7, g25_τ7, g26_τ7]]; exact Z4
    have Y13 : j_eq (σ.2.1 25 (σ.1 22)) (σ.2.1 28) (τ7.2.1 28) := by rw [show (j_eq (σ.2.1 25 (σ.1 22)) (σ.2.1 28) (τ7.2.1 28)) = (j_eq (σ.2.1 25 (σ.1 22)) (σ.2.1 28) (τ3.2.1 28)) from by rw [g28_τ7]]; exact Y13
    have Y14 : ca (τ7.2.1 28) ((τ7.1 9)) ≤ ca (τ7.2.1 28) (τ7.2.1 25 (τ7.1 22)) + 300 := by rw [show (ca (τ7.2.1 28) ((τ7.1 9)) ≤ ca (τ7.2.1 28) (τ7.2.1 25 (τ7.1 22)) + 300) = (ca (τ3.2.1 28) ((τ3.1 9)) ≤ ca (τ3.2.1 28) (τ3.2.1 25 (τ3.1 22)) + 300) from by rw [w9_τ7, w22_τ7, g25_τ7, g28_τ7]]; exact Y14
    have A6 : ∀ j, (-1) ≤ τ7.2.1 6 j ∧ τ7.2.1 6 j ≤ 999 := fun j => hT.2 6 j
    have A7 : ∀ j, (-1) ≤ τ7.2.1 7 j ∧ τ7.2.1 7 j ≤ 1499 := fun j => hT.2 7 j
    have A18 : ∀ j, 0 ≤ τ7.2.1 18 j ∧ τ7.2.1 18 j ≤ 90000 := fun j => hT.2 18 j
    have A19 : ∀ j, 0 ≤ τ7.2.1 19 j ∧ τ7.2.1 19 j ≤ 60 := fun j => hT.2 19 j
    have A25 : ∀ j, 0 ≤ τ7.2.1 25 j ∧ τ7.2.1 25 j ≤ 20000 := fun j => hT.2 25 j
    have A26 : ∀ j, 0 ≤ τ7.2.1 26 j ∧ τ7.2.1 26 j ≤ 20000 := fun j => hT.2 26 j
    have A28 : ∀ j, 0 ≤ τ7.2.1 28 j ∧ τ7.2.1 28 j ≤ 1 := fun j => hT.2 28 j
    have v0 : 0 ≤ τ7.1 0 ∧ τ7.1 0 ≤ 60000 := hT.1 0
    have v3 : 0 ≤ τ7.1 3 ∧ τ7.1 3 ≤ 1000 := hT.1 3
    have v5 : 0 ≤ τ7.1 5 ∧ τ7.1 5 ≤ 1500 := hT.1 5
    have v6 : 0 ≤ τ7.1 6 ∧ τ7.1 6 ≤ 30000 := hT.1 6
    have v7 : 0 ≤ τ7.1 7 ∧ τ7.1 7 ≤ 90000 := hT.1 7
    have v8 : 0 ≤ τ7.1 8 ∧ τ7.1 8 ≤ 20000 := hT.1 8
    have v9 : 0 ≤ τ7.1 9 ∧ τ7.1 9 ≤ 20000 := hT.1 9
    have v16 : 0 ≤ τ7.1 16 ∧ τ7.1 16 ≤ 60000 := hT.1 16
    have v17 : 0 ≤ τ7.1 17 ∧ τ7.1 17 ≤ 60000 := hT.1 17
    have v18 : 0 ≤ τ7.1 18 ∧ τ7.1 18 ≤ 60000 := hT.1 18
    have v19 : (-1) ≤ τ7.1 19 ∧ τ7.1 19 ≤ 125 := hT.1 19
    have v20 : 0 ≤ τ7.1 20 ∧ τ7.1 20 ≤ 19 := hT.1 20
    have v22 : 0 ≤ τ7.1 22 ∧ τ7.1 22 ≤ 1499 := hT.1 22
    have v26 : 0 ≤ τ7.1 26 ∧ τ7.1 26 ≤ 5000010 := hT.1 26
    have v27 : 0 ≤ τ7.1 27 ∧ τ7.1 27 ≤ 1 := hT.1 27
    have v28 : 0 ≤ τ7.1 28 ∧ τ7.1 28 ≤ 1 := hT.1 28
    have v29 : 0 ≤ τ7.1 29 ∧ τ7.1 29 ≤ 300 := hT.1 29
    have a18_22 : 0 ≤ τ7.2.1 18 (τ7.1 22) ∧ τ7.2.1 18 (τ7.1 22) ≤ 90000 := hT.2 18 _
    have a19_22 : 0 ≤ τ7.2.1 19 (τ7.1 22) ∧ τ7.2.1 19 (τ7.1 22) ≤ 60 := hT.2 19 _
    have a25_22 : 0 ≤ τ7.2.1 25 (τ7.1 22) ∧ τ7.2.1 25 (τ7.1 22) ≤ 20000 := hT.2 25 _
    have a26_22 : 0 ≤ τ7.2.1 26 (τ7.1 22) ∧ τ7.2.1 26 (τ7.1 22) ≤ 20000 := hT.2 26 _
    have av9 : σ.1 9 ≤ τ7.1 9 := ag.1 9 (by decide)
    have Y10 : ca (τ7.2.1 28) (τ7.1 9) ≤ ca (τ7.2.1 28) (τ7.2.1 25 (τ7.1 22)) + τ7.1 29 := by rw [show τ7.2.1 25 (τ7.1 22) = τ7.1 9 from by omega]; omega
    have Y12 : ¬ τ7.1 28 = 0 → τ7.2.1 25 (τ7.1 22) < τ7.1 9 ∧ τ7.2.1 28 (τ7.1 9 - 1) = 0 := fun z => by omega
    exact l_36 ((3 * ((τ7.1 0) - (τ7.1 16)) + z_0 ((τ7.1 20)) + 1 - z_0 ((τ7.1 19)) : Int).toNat + 1) _ (show (3 * ((τ7.1 0) - (τ7.1 16)) + z_0 ((τ7.1 20)) + 1 - z_0 ((τ7.1 19)) : Int) < (((3 * ((τ7.1 0) - (τ7.1 16)) + z_0 ((τ7.1 20)) + 1 - z_0 ((τ7.1 19)) : Int).toNat + 1 : Nat) : Int) from by (have zz0 := z_e ((τ7.1 20)); have zz1 := z_e ((τ7.1 19)); (first | omega | (simp only [st_s] <;> omega) | assumption | omega))) hT ag (show τ7.1 0 = σ.1 0 from by omega) (show τ7.1 3 = σ.1 3 from by omega) (show τ7.1 5 = σ.1 5 from by omega) (show τ7.1 6 = σ.1 6 from by omega) (show τ7.1 7 = σ.1 7 from by omega) (show τ7.1 8 = σ.1 8 from by omega) (show τ7.1 22 = σ.1 22 from by omega) G6 G7 G18 G19 G25 (show (τ7.1 16) ≤ (τ7.1 0) from by (first | omega | (simp only [st_s] <;> omega) | assumption | omega)) (show (τ7.1 17) + (τ7.1 18) ≤ (τ7.1 0) from by (first | omega | (simp only [st_s] <;> omega) | assumption | omega)) (show oc (τ7.2.1 6) < 4096 from by (first | omega | (simp only [st_s] <;> omega) | assumption | omega)) (show oc (τ7.2.1 7) < 4096 from by (first | omega | (simp only [st_s] <;> omega) | assumption | omega)) (show ¬ (σ.1 20) = 0 → (τ7.1 20) = (σ.1 20) from by (first | omega | (simp only [st_s] <;> omega) | assumption | omega)) (show τ7.2.1 25 (τ7.1 22) + τ7.2.1 26 (τ7.1 22) = (τ7.1 9) from Z4) (show ca (τ7.2.1 28) ((τ7.1 9)) ≤ ca (τ7.2.1 28) (τ7.2.1 25 (τ7.1 22)) + (τ7.1 29) from Y10) (show ¬ (τ7.1 28) = 0 → τ7.2.1 25 (τ7.1 22) < (τ7.1 9) ∧ τ7.2.1 28 ((τ7.1 9) - 1) = 0 from Y12) (show j_eq (σ.2.1 25 (σ.1 22)) (σ.2.1 28) (τ7.2.1 28) from Y13) (show (τ7.1 20) = 0 → (τ7.1 26) ≤ 1000000 from by (first | omega | (simp only [st_s] <;> omega) | assumption | omega)) (show (σ.1 16) ≤ (τ7.1 16) from by (first | omega | (simp only [st_s] <;> omega) | assumption | omega))
  ·
    exact ⟨hT, (show (τ3.1 16) ≤ (τ3.1 0) from by (first | omega | (simp only [st_s] <;> omega) | assumption | omega)), (show (τ3.1 17) + (τ3.1 18) ≤ (τ3.1 0) from by (first | omega | (simp only [st_s] <;> omega) | assumption | omega)), (show ¬ (σ.1 20) = 0 → (τ3.1 20) = (σ.1 20) from by (first | omega | (simp only [st_s] <;> omega) | assumption | omega)), (show τ3.2.1 25 (τ3.1 22) + τ3.2.1 26 (τ3.1 22) = (τ3.1 9) from Z4), (show ca (τ3.2.1 28) ((τ3.1 9)) ≤ ca (τ3.2.1 28) (τ3.2.1 25 (τ3.1 22)) + 300 from Y14), (show j_eq (σ.2.1 25 (σ.1 22)) (σ.2.1 28) (τ3.2.1 28) from Y13), (show oc (τ3.2.1 6) < 4096 from by (first | omega | (simp only [st_s] <;> omega) | assumption | omega)), (show oc (τ3.2.1 7) < 4096 from by (first | omega | (simp only [st_s] <;> omega) | assumption | omega)), (show (σ.1 16) ≤ (τ3.1 16) from by (first | omega | (simp only [st_s] <;> omega) | assumption | omega)), ag⟩
