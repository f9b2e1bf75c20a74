-- pure: the model reads tokens of statements
set_option maxHeartbeats 1000000 in
theorem K_X13_readSymbols {n1 : Int} {σ : S0} (hT : m_T σ) (p1 : (σ.1 16) ≤ (σ.1 0)) (p2 : (σ.1 17) + (σ.1 18) ≤ (σ.1 0)) (p3 : oc (σ.2.1 6) < 4096) (p4 : oc (σ.2.1 7) < 4096) (p5 : σ.2.1 15 (σ.1 22) = 0) (p6 : (σ.1 22) = (σ.1 5)) (p7 : σ.2.1 14 (σ.1 22) + σ.2.1 15 (σ.1 22) = (σ.1 6)) (p8 : ca (σ.2.1 12) ((σ.1 3)) ≤ (σ.1 4)) : W_X13_readSymbols n1 σ (fun (τ : S0) => (m_T τ) ∧ ((τ.1 16) ≤ (τ.1 0)) ∧ ((τ.1 17) + (τ.1 18) ≤ (τ.1 0)) ∧ (¬ (σ.1 20) = 0 → (τ.1 20) = (σ.1 20)) ∧ (τ.2.1 14 (τ.1 22) + τ.2.1 15 (τ.1 22) = (τ.1 6)) ∧ (ca (τ.2.1 12) ((τ.1 3)) ≤ (τ.1 4)) ∧ ((τ.1 20) = 0 → 1 ≤ τ.2.1 15 (τ.1 22)) ∧ ((σ.1 16) ≤ (τ.1 16)) ∧ (m_ag σ τ)) := by
  have A6 : ∀ j, (-1) ≤ σ.2.1 6 j ∧ σ.2.1 6 j ≤ 999 := fun j => hT.2 6 j
  have A7 : ∀ j, (-1) ≤ σ.2.1 7 j ∧ σ.2.1 7 j ≤ 1499 := fun j => hT.2 7 j
  have A12 : ∀ j, 0 ≤ σ.2.1 12 j ∧ σ.2.1 12 j ≤ 1 := fun j => hT.2 12 j
  have A14 : ∀ j, 0 ≤ σ.2.1 14 j ∧ σ.2.1 14 j ≤ 30000 := fun j => hT.2 14 j
  have A15 : ∀ j, 0 ≤ σ.2.1 15 j ∧ σ.2.1 15 j ≤ 300 := fun j => hT.2 15 j
  have v0 : 0 ≤ σ.1 0 ∧ σ.1 0 ≤ 60000 := hT.1 0
  have v3 : 0 ≤ σ.1 3 ∧ σ.1 3 ≤ 1000 := hT.1 3
  have v4 : 0 ≤ σ.1 4 ∧ σ.1 4 ≤ 100 := hT.1 4
  have v5 : 0 ≤ σ.1 5 ∧ σ.1 5 ≤ 1500 := hT.1 5
  have v6 : 0 ≤ σ.1 6 ∧ σ.1 6 ≤ 30000 := hT.1 6
  have v7 : 0 ≤ σ.1 7 ∧ σ.1 7 ≤ 90000 := hT.1 7
  have v8 : 0 ≤ σ.1 8 ∧ σ.1 8 ≤ 20000 := hT.1 8
  have v9 : 0 ≤ σ.1 9 ∧ σ.1 9 ≤ 20000 := hT.1 9
  have v16 : 0 ≤ σ.1 16 ∧ σ.1 16 ≤ 60000 := hT.1 16
  have v17 : 0 ≤ σ.1 17 ∧ σ.1 17 ≤ 60000 := hT.1 17
  have v18 : 0 ≤ σ.1 18 ∧ σ.1 18 ≤ 60000 := hT.1 18
  have v19 : (-1) ≤ σ.1 19 ∧ σ.1 19 ≤ 125 := hT.1 19
  have v20 : 0 ≤ σ.1 20 ∧ σ.1 20 ≤ 19 := hT.1 20
  have v22 : 0 ≤ σ.1 22 ∧ σ.1 22 ≤ 1499 := hT.1 22
  have a14_22 : 0 ≤ σ.2.1 14 (σ.1 22) ∧ σ.2.1 14 (σ.1 22) ≤ 30000 := hT.2 14 _
  have a15_22 : 0 ≤ σ.2.1 15 (σ.1 22) ∧ σ.2.1 15 (σ.1 22) ≤ 300 := hT.2 15 _
  have W0 : σ.1 0 = σ.1 0 := rfl
  have W3 : σ.1 3 = σ.1 3 := rfl
  have W5 : σ.1 5 = σ.1 5 := rfl
  have W7 : σ.1 7 = σ.1 7 := rfl
  have W8 : σ.1 8 = σ.1 8 := rfl
  have W9 : σ.1 9 = σ.1 9 := rfl
  have W22 : σ.1 22 = σ.1 22 := rfl
  have G6 : σ.2.1 6 = σ.2.1 6 := rfl
  have G7 : σ.2.1 7 = σ.2.1 7 := rfl
  have G14 : σ.2.1 14 = σ.2.1 14 := rfl
  have ag : m_ag σ σ := ag_0 σ
  intro P15 P26 P85 P116 P125 P153 P174 h15 h26 h85 h116 h125 h153 h174
  have Z1 : σ.2.1 14 (σ.1 22) + σ.2.1 15 (σ.1 22) = (σ.1 6) := p7
  have Y20 : ca (σ.2.1 12) ((σ.1 3)) ≤ (σ.1 4) := p8
  have l_26 : ∀ (m_26 : Nat) (τ_26 : S0), 3 * ((τ_26.1 0) - (τ_26.1 16)) + z_0 ((τ_26.1 20)) + 1 - z_0 ((τ_26.1 19)) < (m_26 : Int) → (m_T τ_26) → (m_ag σ τ_26) → (τ_26.1 0 = σ.1 0) → (τ_26.1 3 = σ.1 3) → (τ_26.1 5 = σ.1 5) → (τ_26.1 7 = σ.1 7) → (τ_26.1 8 = σ.1 8) → (τ_26.1 9 = σ.1 9) → (τ_26.1 22 = σ.1 22) → (τ_26.2.1 6 = σ.2.1 6) → (τ_26.2.1 7 = σ.2.1 7) → (τ_26.2.1 14 = σ.2.1 14) → ((τ_26.1 16) ≤ (τ_26.1 0)) → ((τ_26.1 17) + (τ_26.1 18) ≤ (τ_26.1 0)) → (oc (τ_26.2.1 6) < 4096) → (oc (τ_26.2.1 7) < 4096) → (¬ (σ.1 20) = 0 → (τ_26.1 20) = (σ.1 20)) → (τ_26.2.1 14 (τ_26.1 22) + τ_26.2.1 15 (τ_26.1 22) = (τ_26.1 6)) → (ca (τ_26.2.1 12) ((τ_26.1 3)) ≤ (τ_26.1 4)) → ((τ_26.1 20) = 0 → 1 ≤ τ_26.2.1 15 (τ_26.1 22)) → ((σ.1 16) ≤ (τ_26.1 16)) → P26 n1 τ_26 := by
    intro m_26
    induction m_26 with
    | zero =>
      intro τ_26 hm hT ag W0 W3 W5 W7 W8 W9 W22 G6 G7 G14 i26_1 i26_2 i26_3 i26_4 i26_5 i26_6 i26_7 i26_8 i26_9
      have A6 : ∀ j, (-1) ≤ τ_26.2.1 6 j ∧ τ_26.2.1 6 j ≤ 999 := fun j => hT.2 6 j
      have A7 : ∀ j, (-1) ≤ τ_26.2.1 7 j ∧ τ_26.2.1 7 j ≤ 1499 := fun j => hT.2 7 j
      have A12 : ∀ j, 0 ≤ τ_26.2.1 12 j ∧ τ_26.2.1 12 j ≤ 1 := fun j => hT.2 12 j
      have A14 : ∀ j, 0 ≤ τ_26.2.1 14 j ∧ τ_26.2.1 14 j ≤ 30000 := fun j => hT.2 14 j
      have A15 : ∀ j, 0 ≤ τ_26.2.1 15 j ∧ τ_26.2.1 15 j ≤ 300 := fun j => hT.2 15 j
      have v0 : 0 ≤ τ_26.1 0 ∧ τ_26.1 0 ≤ 60000 := hT.1 0
      have v3 : 0 ≤ τ_26.1 3 ∧ τ_26.1 3 ≤ 1000 := hT.1 3
      have v4 : 0 ≤ τ_26.1 4 ∧ τ_26.1 4 ≤ 100 := hT.1 4
      have v5 : 0 ≤ τ_26.1 5 ∧ τ_26.1 5 ≤ 1500 := hT.1 5
      have v6 : 0 ≤ τ_26.1 6 ∧ τ_26.1 6 ≤ 30000 := hT.1 6
      have v7 : 0 ≤ τ_26.1 7 ∧ τ_26.1 7 ≤ 90000 := hT.1 7
      have v8 : 0 ≤ τ_26.1 8 ∧ τ_26.1 8 ≤ 20000 := hT.1 8
      have v9 : 0 ≤ τ_26.1 9 ∧ τ_26.1 9 ≤ 20000 := hT.1 9
      have v16 : 0 ≤ τ_26.1 16 ∧ τ_26.1 16 ≤ 60000 := hT.1 16
      have v17 : 0 ≤ τ_26.1 17 ∧ τ_26.1 17 ≤ 60000 := hT.1 17
      have v18 : 0 ≤ τ_26.1 18 ∧ τ_26.1 18 ≤ 60000 := hT.1 18
      have v19 : (-1) ≤ τ_26.1 19 ∧ τ_26.1 19 ≤ 125 := hT.1 19
      have v20 : 0 ≤ τ_26.1 20 ∧ τ_26.1 20 ≤ 19 := hT.1 20
      have v22 : 0 ≤ τ_26.1 22 ∧ τ_26.1 22 ≤ 1499 := hT.1 22
      have a14_22 : 0 ≤ τ_26.2.1 14 (τ_26.1 22) ∧ τ_26.2.1 14 (τ_26.1 22) ≤ 30000 := hT.2 14 _
      have a15_22 : 0 ≤ τ_26.2.1 15 (τ_26.1 22) ∧ τ_26.2.1 15 (τ_26.1 22) ≤ 300 := hT.2 15 _
      have av6 : σ.1 6 ≤ τ_26.1 6 := ag.1 6 (by decide)
      have zz0 := z_e ((τ_26.1 20))
      have zz1 := z_e ((τ_26.1 19))
      exfalso; (first | omega | (simp only [st_s] <;> omega) | assumption | omega)
    | succ m_26 ih_26 =>
      intro τ_26 hm_26 hT ag W0 W3 W5 W7 W8 W9 W22 G6 G7 G14 i26_1 i26_2 i26_3 i26_4 i26_5 i26_6 i26_7 i26_8 i26_9
      have A6 : ∀ j, (-1) ≤ τ_26.2.1 6 j ∧ τ_26.2.1 6 j ≤ 999 := fun j => hT.2 6 j
      have A7 : ∀ j, (-1) ≤ τ_26.2.1 7 j ∧ τ_26.2.1 7 j ≤ 1499 := fun j => hT.2 7 j
      have A12 : ∀ j, 0 ≤ τ_26.2.1 12 j ∧ τ_26.2.1 12 j ≤ 1 := fun j => hT.2 12 j
      have A14 : ∀ j, 0 ≤ τ_26.2.1 14 j ∧ τ_26.2.1 14 j ≤ 30000 := fun j => hT.2 14 j
      have A15 : ∀ j, 0 ≤ τ_26.2.1 15 j ∧ τ_26.2.1 15 j ≤ 300 := fun j => hT.2 15 j
      have v0 : 0 ≤ τ_26.1 0 ∧ τ_26.1 0 ≤ 60000 := hT.1 0
      have v3 : 0 ≤ τ_26.1 3 ∧ τ_26.1 3 ≤ 1000 := hT.1 3
      have v4 : 0 ≤ τ_26.1 4 ∧ τ_26.1 4 ≤ 100 := hT.1 4
      have v5 : 0 ≤ τ_26.1 5 ∧ τ_26.1 5 ≤ 1500 := hT.1 5
      have v6 : 0 ≤ τ_26.1 6 ∧ τ_26.1 6 ≤ 30000 := hT.1 6
      have v7 : 0 ≤ τ_26.1 7 ∧ τ_26.1 7 ≤ 90000 := hT.1 7
      have v8 : 0 ≤ τ_26.1 8 ∧ τ_26.1 8 ≤ 20000 := hT.1 8
      have v9 : 0 ≤ τ_26.1 9 ∧ τ_26.1 9 ≤ 20000 := hT.1 9
      have v16 : 0 ≤ τ_26.1 16 ∧ τ_26.1 16 ≤ 60000 := hT.1 16
      have v17 : 0 ≤ τ_26.1 17 ∧ τ_26.1 17 ≤ 60000 := hT.1 17
      have v18 : 0 ≤ τ_26.1 18 ∧ τ_26.1 18 ≤ 60000 := hT.1 18
      have v19 : (-1) ≤ τ_26.1 19 ∧ τ_26.1 19 ≤ 125 := hT.1 19
      have v20 : 0 ≤ τ_26.1 20 ∧ τ_26.1 20 ≤ 19 := hT.1 20
      have v22 : 0 ≤ τ_26.1 22 ∧ τ_26.1 22 ≤ 1499 := hT.1 22
      have a14_22 : 0 ≤ τ_26.2.1 14 (τ_26.1 22) ∧ τ_26.2.1 14 (τ_26.1 22) ≤ 30000 := hT.2 14 _
      have a15_22 : 0 ≤ τ_26.2.1 15 (τ_26.1 22) ∧ τ_26.2.1 15 (τ_26.1 22) ≤ 300 := hT.2 15 _
      have av6 : σ.1 6 ≤ τ_26.1 6 := ag.1 6 (by decide)
      have zy26_0 := z_e ((τ_26.1 20))
      have zy26_1 := z_e ((τ_26.1 19))
      have y14_22_τ_26 : τ_26.2.1 14 (τ_26.1 22) = σ.2.1 14 (σ.1 22) := by rw [G14, W22]
      have o6_τ_26 := congrArg oc G6
      have o7_τ_26 := congrArg oc G7
      have Z1 : τ_26.2.1 14 (τ_26.1 22) + τ_26.2.1 15 (τ_26.1 22) = (τ_26.1 6) := i26_6
      have Y20 : ca (τ_26.2.1 12) ((τ_26.1 3)) ≤ (τ_26.1 4) := i26_7
      refine h26 n1 τ_26 ?_
      refine ⟨fun c12 => ?_, fun c12 => ?_⟩
      ·
        exact ⟨hT, (show (τ_26.1 16) ≤ (τ_26.1 0) from by (first | omega | (simp only [st_s] <;> omega) | assumption | omega)), (show (τ_26.1 17) + (τ_26.1 18) ≤ (τ_26.1 0) from by (first | omega | (simp only [st_s] <;> omega) | assumption | omega)), (show ¬ (σ.1 20) = 0 → (τ_26.1 20) = (σ.1 20) from by (first | omega | (simp only [st_s] <;> omega) | assumption | omega)), (show τ_26.2.1 14 (τ_26.1 22) + τ_26.2.1 15 (τ_26.1 22) = (τ_26.1 6) from Z1), (show ca (τ_26.2.1 12) ((τ_26.1 3)) ≤ (τ_26.1 4) from Y20), (show (τ_26.1 20) = 0 → 1 ≤ τ_26.2.1 15 (τ_26.1 22) from by (first | omega | (simp only [st_s] <;> omega) | assumption | omega)), (show (σ.1 16) ≤ (τ_26.1 16) from by (first | omega | (simp only [st_s] <;> omega) | assumption | omega)), ag⟩
      ·
        refine ⟨fun c13 => ?_, fun c13 => ?_⟩
        ·
          exact ⟨hT, (show (τ_26.1 16) ≤ (τ_26.1 0) from by (first | omega | (simp only [st_s] <;> omega) | assumption | omega)), (show (τ_26.1 17) + (τ_26.1 18) ≤ (τ_26.1 0) from by (first | omega | (simp only [st_s] <;> omega) | assumption | omega)), (show ¬ (σ.1 20) = 0 → (τ_26.1 20) = (σ.1 20) from by (first | omega | (simp only [st_s] <;> omega) | assumption | omega)), (show τ_26.2.1 14 (τ_26.1 22) + τ_26.2.1 15 (τ_26.1 22) = (τ_26.1 6) from Z1), (show ca (τ_26.2.1 12) ((τ_26.1 3)) ≤ (τ_26.1 4) from Y20), (show (τ_26.1 20) = 0 → 1 ≤ τ_26.2.1 15 (τ_26.1 22) from by (first | omega | (simp only [st_s] <;> omega) | assumption | omega)), (show (σ.1 16) ≤ (τ_26.1 16) from by (first | omega | (simp only [st_s] <;> omega) | assumption | omega)), ag⟩
        ·
          refine ⟨fun c14 => ?_, fun c14 => ?_⟩
          ·
            refine ⟨_, K_X13_symbolHere hT (show (τ_26.1 17) + (τ_26.1 18) ≤ 60000 from by (first | omega | (simp only [st_s] <;> omega) | assumption | omega)) (show oc (τ_26.2.1 6) < 4096 from by (first | omega | (simp only [st_s] <;> omega) | assumption | omega)), ?_⟩
            intro x16 r_x16 hq
            obtain ⟨q15_1, q15_2⟩ := hq
            replace q15_1 : -1 ≤ x16 ∧ x16 ≤ 999 := q15_1
            replace q15_2 : x16 = -1 ∨ ∃ e : Int, (0 ≤ e ∧ e < 4096) ∧ x16 = τ_26.2.1 6 e := q15_2
            clear q15_2
            refine ⟨(show 0 ≤ τ_26.1 22 ∧ τ_26.1 22 < 1501 from by (first | omega | (simp only [st_s] <;> omega) | assumption | omega)), ?_⟩
            intro x19 r_x19 e_x19
            have b_x19 : 0 ≤ x19 ∧ x19 ≤ 300 := by rw [e_x19]; exact hT.2 15 _
            refine ⟨fun c20 => ?_, fun c20 => ?_⟩
            ·
              refine h85 _ _ ?_
              refine ⟨_, K_X13_failHere hT (show 0 ≤ 5 from by (first | omega | (simp only [st_s] <;> omega) | assumption | omega)) (show 5 ≤ 19 from by (first | omega | (simp only [st_s] <;> omega) | assumption | omega)), ?_⟩
              intro τ33 hn_τ33 hf_τ33 hq
              obtain ⟨hT, q31_1, q31_2⟩ := hq
              replace q31_1 : ¬ (τ_26.1 20) = 0 → (τ33.1 20) = (τ_26.1 20) := q31_1
              replace q31_2 : (τ_26.1 20) = 0 → (τ33.1 20) = 5 := q31_2
              replace ag : m_ag σ τ33 := ag_r ag hf_τ33 rfl rfl
              have w0_τ33 : τ33.1 0 = τ_26.1 0 := hf_τ33.1 0 (by decide)
              have w3_τ33 : τ33.1 3 = τ_26.1 3 := hf_τ33.1 3 (by decide)
              have w4_τ33 : τ33.1 4 = τ_26.1 4 := hf_τ33.1 4 (by decide)
              have w5_τ33 : τ33.1 5 = τ_26.1 5 := hf_τ33.1 5 (by decide)
              have w6_τ33 : τ33.1 6 = τ_26.1 6 := hf_τ33.1 6 (by decide)
              have w7_τ33 : τ33.1 7 = τ_26.1 7 := hf_τ33.1 7 (by decide)
              have w8_τ33 : τ33.1 8 = τ_26.1 8 := hf_τ33.1 8 (by decide)
              have w9_τ33 : τ33.1 9 = τ_26.1 9 := hf_τ33.1 9 (by decide)
              have w16_τ33 : τ33.1 16 = τ_26.1 16 := hf_τ33.1 16 (by decide)
              have w17_τ33 : τ33.1 17 = τ_26.1 17 := hf_τ33.1 17 (by decide)
              have w18_τ33 : τ33.1 18 = τ_26.1 18 := hf_τ33.1 18 (by decide)
              have w19_τ33 : τ33.1 19 = τ_26.1 19 := hf_τ33.1 19 (by decide)
              have w22_τ33 : τ33.1 22 = τ_26.1 22 := hf_τ33.1 22 (by decide)
              have g6_τ33 : τ33.2.1 6 = τ_26.2.1 6 := hf_τ33.2.1 6 (by decide)
              have g7_τ33 : τ33.2.1 7 = τ_26.2.1 7 := hf_τ33.2.1 7 (by decide)
              have g12_τ33 : τ33.2.1 12 = τ_26.2.1 12 := hf_τ33.2.1 12 (by decide)
              have g14_τ33 : τ33.2.1 14 = τ_26.2.1 14 := hf_τ33.2.1 14 (by decide)
              have g15_τ33 : τ33.2.1 15 = τ_26.2.1 15 := hf_τ33.2.1 15 (by decide)
              first | (have o6_τ33 := congrArg oc g6_τ33) | skip
              first | (have o7_τ33 := congrArg oc g7_τ33) | skip
              have W0 : τ33.1 0 = σ.1 0 := by omega
              have W3 : τ33.1 3 = σ.1 3 := by omega
              have W5 : τ33.1 5 = σ.1 5 := by omega
              have W7 : τ33.1 7 = σ.1 7 := by omega
              have W8 : τ33.1 8 = σ.1 8 := by omega
              have W9 : τ33.1 9 = σ.1 9 := by omega
              have W22 : τ33.1 22 = σ.1 22 := by omega
              have G6 : τ33.2.1 6 = σ.2.1 6 := (g6_τ33).trans G6
              have G7 : τ33.2.1 7 = σ.2.1 7 := (g7_τ33).trans G7
              have G14 : τ33.2.1 14 = σ.2.1 14 := (g14_τ33).trans G14
              have y14_22_τ33 : τ33.2.1 14 (τ33.1 22) = (τ_26.2.1 14) (τ_26.1 22) := by rw [g14_τ33, w22_τ33]
              have y15_22_τ33 : τ33.2.1 15 (τ33.1 22) = (τ_26.2.1 15) (τ_26.1 22) := by rw [g15_τ33, w22_τ33]
              have Z1 : τ33.2.1 14 (τ33.1 22) + τ33.2.1 15 (τ33.1 22) = (τ33.1 6) := by rw [show (τ33.2.1 14 (τ33.1 22) + τ33.2.1 15 (τ33.1 22) = (τ33.1 6)) = (τ_26.2.1 14 (τ_26.1 22) + τ_26.2.1 15 (τ_26.1 22) = (τ_26.1 6)) from by rw [w6_τ33, w22_τ33, g14_τ33, g15_τ33]]; exact Z1
              have Y20 : ca (τ33.2.1 12) ((τ33.1 3)) ≤ (τ33.1 4) := by rw [show (ca (τ33.2.1 12) ((τ33.1 3)) ≤ (τ33.1 4)) = (ca (τ_26.2.1 12) ((τ_26.1 3)) ≤ (τ_26.1 4)) from by rw [w3_τ33, w4_τ33, g12_τ33]]; exact Y20
              have A6 : ∀ j, (-1) ≤ τ33.2.1 6 j ∧ τ33.2.1 6 j ≤ 999 := fun j => hT.2 6 j
              have A7 : ∀ j, (-1) ≤ τ33.2.1 7 j ∧ τ33.2.1 7 j ≤ 1499 := fun j => hT.2 7 j
              have A12 : ∀ j, 0 ≤ τ33.2.1 12 j ∧ τ33.2.1 12 j ≤ 1 := fun j => hT.2 12 j
              have A14 : ∀ j, 0 ≤ τ33.2.1 14 j ∧ τ33.2.1 14 j ≤ 30000 := fun j => hT.2 14 j
              have A15 : ∀ j, 0 ≤ τ33.2.1 15 j ∧ τ33.2.1 15 j ≤ 300 := fun j => hT.2 15 j
              have v0 : 0 ≤ τ33.1 0 ∧ τ33.1 0 ≤ 60000 := hT.1 0
              have v3 : 0 ≤ τ33.1 3 ∧ τ33.1 3 ≤ 1000 := hT.1 3
              have v4 : 0 ≤ τ33.1 4 ∧ τ33.1 4 ≤ 100 := hT.1 4
              have v5 : 0 ≤ τ33.1 5 ∧ τ33.1 5 ≤ 1500 := hT.1 5
              have v6 : 0 ≤ τ33.1 6 ∧ τ33.1 6 ≤ 30000 := hT.1 6
              have v7 : 0 ≤ τ33.1 7 ∧ τ33.1 7 ≤ 90000 := hT.1 7
              have v8 : 0 ≤ τ33.1 8 ∧ τ33.1 8 ≤ 20000 := hT.1 8
              have v9 : 0 ≤ τ33.1 9 ∧ τ33.1 9 ≤ 20000 := hT.1 9
              have v16 : 0 ≤ τ33.1 16 ∧ τ33.1 16 ≤ 60000 := hT.1 16
              have v17 : 0 ≤ τ33.1 17 ∧ τ33.1 17 ≤ 60000 := hT.1 17
              have v18 : 0 ≤ τ33.1 18 ∧ τ33.1 18 ≤ 60000 := hT.1 18
              have v19 : (-1) ≤ τ33.1 19 ∧ τ33.1 19 ≤ 125 := hT.1 19
              have v20 : 0 ≤ τ33.1 20 ∧ τ33.1 20 ≤ 19 := hT.1 20
              have v22 : 0 ≤ τ33.1 22 ∧ τ33.1 22 ≤ 1499 := hT.1 22
              have a14_22 : 0 ≤ τ33.2.1 14 (τ33.1 22) ∧ τ33.2.1 14 (τ33.1 22) ≤ 30000 := hT.2 14 _
              have a15_22 : 0 ≤ τ33.2.1 15 (τ33.1 22) ∧ τ33.2.1 15 (τ33.1 22) ≤ 300 := hT.2 15 _
              have av6 : σ.1 6 ≤ τ33.1 6 := ag.1 6 (by decide)
              exact ih_26 _ (show (3 * ((τ33.1 0) - (τ33.1 16)) + z_0 ((τ33.1 20)) + 1 - z_0 ((τ33.1 19)) : Int) < ((m_26 : Nat) : Int) from by (have zz0 := z_e ((τ33.1 20)); have zz1 := z_e ((τ33.1 19)); (first | omega | (simp only [st_s] <;> omega) | assumption | omega))) hT ag (show τ33.1 0 = σ.1 0 from by omega) (show τ33.1 3 = σ.1 3 from by omega) (show τ33.1 5 = σ.1 5 from by omega) (show τ33.1 7 = σ.1 7 from by omega) (show τ33.1 8 = σ.1 8 from by omega) (show τ33.1 9 = σ.1 9 from by omega) (show τ33.1 22 = σ.1 22 from by omega) G6 G7 G14 (show (τ33.1 16) ≤ (τ33.1 0) from by (first | omega | (simp only [st_s] <;> omega) | assumption | omega)) (show (τ33.1 17) + (τ33.1 18) ≤ (τ33.1 0) from by (first | omega | (simp only [st_s] <;> omega) | assumption | omega)) (show oc (τ33.2.1 6) < 4096 from by (first | omega | (simp only [st_s] <;> omega) | assumption | omega)) (show oc (τ33.2.1 7) < 4096 from by (first | omega | (simp only [st_s] <;> omega) | assumption | omega)) (show ¬ (σ.1 20) = 0 → (τ33.1 20) = (σ.1 20) from by (first | omega | (simp only [st_s] <;> omega) | assumption | omega)) (show τ33.2.1 14 (τ33.1 22) + τ33.2.1 15 (τ33.1 22) = (τ33.1 6) from Z1) (show ca (τ33.2.1 12) ((τ33.1 3)) ≤ (τ33.1 4) from Y20) (show (τ33.1 20) = 0 → 1 ≤ τ33.2.1 15 (τ33.1 22) from by (first | omega | (simp only [st_s] <;> omega) | assumption | omega)) (show (σ.1 16) ≤ (τ33.1 16) from by (first | omega | (simp only [st_s] <;> omega) | assumption | omega))
            ·
              refine ⟨fun c21 => ?_, fun c21 => ?_⟩
              ·
                refine ⟨fun c22 => ?_, fun c22 => ?_⟩
                ·
                  refine h116 _ _ ?_
                  refine ⟨_, K_X13_failHere hT (show 0 ≤ 9 from by (first | omega | (simp only [st_s] <;> omega) | assumption | omega)) (show 9 ≤ 19 from by (first | omega | (simp only [st_s] <;> omega) | assumption | omega)), ?_⟩
                  intro τ36 hn_τ36 hf_τ36 hq
                  obtain ⟨hT, q34_1, q34_2⟩ := hq
                  replace q34_1 : ¬ (τ_26.1 20) = 0 → (τ36.1 20) = (τ_26.1 20) := q34_1
                  replace q34_2 : (τ_26.1 20) = 0 → (τ36.1 20) = 9 := q34_2
                  replace ag : m_ag σ τ36 := ag_r ag hf_τ36 rfl rfl
                  have w0_τ36 : τ36.1 0 = τ_26.1 0 := hf_τ36.1 0 (by decide)
                  have w3_τ36 : τ36.1 3 = τ_26.1 3 := hf_τ36.1 3 (by decide)
                  have w4_τ36 : τ36.1 4 = τ_26.1 4 := hf_τ36.1 4 (by decide)
                  have w5_τ36 : τ36.1 5 = τ_26.1 5 := hf_τ36.1 5 (by decide)
                  have w6_τ36 : τ36.1 6 = τ_26.1 6 := hf_τ36.1 6 (by decide)
                  have w7_τ36 : τ36.1 7 = τ_26.1 7 := hf_τ36.1 7 (by decide)
                  have w8_τ36 : τ36.1 8 = τ_26.1 8 := hf_τ36.1 8 (by decide)
                  have w9_τ36 : τ36.1 9 = τ_26.1 9 := hf_τ36.1 9 (by decide)
                  have w16_τ36 : τ36.1 16 = τ_26.1 16 := hf_τ36.1 16 (by decide)
                  have w17_τ36 : τ36.1 17 = τ_26.1 17 := hf_τ36.1 17 (by decide)
                  have w18_τ36 : τ36.1 18 = τ_26.1 18 := hf_τ36.1 18 (by decide)
                  have w19_τ36 : τ36.1 19 = τ_26.1 19 := hf_τ36.1 19 (by decide)
                  have w22_τ36 : τ36.1 22 = τ_26.1 22 := hf_τ36.1 22 (by decide)
                  have g6_τ36 : τ36.2.1 6 = τ_26.2.1 6 := hf_τ36.2.1 6 (by decide)
                  have g7_τ36 : τ36.2.1 7 = τ_26.2.1 7 := hf_τ36.2.1 7 (by decide)
                  have g12_τ36 : τ36.2.1 12 = τ_26.2.1 12 := hf_τ36.2.1 12 (by decide)
                  have g14_τ36 : τ36.2.1 14 = τ_26.2.1 14 := hf_τ36.2.1 14 (by decide)
                  have g15_τ36 : τ36.2.1 15 = τ_26.2.1 15 := hf_τ36.2.1 15 (by decide)
                  first | (have o6_τ36 := congrArg oc g6_τ36) | skip
                  first | (have o7_τ36 := congrArg oc g7_τ36) | skip
                  have W0 : τ36.1 0 = σ.1 0 := by omega
                  have W3 : τ36.1 3 = σ.1 3 := by omega
                  have W5 : τ36.1 5 = σ.1 5 := by omega
                  have W7 : τ36.1 7 = σ.1 7 := by omega
                  have W8 : τ36.1 8 = σ.1 8 := by omega
                  have W9 : τ36.1 9 = σ.1 9 := by omega
                  have W22 : τ36.1 22 = σ.1 22 := by omega
                  have G6 : τ36.2.1 6 = σ.2.1 6 := (g6_τ36).trans G6
                  have G7 : τ36.2.1 7 = σ.2.1 7 := (g7_τ36).trans G7
                  have G14 : τ36.2.1 14 = σ.2.1 14 := (g14_τ36).trans G14
                  have y14_22_τ36 : τ36.2.1 14 (τ36.1 22) = (τ_26.2.1 14) (τ_26.1 22) := by rw [g14_τ36, w22_τ36]
                  have y15_22_τ36 : τ36.2.1 15 (τ36.1 22) = (τ_26.2.1 15) (τ_26.1 22) := by rw [g15_τ36, w22_τ36]
                  have Z1 : τ36.2.1 14 (τ36.1 22) + τ36.2.1 15 (τ36.1 22) = (τ36.1 6) := by rw [show (τ36.2.1 14 (τ36.1 22) + τ36.2.1 15 (τ36.1 22) = (τ36.1 6)) = (τ_26.2.1 14 (τ_26.1 22) + τ_26.2.1 15 (τ_26.1 22) = (τ_26.1 6)) from by rw [w6_τ36, w22_τ36, g14_τ36, g15_τ36]]; exact Z1
                  have Y20 : ca (τ36.2.1 12) ((τ36.1 3)) ≤ (τ36.1 4) := by rw [show (ca (τ36.2.1 12) ((τ36.1 3)) ≤ (τ36.1 4)) = (ca (τ_26.2.1 12) ((τ_26.1 3)) ≤ (τ_26.1 4)) from by rw [w3_τ36, w4_τ36, g12_τ36]]; exact Y20
                  have A6 : ∀ j, (-1) ≤ τ36.2.1 6 j ∧ τ36.2.1 6 j ≤ 999 := fun j => hT.2 6 j
                  have A7 : ∀ j, (-1) ≤ τ36.2.1 7 j ∧ τ36.2.1 7 j ≤ 1499 := fun j => hT.2 7 j
                  have A12 : ∀ j, 0 ≤ τ36.2.1 12 j ∧ τ36.2.1 12 j ≤ 1 := fun j => hT.2 12 j
                  have A14 : ∀ j, 0 ≤ τ36.2.1 14 j ∧ τ36.2.1 14 j ≤ 30000 := fun j => hT.2 14 j
                  have A15 : ∀ j, 0 ≤ τ36.2.1 15 j ∧ τ36.2.1 15 j ≤ 300 := fun j => hT.2 15 j
                  have v0 : 0 ≤ τ36.1 0 ∧ τ36.1 0 ≤ 60000 := hT.1 0
                  have v3 : 0 ≤ τ36.1 3 ∧ τ36.1 3 ≤ 1000 := hT.1 3
                  have v4 : 0 ≤ τ36.1 4 ∧ τ36.1 4 ≤ 100 := hT.1 4
                  have v5 : 0 ≤ τ36.1 5 ∧ τ36.1 5 ≤ 1500 := hT.1 5
                  have v6 : 0 ≤ τ36.1 6 ∧ τ36.1 6 ≤ 30000 := hT.1 6
                  have v7 : 0 ≤ τ36.1 7 ∧ τ36.1 7 ≤ 90000 := hT.1 7
                  have v8 : 0 ≤ τ36.1 8 ∧ τ36.1 8 ≤ 20000 := hT.1 8
                  have v9 : 0 ≤ τ36.1 9 ∧ τ36.1 9 ≤ 20000 := hT.1 9
                  have v16 : 0 ≤ τ36.1 16 ∧ τ36.1 16 ≤ 60000 := hT.1 16
                  have v17 : 0 ≤ τ36.1 17 ∧ τ36.1 17 ≤ 60000 := hT.1 17
                  have v18 : 0 ≤ τ36.1 18 ∧ τ36.1 18 ≤ 60000 := hT.1 18
                  have v19 : (-1) ≤ τ36.1 19 ∧ τ36.1 19 ≤ 125 := hT.1 19
                  have v20 : 0 ≤ τ36.1 20 ∧ τ36.1 20 ≤ 19 := hT.1 20
                  have v22 : 0 ≤ τ36.1 22 ∧ τ36.1 22 ≤ 1499 := hT.1 22
                  have a14_22 : 0 ≤ τ36.2.1 14 (τ36.1 22) ∧ τ36.2.1 14 (τ36.1 22) ≤ 30000 := hT.2 14 _
                  have a15_22 : 0 ≤ τ36.2.1 15 (τ36.1 22) ∧ τ36.2.1 15 (τ36.1 22) ≤ 300 := hT.2 15 _
                  have av6 : σ.1 6 ≤ τ36.1 6 := ag.1 6 (by decide)
                  exact ih_26 _ (show (3 * ((τ36.1 0) - (τ36.1 16)) + z_0 ((τ36.1 20)) + 1 - z_0 ((τ36.1 19)) : Int) < ((m_26 : Nat) : Int) from by (have zz0 := z_e ((τ36.1 20)); have zz1 := z_e ((τ36.1 19)); (first | omega | (simp only [st_s] <;> omega) | assumption | omega))) hT ag (show τ36.1 0 = σ.1 0 from by omega) (show τ36.1 3 = σ.1 3 from by omega) (show τ36.1 5 = σ.1 5 from by omega) (show τ36.1 7 = σ.1 7 from by omega) (show τ36.1 8 = σ.1 8 from by omega) (show τ36.1 9 = σ.1 9 from by omega) (show τ36.1 22 = σ.1 22 from by omega) G6 G7 G14 (show (τ36.1 16) ≤ (τ36.1 0) from by (first | omega | (simp only [st_s] <;> omega) | assumption | omega)) (show (τ36.1 17) + (τ36.1 18) ≤ (τ36.1 0) from by (first | omega | (simp only [st_s] <;> omega) | assumption | omega)) (show oc (τ36.2.1 6) < 4096 from by (first | omega | (simp only [st_s] <;> omega) | assumption | omega)) (show oc (τ36.2.1 7) < 4096 from by (first | omega | (simp only [st_s] <;> omega) | assumption | omega)) (show ¬ (σ.1 20) = 0 → (τ36.1 20) = (σ.1 20) from by (first | omega | (simp only [st_s] <;> omega) | assumption | omega)) (show τ36.2.1 14 (τ36.1 22) + τ36.2.1 15 (τ36.1 22) = (τ36.1 6) from Z1) (show ca (τ36.2.1 12) ((τ36.1 3)) ≤ (τ36.1 4) from Y20) (show (τ36.1 20) = 0 → 1 ≤ τ36.2.1 15 (τ36.1 22) from by (first | omega | (simp only [st_s] <;> omega) | assumption | omega)) (show (σ.1 16) ≤ (τ36.1 16) from by (first | omega | (simp only [st_s] <;> omega) | assumption | omega))
                ·
                  refine ⟨(show 0 ≤ x16 ∧ x16 < 1001 from by (first | omega | (simp only [st_s] <;> omega) | assumption | omega)), ?_⟩
                  intro x24 r_x24 e_x24
                  have b_x24 : 0 ≤ x24 ∧ x24 ≤ 1 := by rw [e_x24]; exact hT.2 8 _
                  refine ⟨fun c25 => ?_, fun c25 => ?_⟩
                  ·
                    refine h125 _ _ _ ?_
                    refine ⟨(show 0 ≤ x16 ∧ x16 < 1001 from by (first | omega | (simp only [st_s] <;> omega) | assumption | omega)), ?_⟩
                    intro x38 r_x38 e_x38
                    have b_x38 : 0 ≤ x38 ∧ x38 ≤ 1 := by rw [e_x38]; exact hT.2 8 _
                    refine ⟨fun c39 => ?_, fun c39 => ?_⟩
                    ·
                      refine h153 _ _ _ ?_
                      refine ⟨(show 0 ≤ x16 ∧ x16 < 1001 from by (first | omega | (simp only [st_s] <;> omega) | assumption | omega)), ?_⟩
                      intro x46 r_x46 e_x46
                      have b_x46 : 0 ≤ x46 ∧ x46 ≤ 1 := by rw [e_x46]; exact hT.2 8 _
                      refine ⟨fun c47 => ?_, fun c47 => ?_⟩
                      ·
                        refine h174 _ _ _ _ ?_
                        refine ⟨_, K_X13_addSymbol hT (show 0 ≤ x16 from by (first | omega | (simp only [st_s] <;> omega) | assumption | omega)) (show x16 < 1000 from by (first | omega | (simp only [st_s] <;> omega) | assumption | omega)) (show -1 ≤ (-1) from by (first | omega | (simp only [st_s] <;> omega) | assumption | omega)) (show (-1) ≤ 1499 from by (first | omega | (simp only [st_s] <;> omega) | assumption | omega)) (show (τ_26.1 6) < 30000 from by (first | omega | (simp only [st_s] <;> omega) | assumption | omega)) (show τ_26.2.1 15 (τ_26.1 22) < 300 from by (rw [← e_x19]; omega)) (show (τ_26.1 22) = (τ_26.1 5) from by (first | omega | (simp only [st_s] <;> omega) | assumption | omega)), ?_⟩
                        intro τ51 hn_τ51 hf_τ51 hq
                        obtain ⟨hT, q49_1, q49_2, q49_3⟩ := hq
                        replace q49_1 : (τ51.1 6) = (τ_26.1 6) + 1 := q49_1
                        replace q49_2 : τ51.2.1 15 (τ51.1 22) = τ_26.2.1 15 (τ_26.1 22) + 1 := q49_2
                        replace q49_3 : m_ag τ_26 τ51 := q49_3
                        replace ag : m_ag σ τ51 := ag_t ag q49_3 rfl
                        have w0_τ51 : τ51.1 0 = τ_26.1 0 := hf_τ51.1 0 (by decide)
                        have w3_τ51 : τ51.1 3 = τ_26.1 3 := hf_τ51.1 3 (by decide)
                        have w4_τ51 : τ51.1 4 = τ_26.1 4 := hf_τ51.1 4 (by decide)
                        have w5_τ51 : τ51.1 5 = τ_26.1 5 := hf_τ51.1 5 (by decide)
                        have w7_τ51 : τ51.1 7 = τ_26.1 7 := hf_τ51.1 7 (by decide)
                        have w8_τ51 : τ51.1 8 = τ_26.1 8 := hf_τ51.1 8 (by decide)
                        have w9_τ51 : τ51.1 9 = τ_26.1 9 := hf_τ51.1 9 (by decide)
                        have w16_τ51 : τ51.1 16 = τ_26.1 16 := hf_τ51.1 16 (by decide)
                        have w17_τ51 : τ51.1 17 = τ_26.1 17 := hf_τ51.1 17 (by decide)
                        have w18_τ51 : τ51.1 18 = τ_26.1 18 := hf_τ51.1 18 (by decide)
                        have w19_τ51 : τ51.1 19 = τ_26.1 19 := hf_τ51.1 19 (by decide)
                        have w20_τ51 : τ51.1 20 = τ_26.1 20 := hf_τ51.1 20 (by decide)
                        have w22_τ51 : τ51.1 22 = τ_26.1 22 := hf_τ51.1 22 (by decide)
                        have g6_τ51 : τ51.2.1 6 = τ_26.2.1 6 := hf_τ51.2.1 6 (by decide)
                        have g7_τ51 : τ51.2.1 7 = τ_26.2.1 7 := hf_τ51.2.1 7 (by decide)
                        have g12_τ51 : τ51.2.1 12 = τ_26.2.1 12 := hf_τ51.2.1 12 (by decide)
                        have g14_τ51 : τ51.2.1 14 = τ_26.2.1 14 := hf_τ51.2.1 14 (by decide)
                        first | (have o6_τ51 := congrArg oc g6_τ51) | skip
                        first | (have o7_τ51 := congrArg oc g7_τ51) | skip
                        have W0 : τ51.1 0 = σ.1 0 := by omega
                        have W3 : τ51.1 3 = σ.1 3 := by omega
                        have W5 : τ51.1 5 = σ.1 5 := by omega
                        have W7 : τ51.1 7 = σ.1 7 := by omega
                        have W8 : τ51.1 8 = σ.1 8 := by omega
                        have W9 : τ51.1 9 = σ.1 9 := by omega
                        have W22 : τ51.1 22 = σ.1 22 := by omega
                        have G6 : τ51.2.1 6 = σ.2.1 6 := (g6_τ51).trans G6
                        have G7 : τ51.2.1 7 = σ.2.1 7 := (g7_τ51).trans G7
                        have G14 : τ51.2.1 14 = σ.2.1 14 := (g14_τ51).trans G14
                        have y14_22_τ51 : τ51.2.1 14 (τ51.1 22) = (τ_26.2.1 14) (τ_26.1 22) := by rw [g14_τ51, w22_τ51]
                        have Y20 : ca (τ51.2.1 12) ((τ51.1 3)) ≤ (τ51.1 4) := by rw [show (ca (τ51.2.1 12) ((τ51.1 3)) ≤ (τ51.1 4)) = (ca (τ_26.2.1 12) ((τ_26.1 3)) ≤ (τ_26.1 4)) from by rw [w3_τ51, w4_τ51, g12_τ51]]; exact Y20
                        have A6 : ∀ j, (-1) ≤ τ51.2.1 6 j ∧ τ51.2.1 6 j ≤ 999 := fun j => hT.2 6 j
                        have A7 : ∀ j, (-1) ≤ τ51.2.1 7 j ∧ τ51.2.1 7 j ≤ 1499 := fun j => hT.2 7 j
                        have A12 : ∀ j, 0 ≤ τ51.2.1 12 j ∧ τ51.2.1 12 j ≤ 1 := fun j => hT.2 12 j
                        have A14 : ∀ j, 0 ≤ τ51.2.1 14 j ∧ τ51.2.1 14 j ≤ 30000 := fun j => hT.2 14 j
                        have A15 : ∀ j, 0 ≤ τ51.2.1 15 j ∧ τ51.2.1 15 j ≤ 300 := fun j => hT.2 15 j
                        have v0 : 0 ≤ τ51.1 0 ∧ τ51.1 0 ≤ 60000 := hT.1 0
                        have v3 : 0 ≤ τ51.1 3 ∧ τ51.1 3 ≤ 1000 := hT.1 3
                        have v4 : 0 ≤ τ51.1 4 ∧ τ51.1 4 ≤ 100 := hT.1 4
                        have v5 : 0 ≤ τ51.1 5 ∧ τ51.1 5 ≤ 1500 := hT.1 5
                        have v6 : 0 ≤ τ51.1 6 ∧ τ51.1 6 ≤ 30000 := hT.1 6
                        have v7 : 0 ≤ τ51.1 7 ∧ τ51.1 7 ≤ 90000 := hT.1 7
                        have v8 : 0 ≤ τ51.1 8 ∧ τ51.1 8 ≤ 20000 := hT.1 8
                        have v9 : 0 ≤ τ51.1 9 ∧ τ51.1 9 ≤ 20000 := hT.1 9
                        have v16 : 0 ≤ τ51.1 16 ∧ τ51.1 16 ≤ 60000 := hT.1 16
                        have v17 : 0 ≤ τ51.1 17 ∧ τ51.1 17 ≤ 60000 := hT.1 17
                        have v18 : 0 ≤ τ51.1 18 ∧ τ51.1 18 ≤ 60000 := hT.1 18
                        have v19 : (-1) ≤ τ51.1 19 ∧ τ51.1 19 ≤ 125 := hT.1 19
                        have v20 : 0 ≤ τ51.1 20 ∧ τ51.1 20 ≤ 19 := hT.1 20
                        have v22 : 0 ≤ τ51.1 22 ∧ τ51.1 22 ≤ 1499 := hT.1 22
                        have a14_22 : 0 ≤ τ51.2.1 14 (τ51.1 22) ∧ τ51.2.1 14 (τ51.1 22) ≤ 30000 := hT.2 14 _
                        have a15_22 : 0 ≤ τ51.2.1 15 (τ51.1 22) ∧ τ51.2.1 15 (τ51.1 22) ≤ 300 := hT.2 15 _
                        have av6 : σ.1 6 ≤ τ51.1 6 := ag.1 6 (by decide)
                        have Z1 : τ51.2.1 14 (τ51.1 22) + τ51.2.1 15 (τ51.1 22) = τ51.1 6 := by omega
                        refine ⟨_, K_X13_next hT (show (τ51.1 16) ≤ (τ51.1 0) from by (first | omega | (simp only [st_s] <;> omega) | assumption | omega)), ?_⟩
                        intro τ54 hn_τ54 hf_τ54 hq
                        obtain ⟨hT, q52_1, q52_2, q52_3, q52_4, q52_5⟩ := hq
                        replace q52_1 : (τ54.1 16) ≤ (τ54.1 0) := q52_1
                        replace q52_2 : (τ54.1 17) + (τ54.1 18) ≤ (τ54.1 0) := q52_2
                        replace q52_3 : (τ51.1 16) ≤ (τ54.1 16) := q52_3
                        replace q52_4 : ¬ (τ51.1 20) = 0 → (τ54.1 20) = (τ51.1 20) := q52_4
                        replace q52_5 : (τ54.1 20) = 0 → ¬ (τ54.1 19) = 0 → (τ51.1 16) < (τ54.1 16) ∧ 0 < (τ54.1 18) := q52_5
                        replace ag : m_ag σ τ54 := ag_r ag hf_τ54 rfl rfl
                        have w0_τ54 : τ54.1 0 = τ51.1 0 := hf_τ54.1 0 (by decide)
                        have w3_τ54 : τ54.1 3 = τ51.1 3 := hf_τ54.1 3 (by decide)
                        have w4_τ54 : τ54.1 4 = τ51.1 4 := hf_τ54.1 4 (by decide)
                        have w5_τ54 : τ54.1 5 = τ51.1 5 := hf_τ54.1 5 (by decide)
                        have w6_τ54 : τ54.1 6 = τ51.1 6 := hf_τ54.1 6 (by decide)
                        have w7_τ54 : τ54.1 7 = τ51.1 7 := hf_τ54.1 7 (by decide)
                        have w8_τ54 : τ54.1 8 = τ51.1 8 := hf_τ54.1 8 (by decide)
                        have w9_τ54 : τ54.1 9 = τ51.1 9 := hf_τ54.1 9 (by decide)
                        have w22_τ54 : τ54.1 22 = τ51.1 22 := hf_τ54.1 22 (by decide)
                        have g6_τ54 : τ54.2.1 6 = τ51.2.1 6 := hf_τ54.2.1 6 (by decide)
                        have g7_τ54 : τ54.2.1 7 = τ51.2.1 7 := hf_τ54.2.1 7 (by decide)
                        have g12_τ54 : τ54.2.1 12 = τ51.2.1 12 := hf_τ54.2.1 12 (by decide)
                        have g14_τ54 : τ54.2.1 14 = τ51.2.1 14 := hf_τ54.2.1 14 (by decide)
                        have g15_τ54 : τ54.2.1 15 = τ51.2.1 15 := hf_τ54.2.1 15 (by decide)
                        first | (have o6_τ54 := congrArg oc g6_τ54) | skip
                        first | (have o7_τ54 := congrArg oc g7_τ54) | skip
                        have W0 : τ54.1 0 = σ.1 0 := by omega
                        have W3 : τ54.1 3 = σ.1 3 := by omega
                        have W5 : τ54.1 5 = σ.1 5 := by omega
                        have W7 : τ54.1 7 = σ.1 7 := by omega
                        have W8 : τ54.1 8 = σ.1 8 := by omega
                        have W9 : τ54.1 9 = σ.1 9 := by omega
                        have W22 : τ54.1 22 = σ.1 22 := by omega
                        have G6 : τ54.2.1 6 = σ.2.1 6 := (g6_τ54).trans G6
                        have G7 : τ54.2.1 7 = σ.2.1 7 := (g7_τ54).trans G7
                        have G14 : τ54.2.1 14 = σ.2.1 14 := (g14_τ54).trans G14
                        have y14_22_τ54 : τ54.2.1 14 (τ54.1 22) = (τ51.2.1 14) (τ51.1 22) := by rw [g14_τ54, w22_τ54]
                        have y15_22_τ54 : τ54.2.1 15 (τ54.1 22) = (τ51.2.1 15) (τ51.1 22) := by rw [g15_τ54, w22_τ54]
                        have Z1 : τ54.2.1 14 (τ54.1 22) + τ54.2.1 15 (τ54.1 22) = (τ54.1 6) := by rw [show (τ54.2.1 14 (τ54.1 22) + τ54.2.1 15 (τ54.1 22) = (τ54.1 6)) = (τ51.2.1 14 (τ51.1 22) + τ51.2.1 15 (τ51.1 22) = (τ51.1 6)) from by rw [w6_τ54, w22_τ54, g14_τ54, g15_τ54]]; exact Z1
                        have Y20 : ca (τ54.2.1 12) ((τ54.1 3)) ≤ (τ54.1 4) := by rw [show (ca (τ54.2.1 12) ((τ54.1 3)) ≤ (τ54.1 4)) = (ca (τ51.2.1 12) ((τ51.1 3)) ≤ (τ51.1 4)) from by rw [w3_τ54, w4_τ54, g12_τ54]]; exact Y20
                        have A6 : ∀ j, (-1) ≤ τ54.2.1 6 j ∧ τ54.2.1 6 j ≤ 999 := fun j => hT.2 6 j
                        have A7 : ∀ j, (-1) ≤ τ54.2.1 7 j ∧ τ54.2.1 7 j ≤ 1499 := fun j => hT.2 7 j
                        have A12 : ∀ j, 0 ≤ τ54.2.1 12 j ∧ τ54.2.1 12 j ≤ 1 := fun j => hT.2 12 j
                        have A14 : ∀ j, 0 ≤ τ54.2.1 14 j ∧ τ54.2.1 14 j ≤ 30000 := fun j => hT.2 14 j
                        have A15 : ∀ j, 0 ≤ τ54.2.1 15 j ∧ τ54.2.1 15 j ≤ 300 := fun j => hT.2 15 j
                        have v0 : 0 ≤ τ54.1 0 ∧ τ54.1 0 ≤ 60000 := hT.1 0
                        have v3 : 0 ≤ τ54.1 3 ∧ τ54.1 3 ≤ 1000 := hT.1 3
                        have v4 : 0 ≤ τ54.1 4 ∧ τ54.1 4 ≤ 100 := hT.1 4
                        have v5 : 0 ≤ τ54.1 5 ∧ τ54.1 5 ≤ 1500 := hT.1 5
                        have v6 : 0 ≤ τ54.1 6 ∧ τ54.1 6 ≤ 30000 := hT.1 6
                        have v7 : 0 ≤ τ54.1 7 ∧ τ54.1 7 ≤ 90000 := hT.1 7
                        have v8 : 0 ≤ τ54.1 8 ∧ τ54.1 8 ≤ 20000 := hT.1 8
                        have v9 : 0 ≤ τ54.1 9 ∧ τ54.1 9 ≤ 20000 := hT.1 9
                        have v16 : 0 ≤ τ54.1 16 ∧ τ54.1 16 ≤ 60000 := hT.1 16
                        have v17 : 0 ≤ τ54.1 17 ∧ τ54.1 17 ≤ 60000 := hT.1 17
                        have v18 : 0 ≤ τ54.1 18 ∧ τ54.1 18 ≤ 60000 := hT.1 18
                        have v19 : (-1) ≤ τ54.1 19 ∧ τ54.1 19 ≤ 125 := hT.1 19
                        have v20 : 0 ≤ τ54.1 20 ∧ τ54.1 20 ≤ 19 := hT.1 20
                        have v22 : 0 ≤ τ54.1 22 ∧ τ54.1 22 ≤ 1499 := hT.1 22
                        have a14_22 : 0 ≤ τ54.2.1 14 (τ54.1 22) ∧ τ54.2.1 14 (τ54.1 22) ≤ 30000 := hT.2 14 _
                        have a15_22 : 0 ≤ τ54.2.1 15 (τ54.1 22) ∧ τ54.2.1 15 (τ54.1 22) ≤ 300 := hT.2 15 _
                        have av6 : σ.1 6 ≤ τ54.1 6 := ag.1 6 (by decide)
                        exact ih_26 _ (show (3 * ((τ54.1 0) - (τ54.1 16)) + z_0 ((τ54.1 20)) + 1 - z_0 ((τ54.1 19)) : Int) < ((m_26 : Nat) : Int) from by (have zz0 := z_e ((τ54.1 20)); have zz1 := z_e ((τ54.1 19)); (first | omega | (simp only [st_s] <;> omega) | assumption | omega))) hT ag (show τ54.1 0 = σ.1 0 from by omega) (show τ54.1 3 = σ.1 3 from by omega) (show τ54.1 5 = σ.1 5 from by omega) (show τ54.1 7 = σ.1 7 from by omega) (show τ54.1 8 = σ.1 8 from by omega) (show τ54.1 9 = σ.1 9 from by omega) (show τ54.1 22 = σ.1 22 from by omega) G6 G7 G14 (show (τ54.1 16) ≤ (τ54.1 0) from by (first | omega | (simp only [st_s] <;> omega) | assumption | omega)) (show (τ54.1 17) + (τ54.1 18) ≤ (τ54.1 0) from by (first | omega | (simp only [st_s] <;> omega) | assumption | omega)) (show oc (τ54.2.1 6) < 4096 from by (first | omega | (simp only [st_s] <;> omega) | assumption | omega)) (show oc (τ54.2.1 7) < 4096 from by (first | omega | (simp only [st_s] <;> omega) | assumption | omega)) (show ¬ (σ.1 20) = 0 → (τ54.1 20) = (σ.1 20) from by (first | omega | (simp only [st_s] <;> omega) | assumption | omega)) (show τ54.2.1 14 (τ54.1 22) + τ54.2.1 15 (τ54.1 22) = (τ54.1 6) from Z1) (show ca (τ54.2.1 12) ((τ54.1 3)) ≤ (τ54.1 4) from Y20) (show (τ54.1 20) = 0 → 1 ≤ τ54.2.1 15 (τ54.1 22) from by (first | omega | (simp only [st_s] <;> omega) | assumption | omega)) (show (σ.1 16) ≤ (τ54.1 16) from by (first | omega | (simp only [st_s] <;> omega) | assumption | omega))
                      ·
                        intro x48 r_x48 e_x48
                        have b_x48 : (-1) ≤ x48 ∧ x48 ≤ 1499 := by rw [e_x48]; exact hT.2 11 _
                        refine h174 _ _ _ _ ?_
                        refine ⟨_, K_X13_addSymbol hT (show 0 ≤ x16 from by (first | omega | (simp only [st_s] <;> omega) | assumption | omega)) (show x16 < 1000 from by (first | omega | (simp only [st_s] <;> omega) | assumption | omega)) (show -1 ≤ x48 from by (first | omega | (simp only [st_s] <;> omega) | assumption | omega)) (show x48 ≤ 1499 from by (first | omega | (simp only [st_s] <;> omega) | assumption | omega)) (show (τ_26.1 6) < 30000 from by (first | omega | (simp only [st_s] <;> omega) | assumption | omega)) (show τ_26.2.1 15 (τ_26.1 22) < 300 from by (rw [← e_x19]; omega)) (show (τ_26.1 22) = (τ_26.1 5) from by (first | omega | (simp only [st_s] <;> omega) | assumption | omega)), ?_⟩
                        intro τ51 hn_τ51 hf_τ51 hq
                        obtain ⟨hT, q49_1, q49_2, q49_3⟩ := hq
                        replace q49_1 : (τ51.1 6) = (τ_26.1 6) + 1 := q49_1
                        replace q49_2 : τ51.2.1 15 (τ51.1 22) = τ_26.2.1 15 (τ_26.1 22) + 1 := q49_2
                        replace q49_3 : m_ag τ_26 τ51 := q49_3
                        replace ag : m_ag σ τ51 := ag_t ag q49_3 rfl
                        have w0_τ51 : τ51.1 0 = τ_26.1 0 := hf_τ51.1 0 (by decide)
                        have w3_τ51 : τ51.1 3 = τ_26.1 3 := hf_τ51.1 3 (by decide)
                        have w4_τ51 : τ51.1 4 = τ_26.1 4 := hf_τ51.1 4 (by decide)
                        have w5_τ51 : τ51.1 5 = τ_26.1 5 := hf_τ51.1 5 (by decide)
                        have w7_τ51 : τ51.1 7 = τ_26.1 7 := hf_τ51.1 7 (by decide)
                        have w8_τ51 : τ51.1 8 = τ_26.1 8 := hf_τ51.1 8 (by decide)
                        have w9_τ51 : τ51.1 9 = τ_26.1 9 := hf_τ51.1 9 (by decide)
                        have w16_τ51 : τ51.1 16 = τ_26.1 16 := hf_τ51.1 16 (by decide)
                        have w17_τ51 : τ51.1 17 = τ_26.1 17 := hf_τ51.1 17 (by decide)
                        have w18_τ51 : τ51.1 18 = τ_26.1 18 := hf_τ51.1 18 (by decide)
                        have w19_τ51 : τ51.1 19 = τ_26.1 19 := hf_τ51.1 19 (by decide)
                        have w20_τ51 : τ51.1 20 = τ_26.1 20 := hf_τ51.1 20 (by decide)
                        have w22_τ51 : τ51.1 22 = τ_26.1 22 := hf_τ51.1 22 (by decide)
                        have g6_τ51 : τ51.2.1 6 = τ_26.2.1 6 := hf_τ51.2.1 6 (by decide)
                        have g7_τ51 : τ51.2.1 7 = τ_26.2.1 7 := hf_τ51.2.1 7 (by decide)
                        have g12_τ51 : τ51.2.1 12 = τ_26.2.1 12 := hf_τ51.2.1 12 (by decide)
                        have g14_τ51 : τ51.2.1 14 = τ_26.2.1 14 := hf_τ51.2.1 14 (by decide)
                        first | (have o6_τ51 := congrArg oc g6_τ51) | skip
                        first | (have o7_τ51 := congrArg oc g7_τ51) | skip
                        have W0 : τ51.1 0 = σ.1 0 := by omega
                        have W3 : τ51.1 3 = σ.1 3 := by omega
                        have W5 : τ51.1 5 = σ.1 5 := by omega
                        have W7 : τ51.1 7 = σ.1 7 := by omega
                        have W8 : τ51.1 8 = σ.1 8 := by omega
                        have W9 : τ51.1 9 = σ.1 9 := by omega
                        have W22 : τ51.1 22 = σ.1 22 := by omega
                        have G6 : τ51.2.1 6 = σ.2.1 6 := (g6_τ51).trans G6
                        have G7 : τ51.2.1 7 = σ.2.1 7 := (g7_τ51).trans G7
                        have G14 : τ51.2.1 14 = σ.2.1 14 := (g14_τ51).trans G14
                        have y14_22_τ51 : τ51.2.1 14 (τ51.1 22) = (τ_26.2.1 14) (τ_26.1 22) := by rw [g14_τ51, w22_τ51]
                        have Y20 : ca (τ51.2.1 12) ((τ51.1 3)) ≤ (τ51.1 4) := by rw [show (ca (τ51.2.1 12) ((τ51.1 3)) ≤ (τ51.1 4)) = (ca (τ_26.2.1 12) ((τ_26.1 3)) ≤ (τ_26.1 4)) from by rw [w3_τ51, w4_τ51, g12_τ51]]; exact Y20
                        have A6 : ∀ j, (-1) ≤ τ51.2.1 6 j ∧ τ51.2.1 6 j ≤ 999 := fun j => hT.2 6 j
                        have A7 : ∀ j, (-1) ≤ τ51.2.1 7 j ∧ τ51.2.1 7 j ≤ 1499 := fun j => hT.2 7 j
                        have A12 : ∀ j, 0 ≤ τ51.2.1 12 j ∧ τ51.2.1 12 j ≤ 1 := fun j => hT.2 12 j
                        have A14 : ∀ j, 0 ≤ τ51.2.1 14 j ∧ τ51.2.1 14 j ≤ 30000 := fun j => hT.2 14 j
                        have A15 : ∀ j, 0 ≤ τ51.2.1 15 j ∧ τ51.2.1 15 j ≤ 300 := fun j => hT.2 15 j
                        have v0 : 0 ≤ τ51.1 0 ∧ τ51.1 0 ≤ 60000 := hT.1 0
                        have v3 : 0 ≤ τ51.1 3 ∧ τ51.1 3 ≤ 1000 := hT.1 3
                        have v4 : 0 ≤ τ51.1 4 ∧ τ51.1 4 ≤ 100 := hT.1 4
                        have v5 : 0 ≤ τ51.1 5 ∧ τ51.1 5 ≤ 1500 := hT.1 5
                        have v6 : 0 ≤ τ51.1 6 ∧ τ51.1 6 ≤ 30000 := hT.1 6
                        have v7 : 0 ≤ τ51.1 7 ∧ τ51.1 7 ≤ 90000 := hT.1 7
                        have v8 : 0 ≤ τ51.1 8 ∧ τ51.1 8 ≤ 20000 := hT.1 8
                        have v9 : 0 ≤ τ51.1 9 ∧ τ51.1 9 ≤ 20000 := hT.1 9
                        have v16 : 0 ≤ τ51.1 16 ∧ τ51.1 16 ≤ 60000 := hT.1 16
                        have v17 : 0 ≤ τ51.1 17 ∧ τ51.1 17 ≤ 60000 := hT.1 17
                        have v18 : 0 ≤ τ51.1 18 ∧ τ51.1 18 ≤ 60000 := hT.1 18
                        have v19 : (-1) ≤ τ51.1 19 ∧ τ51.1 19 ≤ 125 := hT.1 19
                        have v20 : 0 ≤ τ51.1 20 ∧ τ51.1 20 ≤ 19 := hT.1 20
                        have v22 : 0 ≤ τ51.1 22 ∧ τ51.1 22 ≤ 1499 := hT.1 22
                        have a14_22 : 0 ≤ τ51.2.1 14 (τ51.1 22) ∧ τ51.2.1 14 (τ51.1 22) ≤ 30000 := hT.2 14 _
                        have a15_22 : 0 ≤ τ51.2.1 15 (τ51.1 22) ∧ τ51.2.1 15 (τ51.1 22) ≤ 300 := hT.2 15 _
                        have av6 : σ.1 6 ≤ τ51.1 6 := ag.1 6 (by decide)
                        have Z1 : τ51.2.1 14 (τ51.1 22) + τ51.2.1 15 (τ51.1 22) = τ51.1 6 := by omega
                        refine ⟨_, K_X13_next hT (show (τ51.1 16) ≤ (τ51.1 0) from by (first | omega | (simp only [st_s] <;> omega) | assumption | omega)), ?_⟩
                        intro τ54 hn_τ54 hf_τ54 hq
                        obtain ⟨hT, q52_1, q52_2, q52_3, q52_4, q52_5⟩ := hq
                        replace q52_1 : (τ54.1 16) ≤ (τ54.1 0) := q52_1
                        replace q52_2 : (τ54.1 17) + (τ54.1 18) ≤ (τ54.1 0) := q52_2
                        replace q52_3 : (τ51.1 16) ≤ (τ54.1 16) := q52_3
                        replace q52_4 : ¬ (τ51.1 20) = 0 → (τ54.1 20) = (τ51.1 20) := q52_4
                        replace q52_5 : (τ54.1 20) = 0 → ¬ (τ54.1 19) = 0 → (τ51.1 16) < (τ54.1 16) ∧ 0 < (τ54.1 18) := q52_5
                        replace ag : m_ag σ τ54 := ag_r ag hf_τ54 rfl rfl
                        have w0_τ54 : τ54.1 0 = τ51.1 0 := hf_τ54.1 0 (by decide)
                        have w3_τ54 : τ54.1 3 = τ51.1 3 := hf_τ54.1 3 (by decide)
                        have w4_τ54 : τ54.1 4 = τ51.1 4 := hf_τ54.1 4 (by decide)
                        have w5_τ54 : τ54.1 5 = τ51.1 5 := hf_τ54.1 5 (by decide)
                        have w6_τ54 : τ54.1 6 = τ51.1 6 := hf_τ54.1 6 (by decide)
                        have w7_τ54 : τ54.1 7 = τ51.1 7 := hf_τ54.1 7 (by decide)
                        have w8_τ54 : τ54.1 8 = τ51.1 8 := hf_τ54.1 8 (by decide)
                        have w9_τ54 : τ54.1 9 = τ51.1 9 := hf_τ54.1 9 (by decide)
                        have w22_τ54 : τ54.1 22 = τ51.1 22 := hf_τ54.1 22 (by decide)
                        have g6_τ54 : τ54.2.1 6 = τ51.2.1 6 := hf_τ54.2.1 6 (by decide)
                        have g7_τ54 : τ54.2.1 7 = τ51.2.1 7 := hf_τ54.2.1 7 (by decide)
                        have g12_τ54 : τ54.2.1 12 = τ51.2.1 12 := hf_τ54.2.1 12 (by decide)
                        have g14_τ54 : τ54.2.1 14 = τ51.2.1 14 := hf_τ54.2.1 14 (by decide)
                        have g15_τ54 : τ54.2.1 15 = τ51.2.1 15 := hf_τ54.2.1 15 (by decide)
                        first | (have o6_τ54 := congrArg oc g6_τ54) | skip
                        first | (have o7_τ54 := congrArg oc g7_τ54) | skip
                        have W0 : τ54.1 0 = σ.1 0 := by omega
                        have W3 : τ54.1 3 = σ.1 3 := by omega
                        have W5 : τ54.1 5 = σ.1 5 := by omega
                        have W7 : τ54.1 7 = σ.1 7 := by omega
                        have W8 : τ54.1 8 = σ.1 8 := by omega
                        have W9 : τ54.1 9 = σ.1 9 := by omega
                        have W22 : τ54.1 22 = σ.1 22 := by omega
                        have G6 : τ54.2.1 6 = σ.2.1 6 := (g6_τ54).trans G6
                        have G7 : τ54.2.1 7 = σ.2.1 7 := (g7_τ54).trans G7
                        have G14 : τ54.2.1 14 = σ.2.1 14 := (g14_τ54).trans G14
                        have y14_22_τ54 : τ54.2.1 14 (τ54.1 22) = (τ51.2.1 14) (τ51.1 22) := by rw [g14_τ54, w22_τ54]
                        have y15_22_τ54 : τ54.2.1 15 (τ54.1 22) = (τ51.2.1 15) (τ51.1 22) := by rw [g15_τ54, w22_τ54]
                        have Z1 : τ54.2.1 14 (τ54.1 22) + τ54.2.1 15 (τ54.1 22) = (τ54.1 6) := by rw [show (τ54.2.1 14 (τ54.1 22) + τ54.2.1 15 (τ54.1 22) = (τ54.1 6)) = (τ51.2.1 14 (τ51.1 22) + τ51.2.1 15 (τ51.1 22) = (τ51.1 6)) from by rw [w6_τ54, w22_τ54, g14_τ54, g15_τ54]]; exact Z1
                        have Y20 : ca (τ54.2.1 12) ((τ54.1 3)) ≤ (τ54.1 4) := by rw [show (ca (τ54.2.1 12) ((τ54.1 3)) ≤ (τ54.1 4)) = (ca (τ51.2.1 12) ((τ51.1 3)) ≤ (τ51.1 4)) from by rw [w3_τ54, w4_τ54, g12_τ54]]; exact Y20
                        have A6 : ∀ j, (-1) ≤ τ54.2.1 6 j ∧ τ54.2.1 6 j ≤ 999 := fun j => hT.2 6 j
                        have A7 : ∀ j, (-1) ≤ τ54.2.1 7 j ∧ τ54.2.1 7 j ≤ 1499 := fun j => hT.2 7 j
                        have A12 : ∀ j, 0 ≤ τ54.2.1 12 j ∧ τ54.2.1 12 j ≤ 1 := fun j => hT.2 12 j
                        have A14 : ∀ j, 0 ≤ τ54.2.1 14 j ∧ τ54.2.1 14 j ≤ 30000 := fun j => hT.2 14 j
                        have A15 : ∀ j, 0 ≤ τ54.2.1 15 j ∧ τ54.2.1 15 j ≤ 300 := fun j => hT.2 15 j
                        have v0 : 0 ≤ τ54.1 0 ∧ τ54.1 0 ≤ 60000 := hT.1 0
                        have v3 : 0 ≤ τ54.1 3 ∧ τ54.1 3 ≤ 1000 := hT.1 3
                        have v4 : 0 ≤ τ54.1 4 ∧ τ54.1 4 ≤ 100 := hT.1 4
                        have v5 : 0 ≤ τ54.1 5 ∧ τ54.1 5 ≤ 1500 := hT.1 5
                        have v6 : 0 ≤ τ54.1 6 ∧ τ54.1 6 ≤ 30000 := hT.1 6
                        have v7 : 0 ≤ τ54.1 7 ∧ τ54.1 7 ≤ 90000 := hT.1 7
                        have v8 : 0 ≤ τ54.1 8 ∧ τ54.1 8 ≤ 20000 := hT.1 8
                        have v9 : 0 ≤ τ54.1 9 ∧ τ54.1 9 ≤ 20000 := hT.1 9
                        have v16 : 0 ≤ τ54.1 16 ∧ τ54.1 16 ≤ 60000 := hT.1 16
                        have v17 : 0 ≤ τ54.1 17 ∧ τ54.1 17 ≤ 60000 := hT.1 17
                        have v18 : 0 ≤ τ54.1 18 ∧ τ54.1 18 ≤ 60000 := hT.1 18
                        have v19 : (-1) ≤ τ54.1 19 ∧ τ54.1 19 ≤ 125 := hT.1 19
                        have v20 : 0 ≤ τ54.1 20 ∧ τ54.1 20 ≤ 19 := hT.1 20
                        have v22 : 0 ≤ τ54.1 22 ∧ τ54.1 22 ≤ 1499 := hT.1 22
                        have a14_22 : 0 ≤ τ54.2.1 14 (τ54.1 22) ∧ τ54.2.1 14 (τ54.1 22) ≤ 30000 := hT.2 14 _
                        have a15_22 : 0 ≤ τ54.2.1 15 (τ54.1 22) ∧ τ54.2.1 15 (τ54.1 22) ≤ 300 := hT.2 15 _
                        have av6 : σ.1 6 ≤ τ54.1 6 := ag.1 6 (by decide)
                        exact ih_26 _ (show (3 * ((τ54.1 0) - (τ54.1 16)) + z_0 ((τ54.1 20)) + 1 - z_0 ((τ54.1 19)) : Int) < ((m_26 : Nat) : Int) from by (have zz0 := z_e ((τ54.1 20)); have zz1 := z_e ((τ54.1 19)); (first | omega | (simp only [st_s] <;> omega) | assumption | omega))) hT ag (show τ54.1 0 = σ.1 0 from by omega) (show τ54.1 3 = σ.1 3 from by omega) (show τ54.1 5 = σ.1 5 from by omega) (show τ54.1 7 = σ.1 7 from by omega) (show τ54.1 8 = σ.1 8 from by omega) (show τ54.1 9 = σ.1 9 from by omega) (show τ54.1 22 = σ.1 22 from by omega) G6 G7 G14 (show (τ54.1 16) ≤ (τ54.1 0) from by (first | omega | (simp only [st_s] <;> omega) | assumption | omega)) (show (τ54.1 17) + (τ54.1 18) ≤ (τ54.1 0) from by (first | omega | (simp only [st_s] <;> omega) | assumption | omega)) (show oc (τ54.2.1 6) < 4096 from by (first | omega | (simp only [st_s] <;> omega) | assumption | omega)) (show oc (τ54.2.1 7) < 4096 from by (first | omega | (simp only [st_s] <;> omega) | assumption | omega)) (show ¬ (σ.1 20) = 0 → (τ54.1 20) = (σ.1 20) from by (first | omega | (simp only [st_s] <;> omega) | assumption | omega)) (show τ54.2.1 14 (τ54.1 22) + τ54.2.1 15 (τ54.1 22) = (τ54.1 6) from Z1) (show ca (τ54.2.1 12) ((τ54.1 3)) ≤ (τ54.1 4) from Y20) (show (τ54.1 20) = 0 → 1 ≤ τ54.2.1 15 (τ54.1 22) from by (first | omega | (simp only [st_s] <;> omega) | assumption | omega)) (show (σ.1 16) ≤ (τ54.1 16) from by (first | omega | (simp only [st_s] <;> omega) | assumption | omega))
                    ·
                      intro x40 r_x40 e_x40
                      have b_x40 : (-1) ≤ x40 ∧ x40 ≤ 1499 := by rw [e_x40]; exact hT.2 11 _
                      refine ⟨fun c41 => ?_, fun c41 => ?_⟩
                      ·
                        refine h153 _ _ _ ?_
                        refine ⟨(show 0 ≤ x16 ∧ x16 < 1001 from by (first | omega | (simp only [st_s] <;> omega) | assumption | omega)), ?_⟩
                        intro x46 r_x46 e_x46
                        have b_x46 : 0 ≤ x46 ∧ x46 ≤ 1 := by rw [e_x46]; exact hT.2 8 _
                        refine ⟨fun c47 => ?_, fun c47 => ?_⟩
                        ·
                          refine h174 _ _ _ _ ?_
                          refine ⟨_, K_X13_addSymbol hT (show 0 ≤ x16 from by (first | omega | (simp only [st_s] <;> omega) | assumption | omega)) (show x16 < 1000 from by (first | omega | (simp only [st_s] <;> omega) | assumption | omega)) (show -1 ≤ (-1) from by (first | omega | (simp only [st_s] <;> omega) | assumption | omega)) (show (-1) ≤ 1499 from by (first | omega | (simp only [st_s] <;> omega) | assumption | omega)) (show (τ_26.1 6) < 30000 from by (first | omega | (simp only [st_s] <;> omega) | assumption | omega)) (show τ_26.2.1 15 (τ_26.1 22) < 300 from by (rw [← e_x19]; omega)) (show (τ_26.1 22) = (τ_26.1 5) from by (first | omega | (simp only [st_s] <;> omega) | assumption | omega)), ?_⟩
                          intro τ51 hn_τ51 hf_τ51 hq
                          obtain ⟨hT, q49_1, q49_2, q49_3⟩ := hq
                          replace q49_1 : (τ51.1 6) = (τ_26.1 6) + 1 := q49_1
                          replace q49_2 : τ51.2.1 15 (τ51.1 22) = τ_26.2.1 15 (τ_26.1 22) + 1 := q49_2
                          replace q49_3 : m_ag τ_26 τ51 := q49_3
                          replace ag : m_ag σ τ51 := ag_t ag q49_3 rfl
                          have w0_τ51 : τ51.1 0 = τ_26.1 0 := hf_τ51.1 0 (by decide)
                          have w3_τ51 : τ51.1 3 = τ_26.1 3 := hf_τ51.1 3 (by decide)
                          have w4_τ51 : τ51.1 4 = τ_26.1 4 := hf_τ51.1 4 (by decide)
                          have w5_τ51 : τ51.1 5 = τ_26.1 5 := hf_τ51.1 5 (by decide)
                          have w7_τ51 : τ51.1 7 = τ_26.1 7 := hf_τ51.1 7 (by decide)
                          have w8_τ51 : τ51.1 8 = τ_26.1 8 := hf_τ51.1 8 (by decide)
                          have w9_τ51 : τ51.1 9 = τ_26.1 9 := hf_τ51.1 9 (by decide)
                          have w16_τ51 : τ51.1 16 = τ_26.1 16 := hf_τ51.1 16 (by decide)
                          have w17_τ51 : τ51.1 17 = τ_26.1 17 := hf_τ51.1 17 (by decide)
                          have w18_τ51 : τ51.1 18 = τ_26.1 18 := hf_τ51.1 18 (by decide)
                          have w19_τ51 : τ51.1 19 = τ_26.1 19 := hf_τ51.1 19 (by decide)
                          have w20_τ51 : τ51.1 20 = τ_26.1 20 := hf_τ51.1 20 (by decide)
                          have w22_τ51 : τ51.1 22 = τ_26.1 22 := hf_τ51.1 22 (by decide)
                          have g6_τ51 : τ51.2.1 6 = τ_26.2.1 6 := hf_τ51.2.1 6 (by decide)
                          have g7_τ51 : τ51.2.1 7 = τ_26.2.1 7 := hf_τ51.2.1 7 (by decide)
                          have g12_τ51 : τ51.2.1 12 = τ_26.2.1 12 := hf_τ51.2.1 12 (by decide)
                          have g14_τ51 : τ51.2.1 14 = τ_26.2.1 14 := hf_τ51.2.1 14 (by decide)
                          first | (have o6_τ51 := congrArg oc g6_τ51) | skip
                          first | (have o7_τ51 := congrArg oc g7_τ51) | skip
                          have W0 : τ51.1 0 = σ.1 0 := by omega
                          have W3 : τ51.1 3 = σ.1 3 := by omega
                          have W5 : τ51.1 5 = σ.1 5 := by omega
                          have W7 : τ51.1 7 = σ.1 7 := by omega
                          have W8 : τ51.1 8 = σ.1 8 := by omega
                          have W9 : τ51.1 9 = σ.1 9 := by omega
                          have W22 : τ51.1 22 = σ.1 22 := by omega
                          have G6 : τ51.2.1 6 = σ.2.1 6 := (g6_τ51).trans G6
                          have G7 : τ51.2.1 7 = σ.2.1 7 := (g7_τ51).trans G7
                          have G14 : τ51.2.1 14 = σ.2.1 14 := (g14_τ51).trans G14
                          have y14_22_τ51 : τ51.2.1 14 (τ51.1 22) = (τ_26.2.1 14) (τ_26.1 22) := by rw [g14_τ51, w22_τ51]
                          have Y20 : ca (τ51.2.1 12) ((τ51.1 3)) ≤ (τ51.1 4) := by rw [show (ca (τ51.2.1 12) ((τ51.1 3)) ≤ (τ51.1 4)) = (ca (τ_26.2.1 12) ((τ_26.1 3)) ≤ (τ_26.1 4)) from by rw [w3_τ51, w4_τ51, g12_τ51]]; exact Y20
                          have A6 : ∀ j, (-1) ≤ τ51.2.1 6 j ∧ τ51.2.1 6 j ≤ 999 := fun j => hT.2 6 j
                          have A7 : ∀ j, (-1) ≤ τ51.2.1 7 j ∧ τ51.2.1 7 j ≤ 1499 := fun j => hT.2 7 j
                          have A12 : ∀ j, 0 ≤ τ51.2.1 12 j ∧ τ51.2.1 12 j ≤ 1 := fun j => hT.2 12 j
                          have A14 : ∀ j, 0 ≤ τ51.2.1 14 j ∧ τ51.2.1 14 j ≤ 30000 := fun j => hT.2 14 j
                          have A15 : ∀ j, 0 ≤ τ51.2.1 15 j ∧ τ51.2.1 15 j ≤ 300 := fun j => hT.2 15 j
                          have v0 : 0 ≤ τ51.1 0 ∧ τ51.1 0 ≤ 60000 := hT.1 0
                          have v3 : 0 ≤ τ51.1 3 ∧ τ51.1 3 ≤ 1000 := hT.1 3
                          have v4 : 0 ≤ τ51.1 4 ∧ τ51.1 4 ≤ 100 := hT.1 4
                          have v5 : 0 ≤ τ51.1 5 ∧ τ51.1 5 ≤ 1500 := hT.1 5
                          have v6 : 0 ≤ τ51.1 6 ∧ τ51.1 6 ≤ 30000 := hT.1 6
                          have v7 : 0 ≤ τ51.1 7 ∧ τ51.1 7 ≤ 90000 := hT.1 7
                          have v8 : 0 ≤ τ51.1 8 ∧ τ51.1 8 ≤ 20000 := hT.1 8
                          have v9 : 0 ≤ τ51.1 9 ∧ τ51.1 9 ≤ 20000 := hT.1 9
                          have v16 : 0 ≤ τ51.1 16 ∧ τ51.1 16 ≤ 60000 := hT.1 16
                          have v17 : 0 ≤ τ51.1 17 ∧ τ51.1 17 ≤ 60000 := hT.1 17
                          have v18 : 0 ≤ τ51.1 18 ∧ τ51.1 18 ≤ 60000 := hT.1 18
                          have v19 : (-1) ≤ τ51.1 19 ∧ τ51.1 19 ≤ 125 := hT.1 19
                          have v20 : 0 ≤ τ51.1 20 ∧ τ51.1 20 ≤ 19 := hT.1 20
                          have v22 : 0 ≤ τ51.1 22 ∧ τ51.1 22 ≤ 1499 := hT.1 22
                          have a14_22 : 0 ≤ τ51.2.1 14 (τ51.1 22) ∧ τ51.2.1 14 (τ51.1 22) ≤ 30000 := hT.2 14 _
                          have a15_22 : 0 ≤ τ51.2.1 15 (τ51.1 22) ∧ τ51.2.1 15 (τ51.1 22) ≤ 300 := hT.2 15 _
                          have av6 : σ.1 6 ≤ τ51.1 6 := ag.1 6 (by decide)
                          have Z1 : τ51.2.1 14 (τ51.1 22) + τ51.2.1 15 (τ51.1 22) = τ51.1 6 := by omega
                          refine ⟨_, K_X13_next hT (show (τ51.1 16) ≤ (τ51.1 0) from by (first | omega | (simp only [st_s] <;> omega) | assumption | omega)), ?_⟩
                          intro τ54 hn_τ54 hf_τ54 hq
                          obtain ⟨hT, q52_1, q52_2, q52_3, q52_4, q52_5⟩ := hq
                          replace q52_1 : (τ54.1 16) ≤ (τ54.1 0) := q52_1
                          replace q52_2 : (τ54.1 17) + (τ54.1 18) ≤ (τ54.1 0) := q52_2
                          replace q52_3 : (τ51.1 16) ≤ (τ54.1 16) := q52_3
                          replace q52_4 : ¬ (τ51.1 20) = 0 → (τ54.1 20) = (τ51.1 20) := q52_4
                          replace q52_5 : (τ54.1 20) = 0 → ¬ (τ54.1 19) = 0 → (τ51.1 16) < (τ54.1 16) ∧ 0 < (τ54.1 18) := q52_5
                          replace ag : m_ag σ τ54 := ag_r ag hf_τ54 rfl rfl
                          have w0_τ54 : τ54.1 0 = τ51.1 0 := hf_τ54.1 0 (by decide)
                          have w3_τ54 : τ54.1 3 = τ51.1 3 := hf_τ54.1 3 (by decide)
                          have w4_τ54 : τ54.1 4 = τ51.1 4 := hf_τ54.1 4 (by decide)
                          have w5_τ54 : τ54.1 5 = τ51.1 5 := hf_τ54.1 5 (by decide)
                          have w6_τ54 : τ54.1 6 = τ51.1 6 := hf_τ54.1 6 (by decide)
                          have w7_τ54 : τ54.1 7 = τ51.1 7 := hf_τ54.1 7 (by decide)
                          have w8_τ54 : τ54.1 8 = τ51.1 8 := hf_τ54.1 8 (by decide)
                          have w9_τ54 : τ54.1 9 = τ51.1 9 := hf_τ54.1 9 (by decide)
                          have w22_τ54 : τ54.1 22 = τ51.1 22 := hf_τ54.1 22 (by decide)
                          have g6_τ54 : τ54.2.1 6 = τ51.2.1 6 := hf_τ54.2.1 6 (by decide)
                          have g7_τ54 : τ54.2.1 7 = τ51.2.1 7 := hf_τ54.2.1 7 (by decide)
                          have g12_τ54 : τ54.2.1 12 = τ51.2.1 12 := hf_τ54.2.1 12 (by decide)
                          have g14_τ54 : τ54.2.1 14 = τ51.2.1 14 := hf_τ54.2.1 14 (by decide)
                          have g15_τ54 : τ54.2.1 15 = τ51.2.1 15 := hf_τ54.2.1 15 (by decide)
                          first | (have o6_τ54 := congrArg oc g6_τ54) | skip
                          first | (have o7_τ54 := congrArg oc g7_τ54) | skip
                          have W0 : τ54.1 0 = σ.1 0 := by omega
                          have W3 : τ54.1 3 = σ.1 3 := by omega
                          have W5 : τ54.1 5 = σ.1 5 := by omega
                          have W7 : τ54.1 7 = σ.1 7 := by omega
                          have W8 : τ54.1 8 = σ.1 8 := by omega
                          have W9 : τ54.1 9 = σ.1 9 := by omega
                          have W22 : τ54.1 22 = σ.1 22 := by omega
                          have G6 : τ54.2.1 6 = σ.2.1 6 := (g6_τ54).trans G6
                          have G7 : τ54.2.1 7 = σ.2.1 7 := (g7_τ54).trans G7
                          have G14 : τ54.2.1 14 = σ.2.1 14 := (g14_τ54).trans G14
                          have y14_22_τ54 : τ54.2.1 14 (τ54.1 22) = (τ51.2.1 14) (τ51.1 22) := by rw [g14_τ54, w22_τ54]
                          have y15_22_τ54 : τ54.2.1 15 (τ54.1 22) = (τ51.2.1 15) (τ51.1 22) := by rw [g15_τ54, w22_τ54]
                          have Z1 : τ54.2.1 14 (τ54.1 22) + τ54.2.1 15 (τ54.1 22) = (τ54.1 6) := by rw [show (τ54.2.1 14 (τ54.1 22) + τ54.2.1 15 (τ54.1 22) = (τ54.1 6)) = (τ51.2.1 14 (τ51.1 22) + τ51.2.1 15 (τ51.1 22) = (τ51.1 6)) from by rw [w6_τ54, w22_τ54, g14_τ54, g15_τ54]]; exact Z1
                          have Y20 : ca (τ54.2.1 12) ((τ54.1 3)) ≤ (τ54.1 4) := by rw [show (ca (τ54.2.1 12) ((τ54.1 3)) ≤ (τ54.1 4)) = (ca (τ51.2.1 12) ((τ51.1 3)) ≤ (τ51.1 4)) from by rw [w3_τ54, w4_τ54, g12_τ54]]; exact Y20
                          have A6 : ∀ j, (-1) ≤ τ54.2.1 6 j ∧ τ54.2.1 6 j ≤ 999 := fun j => hT.2 6 j
                          have A7 : ∀ j, (-1) ≤ τ54.2.1 7 j ∧ τ54.2.1 7 j ≤ 1499 := fun j => hT.2 7 j
                          have A12 : ∀ j, 0 ≤ τ54.2.1 12 j ∧ τ54.2.1 12 j ≤ 1 := fun j => hT.2 12 j
                          have A14 : ∀ j, 0 ≤ τ54.2.1 14 j ∧ τ54.2.1 14 j ≤ 30000 := fun j => hT.2 14 j
                          have A15 : ∀ j, 0 ≤ τ54.2.1 15 j ∧ τ54.2.1 15 j ≤ 300 := fun j => hT.2 15 j
                          have v0 : 0 ≤ τ54.1 0 ∧ τ54.1 0 ≤ 60000 := hT.1 0
                          have v3 : 0 ≤ τ54.1 3 ∧ τ54.1 3 ≤ 1000 := hT.1 3
                          have v4 : 0 ≤ τ54.1 4 ∧ τ54.1 4 ≤ 100 := hT.1 4
                          have v5 : 0 ≤ τ54.1 5 ∧ τ54.1 5 ≤ 1500 := hT.1 5
                          have v6 : 0 ≤ τ54.1 6 ∧ τ54.1 6 ≤ 30000 := hT.1 6
                          have v7 : 0 ≤ τ54.1 7 ∧ τ54.1 7 ≤ 90000 := hT.1 7
                          have v8 : 0 ≤ τ54.1 8 ∧ τ54.1 8 ≤ 20000 := hT.1 8
                          have v9 : 0 ≤ τ54.1 9 ∧ τ54.1 9 ≤ 20000 := hT.1 9
                          have v16 : 0 ≤ τ54.1 16 ∧ τ54.1 16 ≤ 60000 := hT.1 16
                          have v17 : 0 ≤ τ54.1 17 ∧ τ54.1 17 ≤ 60000 := hT.1 17
                          have v18 : 0 ≤ τ54.1 18 ∧ τ54.1 18 ≤ 60000 := hT.1 18
                          have v19 : (-1) ≤ τ54.1 19 ∧ τ54.1 19 ≤ 125 := hT.1 19
                          have v20 : 0 ≤ τ54.1 20 ∧ τ54.1 20 ≤ 19 := hT.1 20
                          have v22 : 0 ≤ τ54.1 22 ∧ τ54.1 22 ≤ 1499 := hT.1 22
                          have a14_22 : 0 ≤ τ54.2.1 14 (τ54.1 22) ∧ τ54.2.1 14 (τ54.1 22) ≤ 30000 := hT.2 14 _
                          have a15_22 : 0 ≤ τ54.2.1 15 (τ54.1 22) ∧ τ54.2.1 15 (τ54.1 22) ≤ 300 := hT.2 15 _
                          have av6 : σ.1 6 ≤ τ54.1 6 := ag.1 6 (by decide)
                          exact ih_26 _ (show (3 * ((τ54.1 0) - (τ54.1 16)) + z_0 ((τ54.1 20)) + 1 - z_0 ((τ54.1 19)) : Int) < ((m_26 : Nat) : Int) from by (have zz0 := z_e ((τ54.1 20)); have zz1 := z_e ((τ54.1 19)); (first | omega | (simp only [st_s] <;> omega) | assumption | omega))) hT ag (show τ54.1 0 = σ.1 0 from by omega) (show τ54.1 3 = σ.1 3 from by omega) (show τ54.1 5 = σ.1 5 from by omega) (show τ54.1 7 = σ.1 7 from by omega) (show τ54.1 8 = σ.1 8 from by omega) (show τ54.1 9 = σ.1 9 from by omega) (show τ54.1 22 = σ.1 22 from by omega) G6 G7 G14 (show (τ54.1 16) ≤ (τ54.1 0) from by (first | omega | (simp only [st_s] <;> omega) | assumption | omega)) (show (τ54.1 17) + (τ54.1 18) ≤ (τ54.1 0) from by (first | omega | (simp only [st_s] <;> omega) | assumption | omega)) (show oc (τ54.2.1 6) < 4096 from by (first | omega | (simp only [st_s] <;> omega) | assumption | omega)) (show oc (τ54.2.1 7) < 4096 from by (first | omega | (simp only [st_s] <;> omega) | assumption | omega)) (show ¬ (σ.1 20) = 0 → (τ54.1 20) = (σ.1 20) from by (first | omega | (simp only [st_s] <;> omega) | assumption | omega)) (show τ54.2.1 14 (τ54.1 22) + τ54.2.1 15 (τ54.1 22) = (τ54.1 6) from Z1) (show ca (τ54.2.1 12) ((τ54.1 3)) ≤ (τ54.1 4) from Y20) (show (τ54.1 20) = 0 → 1 ≤ τ54.2.1 15 (τ54.1 22) from by (first | omega | (simp only [st_s] <;> omega) | assumption | omega)) (show (σ.1 16) ≤ (τ54.1 16) from by (first | omega | (simp only [st_s] <;> omega) | assumption | omega))
                        ·
                          intro x48 r_x48 e_x48
                          have b_x48 : (-1) ≤ x48 ∧ x48 ≤ 1499 := by rw [e_x48]; exact hT.2 11 _
                          refine h174 _ _ _ _ ?_
                          refine ⟨_, K_X13_addSymbol hT (show 0 ≤ x16 from by (first | omega | (simp only [st_s] <;> omega) | assumption | omega)) (show x16 < 1000 from by (first | omega | (simp only [st_s] <;> omega) | assumption | omega)) (show -1 ≤ x48 from by (first | omega | (simp only [st_s] <;> omega) | assumption | omega)) (show x48 ≤ 1499 from by (first | omega | (simp only [st_s] <;> omega) | assumption | omega)) (show (τ_26.1 6) < 30000 from by (first | omega | (simp only [st_s] <;> omega) | assumption | omega)) (show τ_26.2.1 15 (τ_26.1 22) < 300 from by (rw [← e_x19]; omega)) (show (τ_26.1 22) = (τ_26.1 5) from by (first | omega | (simp only [st_s] <;> omega) | assumption | omega)), ?_⟩
                          intro τ51 hn_τ51 hf_τ51 hq
                          obtain ⟨hT, q49_1, q49_2, q49_3⟩ := hq
                          replace q49_1 : (τ51.1 6) = (τ_26.1 6) + 1 := q49_1
                          replace q49_2 : τ51.2.1 15 (τ51.1 22) = τ_26.2.1 15 (τ_26.1 22) + 1 := q49_2
                          replace q49_3 : m_ag τ_26 τ51 := q49_3
                          replace ag : m_ag σ τ51 := ag_t ag q49_3 rfl
                          have w0_τ51 : τ51.1 0 = τ_26.1 0 := hf_τ51.1 0 (by decide)
                          have w3_τ51 : τ51.1 3 = τ_26.1 3 := hf_τ51.1 3 (by decide)
                          have w4_τ51 : τ51.1 4 = τ_26.1 4 := hf_τ51.1 4 (by decide)
                          have w5_τ51 : τ51.1 5 = τ_26.1 5 := hf_τ51.1 5 (by decide)
                          have w7_τ51 : τ51.1 7 = τ_26.1 7 := hf_τ51.1 7 (by decide)
                          have w8_τ51 : τ51.1 8 = τ_26.1 8 := hf_τ51.1 8 (by decide)
                          have w9_τ51 : τ51.1 9 = τ_26.1 9 := hf_τ51.1 9 (by decide)
                          have w16_τ51 : τ51.1 16 = τ_26.1 16 := hf_τ51.1 16 (by decide)
                          have w17_τ51 : τ51.1 17 = τ_26.1 17 := hf_τ51.1 17 (by decide)
                          have w18_τ51 : τ51.1 18 = τ_26.1 18 := hf_τ51.1 18 (by decide)
                          have w19_τ51 : τ51.1 19 = τ_26.1 19 := hf_τ51.1 19 (by decide)
                          have w20_τ51 : τ51.1 20 = τ_26.1 20 := hf_τ51.1 20 (by decide)
                          have w22_τ51 : τ51.1 22 = τ_26.1 22 := hf_τ51.1 22 (by decide)
                          have g6_τ51 : τ51.2.1 6 = τ_26.2.1 6 := hf_τ51.2.1 6 (by decide)
                          have g7_τ51 : τ51.2.1 7 = τ_26.2.1 7 := hf_τ51.2.1 7 (by decide)
                          have g12_τ51 : τ51.2.1 12 = τ_26.2.1 12 := hf_τ51.2.1 12 (by decide)
                          have g14_τ51 : τ51.2.1 14 = τ_26.2.1 14 := hf_τ51.2.1 14 (by decide)
                          first | (have o6_τ51 := congrArg oc g6_τ51) | skip
                          first | (have o7_τ51 := congrArg oc g7_τ51) | skip
                          have W0 : τ51.1 0 = σ.1 0 := by omega
                          have W3 : τ51.1 3 = σ.1 3 := by omega
                          have W5 : τ51.1 5 = σ.1 5 := by omega
                          have W7 : τ51.1 7 = σ.1 7 := by omega
                          have W8 : τ51.1 8 = σ.1 8 := by omega
                          have W9 : τ51.1 9 = σ.1 9 := by omega
                          have W22 : τ51.1 22 = σ.1 22 := by omega
                          have G6 : τ51.2.1 6 = σ.2.1 6 := (g6_τ51).trans G6
                          have G7 : τ51.2.1 7 = σ.2.1 7 := (g7_τ51).trans G7
                          have G14 : τ51.2.1 14 = σ.2.1 14 := (g14_τ51).trans G14
                          have y14_22_τ51 : τ51.2.1 14 (τ51.1 22) = (τ_26.2.1 14) (τ_26.1 22) := by rw [g14_τ51, w22_τ51]
                          have Y20 : ca (τ51.2.1 12) ((τ51.1 3)) ≤ (τ51.1 4) := by rw [show (ca (τ51.2.1 12) ((τ51.1 3)) ≤ (τ51.1 4)) = (ca (τ_26.2.1 12) ((τ_26.1 3)) ≤ (τ_26.1 4)) from by rw [w3_τ51, w4_τ51, g12_τ51]]; exact Y20
                          have A6 : ∀ j, (-1) ≤ τ51.2.1 6 j ∧ τ51.2.1 6 j ≤ 999 := fun j => hT.2 6 j
                          have A7 : ∀ j, (-1) ≤ τ51.2.1 7 j ∧ τ51.2.1 7 j ≤ 1499 := fun j => hT.2 7 j
                          have A12 : ∀ j, 0 ≤ τ51.2.1 12 j ∧ τ51.2.1 12 j ≤ 1 := fun j => hT.2 12 j
                          have A14 : ∀ j, 0 ≤ τ51.2.1 14 j ∧ τ51.2.1 14 j ≤ 30000 := fun j => hT.2 14 j
                          have A15 : ∀ j, 0 ≤ τ51.2.1 15 j ∧ τ51.2.1 15 j ≤ 300 := fun j => hT.2 15 j
                          have v0 : 0 ≤ τ51.1 0 ∧ τ51.1 0 ≤ 60000 := hT.1 0
                          have v3 : 0 ≤ τ51.1 3 ∧ τ51.1 3 ≤ 1000 := hT.1 3
                          have v4 : 0 ≤ τ51.1 4 ∧ τ51.1 4 ≤ 100 := hT.1 4
                          have v5 : 0 ≤ τ51.1 5 ∧ τ51.1 5 ≤ 1500 := hT.1 5
                          have v6 : 0 ≤ τ51.1 6 ∧ τ51.1 6 ≤ 30000 := hT.1 6
                          have v7 : 0 ≤ τ51.1 7 ∧ τ51.1 7 ≤ 90000 := hT.1 7
                          have v8 : 0 ≤ τ51.1 8 ∧ τ51.1 8 ≤ 20000 := hT.1 8
                          have v9 : 0 ≤ τ51.1 9 ∧ τ51.1 9 ≤ 20000 := hT.1 9
                          have v16 : 0 ≤ τ51.1 16 ∧ τ51.1 16 ≤ 60000 := hT.1 16
                          have v17 : 0 ≤ τ51.1 17 ∧ τ51.1 17 ≤ 60000 := hT.1 17
                          have v18 : 0 ≤ τ51.1 18 ∧ τ51.1 18 ≤ 60000 := hT.1 18
                          have v19 : (-1) ≤ τ51.1 19 ∧ τ51.1 19 ≤ 125 := hT.1 19
                          have v20 : 0 ≤ τ51.1 20 ∧ τ51.1 20 ≤ 19 := hT.1 20
                          have v22 : 0 ≤ τ51.1 22 ∧ τ51.1 22 ≤ 1499 := hT.1 22
                          have a14_22 : 0 ≤ τ51.2.1 14 (τ51.1 22) ∧ τ51.2.1 14 (τ51.1 22) ≤ 30000 := hT.2 14 _
                          have a15_22 : 0 ≤ τ51.2.1 15 (τ51.1 22) ∧ τ51.2.1 15 (τ51.1 22) ≤ 300 := hT.2 15 _
                          have av6 : σ.1 6 ≤ τ51.1 6 := ag.1 6 (by decide)
                          have Z1 : τ51.2.1 14 (τ51.1 22) + τ51.2.1 15 (τ51.1 22) = τ51.1 6 := by omega
                          refine ⟨_, K_X13_next hT (show (τ51.1 16) ≤ (τ51.1 0) from by (first | omega | (simp only [st_s] <;> omega) | assumption | omega)), ?_⟩
                          intro τ54 hn_τ54 hf_τ54 hq
                          obtain ⟨hT, q52_1, q52_2, q52_3, q52_4, q52_5⟩ := hq
                          replace q52_1 : (τ54.1 16) ≤ (τ54.1 0) := q52_1
                          replace q52_2 : (τ54.1 17) + (τ54.1 18) ≤ (τ54.1 0) := q52_2
                          replace q52_3 : (τ51.1 16) ≤ (τ54.1 16) := q52_3
                          replace q52_4 : ¬ (τ51.1 20) = 0 → (τ54.1 20) = (τ51.1 20) := q52_4
                          replace q52_5 : (τ54.1 20) = 0 → ¬ (τ54.1 19) = 0 → (τ51.1 16) < (τ54.1 16) ∧ 0 < (τ54.1 18) := q52_5
                          replace ag : m_ag σ τ54 := ag_r ag hf_τ54 rfl rfl
                          have w0_τ54 : τ54.1 0 = τ51.1 0 := hf_τ54.1 0 (by decide)
                          have w3_τ54 : τ54.1 3 = τ51.1 3 := hf_τ54.1 3 (by decide)
                          have w4_τ54 : τ54.1 4 = τ51.1 4 := hf_τ54.1 4 (by decide)
                          have w5_τ54 : τ54.1 5 = τ51.1 5 := hf_τ54.1 5 (by decide)
                          have w6_τ54 : τ54.1 6 = τ51.1 6 := hf_τ54.1 6 (by decide)
                          have w7_τ54 : τ54.1 7 = τ51.1 7 := hf_τ54.1 7 (by decide)
                          have w8_τ54 : τ54.1 8 = τ51.1 8 := hf_τ54.1 8 (by decide)
                          have w9_τ54 : τ54.1 9 = τ51.1 9 := hf_τ54.1 9 (by decide)
                          have w22_τ54 : τ54.1 22 = τ51.1 22 := hf_τ54.1 22 (by decide)
                          have g6_τ54 : τ54.2.1 6 = τ51.2.1 6 := hf_τ54.2.1 6 (by decide)
                          have g7_τ54 : τ54.2.1 7 = τ51.2.1 7 := hf_τ54.2.1 7 (by decide)
                          have g12_τ54 : τ54.2.1 12 = τ51.2.1 12 := hf_τ54.2.1 12 (by decide)
                          have g14_τ54 : τ54.2.1 14 = τ51.2.1 14 := hf_τ54.2.1 14 (by decide)
                          have g15_τ54 : τ54.2.1 15 = τ51.2.1 15 := hf_τ54.2.1 15 (by decide)
                          first | (have o6_τ54 := congrArg oc g6_τ54) | skip
                          first | (have o7_τ54 := congrArg oc g7_τ54) | skip
                          have W0 : τ54.1 0 = σ.1 0 := by omega
                          have W3 : τ54.1 3 = σ.1 3 := by omega
                          have W5 : τ54.1 5 = σ.1 5 := by omega
                          have W7 : τ54.1 7 = σ.1 7 := by omega
                          have W8 : τ54.1 8 = σ.1 8 := by omega
                          have W9 : τ54.1 9 = σ.1 9 := by omega
                          have W22 : τ54.1 22 = σ.1 22 := by omega
                          have G6 : τ54.2.1 6 = σ.2.1 6 := (g6_τ54).trans G6
                          have G7 : τ54.2.1 7 = σ.2.1 7 := (g7_τ54).trans G7
                          have G14 : τ54.2.1 14 = σ.2.1 14 := (g14_τ54).trans G14
                          have y14_22_τ54 : τ54.2.1 14 (τ54.1 22) = (τ51.2.1 14) (τ51.1 22) := by rw [g14_τ54, w22_τ54]
                          have y15_22_τ54 : τ54.2.1 15 (τ54.1 22) = (τ51.2.1 15) (τ51.1 22) := by rw [g15_τ54, w22_τ54]
                          have Z1 : τ54.2.1 14 (τ54.1 22) + τ54.2.1 15 (τ54.1 22) = (τ54.1 6) := by rw [show (τ54.2.1 14 (τ54.1 22) + τ54.2.1 15 (τ54.1 22) = (τ54.1 6)) = (τ51.2.1 14 (τ51.1 22) + τ51.2.1 15 (τ51.1 22) = (τ51.1 6)) from by rw [w6_τ54, w22_τ54, g14_τ54, g15_τ54]]; exact Z1
                          have Y20 : ca (τ54.2.1 12) ((τ54.1 3)) ≤ (τ54.1 4) := by rw [show (ca (τ54.2.1 12) ((τ54.1 3)) ≤ (τ54.1 4)) = (ca (τ51.2.1 12) ((τ51.1 3)) ≤ (τ51.1 4)) from by rw [w3_τ54, w4_τ54, g12_τ54]]; exact Y20
                          have A6 : ∀ j, (-1) ≤ τ54.2.1 6 j ∧ τ54.2.1 6 j ≤ 999 := fun j => hT.2 6 j
                          have A7 : ∀ j, (-1) ≤ τ54.2.1 7 j ∧ τ54.2.1 7 j ≤ 1499 := fun j => hT.2 7 j
                          have A12 : ∀ j, 0 ≤ τ54.2.1 12 j ∧ τ54.2.1 12 j ≤ 1 := fun j => hT.2 12 j
                          have A14 : ∀ j, 0 ≤ τ54.2.1 14 j ∧ τ54.2.1 14 j ≤ 30000 := fun j => hT.2 14 j
                          have A15 : ∀ j, 0 ≤ τ54.2.1 15 j ∧ τ54.2.1 15 j ≤ 300 := fun j => hT.2 15 j
                          have v0 : 0 ≤ τ54.1 0 ∧ τ54.1 0 ≤ 60000 := hT.1 0
                          have v3 : 0 ≤ τ54.1 3 ∧ τ54.1 3 ≤ 1000 := hT.1 3
                          have v4 : 0 ≤ τ54.1 4 ∧ τ54.1 4 ≤ 100 := hT.1 4
                          have v5 : 0 ≤ τ54.1 5 ∧ τ54.1 5 ≤ 1500 := hT.1 5
                          have v6 : 0 ≤ τ54.1 6 ∧ τ54.1 6 ≤ 30000 := hT.1 6
                          have v7 : 0 ≤ τ54.1 7 ∧ τ54.1 7 ≤ 90000 := hT.1 7
                          have v8 : 0 ≤ τ54.1 8 ∧ τ54.1 8 ≤ 20000 := hT.1 8
                          have v9 : 0 ≤ τ54.1 9 ∧ τ54.1 9 ≤ 20000 := hT.1 9
                          have v16 : 0 ≤ τ54.1 16 ∧ τ54.1 16 ≤ 60000 := hT.1 16
                          have v17 : 0 ≤ τ54.1 17 ∧ τ54.1 17 ≤ 60000 := hT.1 17
                          have v18 : 0 ≤ τ54.1 18 ∧ τ54.1 18 ≤ 60000 := hT.1 18
                          have v19 : (-1) ≤ τ54.1 19 ∧ τ54.1 19 ≤ 125 := hT.1 19
                          have v20 : 0 ≤ τ54.1 20 ∧ τ54.1 20 ≤ 19 := hT.1 20
                          have v22 : 0 ≤ τ54.1 22 ∧ τ54.1 22 ≤ 1499 := hT.1 22
                          have a14_22 : 0 ≤ τ54.2.1 14 (τ54.1 22) ∧ τ54.2.1 14 (τ54.1 22) ≤ 30000 := hT.2 14 _
                          have a15_22 : 0 ≤ τ54.2.1 15 (τ54.1 22) ∧ τ54.2.1 15 (τ54.1 22) ≤ 300 := hT.2 15 _
                          have av6 : σ.1 6 ≤ τ54.1 6 := ag.1 6 (by decide)
                          exact ih_26 _ (show (3 * ((τ54.1 0) - (τ54.1 16)) + z_0 ((τ54.1 20)) + 1 - z_0 ((τ54.1 19)) : Int) < ((m_26 : Nat) : Int) from by (have zz0 := z_e ((τ54.1 20)); have zz1 := z_e ((τ54.1 19)); (first | omega | (simp only [st_s] <;> omega) | assumption | omega))) hT ag (show τ54.1 0 = σ.1 0 from by omega) (show τ54.1 3 = σ.1 3 from by omega) (show τ54.1 5 = σ.1 5 from by omega) (show τ54.1 7 = σ.1 7 from by omega) (show τ54.1 8 = σ.1 8 from by omega) (show τ54.1 9 = σ.1 9 from by omega) (show τ54.1 22 = σ.1 22 from by omega) G6 G7 G14 (show (τ54.1 16) ≤ (τ54.1 0) from by (first | omega | (simp only [st_s] <;> omega) | assumption | omega)) (show (τ54.1 17) + (τ54.1 18) ≤ (τ54.1 0) from by (first | omega | (simp only [st_s] <;> omega) | assumption | omega)) (show oc (τ54.2.1 6) < 4096 from by (first | omega | (simp only [st_s] <;> omega) | assumption | omega)) (show oc (τ54.2.1 7) < 4096 from by (first | omega | (simp only [st_s] <;> omega) | assumption | omega)) (show ¬ (σ.1 20) = 0 → (τ54.1 20) = (σ.1 20) from by (first | omega | (simp only [st_s] <;> omega) | assumption | omega)) (show τ54.2.1 14 (τ54.1 22) + τ54.2.1 15 (τ54.1 22) = (τ54.1 6) from Z1) (show ca (τ54.2.1 12) ((τ54.1 3)) ≤ (τ54.1 4) from Y20) (show (τ54.1 20) = 0 → 1 ≤ τ54.2.1 15 (τ54.1 22) from by (first | omega | (simp only [st_s] <;> omega) | assumption | omega)) (show (σ.1 16) ≤ (τ54.1 16) from by (first | omega | (simp only [st_s] <;> omega) | assumption | omega))
                      ·
                        refine ⟨_, K_X13_failHere hT (show 0 ≤ 11 from by (first | omega | (simp only [st_s] <;> omega) | assumption | omega)) (show 11 ≤ 19 from by (first | omega | (simp only [st_s] <;> omega) | assumption | omega)), ?_⟩
                        intro τ44 hn_τ44 hf_τ44 hq
                        obtain ⟨hT, q42_1, q42_2⟩ := hq
                        replace q42_1 : ¬ (τ_26.1 20) = 0 → (τ44.1 20) = (τ_26.1 20) := q42_1
                        replace q42_2 : (τ_26.1 20) = 0 → (τ44.1 20) = 11 := q42_2
                        replace ag : m_ag σ τ44 := ag_r ag hf_τ44 rfl rfl
                        have w0_τ44 : τ44.1 0 = τ_26.1 0 := hf_τ44.1 0 (by decide)
                        have w3_τ44 : τ44.1 3 = τ_26.1 3 := hf_τ44.1 3 (by decide)
                        have w4_τ44 : τ44.1 4 = τ_26.1 4 := hf_τ44.1 4 (by decide)
                        have w5_τ44 : τ44.1 5 = τ_26.1 5 := hf_τ44.1 5 (by decide)
                        have w6_τ44 : τ44.1 6 = τ_26.1 6 := hf_τ44.1 6 (by decide)
                        have w7_τ44 : τ44.1 7 = τ_26.1 7 := hf_τ44.1 7 (by decide)
                        have w8_τ44 : τ44.1 8 = τ_26.1 8 := hf_τ44.1 8 (by decide)
                        have w9_τ44 : τ44.1 9 = τ_26.1 9 := hf_τ44.1 9 (by decide)
                        have w16_τ44 : τ44.1 16 = τ_26.1 16 := hf_τ44.1 16 (by decide)
                        have w17_τ44 : τ44.1 17 = τ_26.1 17 := hf_τ44.1 17 (by decide)
                        have w18_τ44 : τ44.1 18 = τ_26.1 18 := hf_τ44.1 18 (by decide)
                        have w19_τ44 : τ44.1 19 = τ_26.1 19 := hf_τ44.1 19 (by decide)
                        have w22_τ44 : τ44.1 22 = τ_26.1 22 := hf_τ44.1 22 (by decide)
                        have g6_τ44 : τ44.2.1 6 = τ_26.2.1 6 := hf_τ44.2.1 6 (by decide)
                        have g7_τ44 : τ44.2.1 7 = τ_26.2.1 7 := hf_τ44.2.1 7 (by decide)
                        have g12_τ44 : τ44.2.1 12 = τ_26.2.1 12 := hf_τ44.2.1 12 (by decide)
                        have g14_τ44 : τ44.2.1 14 = τ_26.2.1 14 := hf_τ44.2.1 14 (by decide)
                        have g15_τ44 : τ44.2.1 15 = τ_26.2.1 15 := hf_τ44.2.1 15 (by decide)
                        first | (have o6_τ44 := congrArg oc g6_τ44) | skip
                        first | (have o7_τ44 := congrArg oc g7_τ44) | skip
                        have W0 : τ44.1 0 = σ.1 0 := by omega
                        have W3 : τ44.1 3 = σ.1 3 := by omega
                        have W5 : τ44.1 5 = σ.1 5 := by omega
                        have W7 : τ44.1 7 = σ.1 7 := by omega
                        have W8 : τ44.1 8 = σ.1 8 := by omega
                        have W9 : τ44.1 9 = σ.1 9 := by omega
                        have W22 : τ44.1 22 = σ.1 22 := by omega
                        have G6 : τ44.2.1 6 = σ.2.1 6 := (g6_τ44).trans G6
                        have G7 : τ44.2.1 7 = σ.2.1 7 := (g7_τ44).trans G7
                        have G14 : τ44.2.1 14 = σ.2.1 14 := (g14_τ44).trans G14
                        have y14_22_τ44 : τ44.2.1 14 (τ44.1 22) = (τ_26.2.1 14) (τ_26.1 22) := by rw [g14_τ44, w22_τ44]
                        have y15_22_τ44 : τ44.2.1 15 (τ44.1 22) = (τ_26.2.1 15) (τ_26.1 22) := by rw [g15_τ44, w22_τ44]
                        have Z1 : τ44.2.1 14 (τ44.1 22) + τ44.2.1 15 (τ44.1 22) = (τ44.1 6) := by rw [show (τ44.2.1 14 (τ44.1 22) + τ44.2.1 15 (τ44.1 22) = (τ44.1 6)) = (τ_26.2.1 14 (τ_26.1 22) + τ_26.2.1 15 (τ_26.1 22) = (τ_26.1 6)) from by rw [w6_τ44, w22_τ44, g14_τ44, g15_τ44]]; exact Z1
                        have Y20 : ca (τ44.2.1 12) ((τ44.1 3)) ≤ (τ44.1 4) := by rw [show (ca (τ44.2.1 12) ((τ44.1 3)) ≤ (τ44.1 4)) = (ca (τ_26.2.1 12) ((τ_26.1 3)) ≤ (τ_26.1 4)) from by rw [w3_τ44, w4_τ44, g12_τ44]]; exact Y20
                        have A6 : ∀ j, (-1) ≤ τ44.2.1 6 j ∧ τ44.2.1 6 j ≤ 999 := fun j => hT.2 6 j
                        have A7 : ∀ j, (-1) ≤ τ44.2.1 7 j ∧ τ44.2.1 7 j ≤ 1499 := fun j => hT.2 7 j
                        have A12 : ∀ j, 0 ≤ τ44.2.1 12 j ∧ τ44.2.1 12 j ≤ 1 := fun j => hT.2 12 j
                        have A14 : ∀ j, 0 ≤ τ44.2.1 14 j ∧ τ44.2.1 14 j ≤ 30000 := fun j => hT.2 14 j
                        have A15 : ∀ j, 0 ≤ τ44.2.1 15 j ∧ τ44.2.1 15 j ≤ 300 := fun j => hT.2 15 j
                        have v0 : 0 ≤ τ44.1 0 ∧ τ44.1 0 ≤ 60000 := hT.1 0
                        have v3 : 0 ≤ τ44.1 3 ∧ τ44.1 3 ≤ 1000 := hT.1 3
                        have v4 : 0 ≤ τ44.1 4 ∧ τ44.1 4 ≤ 100 := hT.1 4
                        have v5 : 0 ≤ τ44.1 5 ∧ τ44.1 5 ≤ 1500 := hT.1 5
                        have v6 : 0 ≤ τ44.1 6 ∧ τ44.1 6 ≤ 30000 := hT.1 6
                        have v7 : 0 ≤ τ44.1 7 ∧ τ44.1 7 ≤ 90000 := hT.1 7
                        have v8 : 0 ≤ τ44.1 8 ∧ τ44.1 8 ≤ 20000 := hT.1 8
                        have v9 : 0 ≤ τ44.1 9 ∧ τ44.1 9 ≤ 20000 := hT.1 9
                        have v16 : 0 ≤ τ44.1 16 ∧ τ44.1 16 ≤ 60000 := hT.1 16
                        have v17 : 0 ≤ τ44.1 17 ∧ τ44.1 17 ≤ 60000 := hT.1 17
                        have v18 : 0 ≤ τ44.1 18 ∧ τ44.1 18 ≤ 60000 := hT.1 18
                        have v19 : (-1) ≤ τ44.1 19 ∧ τ44.1 19 ≤ 125 := hT.1 19
                        have v20 : 0 ≤ τ44.1 20 ∧ τ44.1 20 ≤ 19 := hT.1 20
                        have v22 : 0 ≤ τ44.1 22 ∧ τ44.1 22 ≤ 1499 := hT.1 22
                        have a14_22 : 0 ≤ τ44.2.1 14 (τ44.1 22) ∧ τ44.2.1 14 (τ44.1 22) ≤ 30000 := hT.2 14 _
                        have a15_22 : 0 ≤ τ44.2.1 15 (τ44.1 22) ∧ τ44.2.1 15 (τ44.1 22) ≤ 300 := hT.2 15 _
                        have av6 : σ.1 6 ≤ τ44.1 6 := ag.1 6 (by decide)
                        exact ih_26 _ (show (3 * ((τ44.1 0) - (τ44.1 16)) + z_0 ((τ44.1 20)) + 1 - z_0 ((τ44.1 19)) : Int) < ((m_26 : Nat) : Int) from by (have zz0 := z_e ((τ44.1 20)); have zz1 := z_e ((τ44.1 19)); (first | omega | (simp only [st_s] <;> omega) | assumption | omega))) hT ag (show τ44.1 0 = σ.1 0 from by omega) (show τ44.1 3 = σ.1 3 from by omega) (show τ44.1 5 = σ.1 5 from by omega) (show τ44.1 7 = σ.1 7 from by omega) (show τ44.1 8 = σ.1 8 from by omega) (show τ44.1 9 = σ.1 9 from by omega) (show τ44.1 22 = σ.1 22 from by omega) G6 G7 G14 (show (τ44.1 16) ≤ (τ44.1 0) from by (first | omega | (simp only [st_s] <;> omega) | assumption | omega)) (show (τ44.1 17) + (τ44.1 18) ≤ (τ44.1 0) from by (first | omega | (simp only [st_s] <;> omega) | assumption | omega)) (show oc (τ44.2.1 6) < 4096 from by (first | omega | (simp only [st_s] <;> omega) | assumption | omega)) (show oc (τ44.2.1 7) < 4096 from by (first | omega | (simp only [st_s] <;> omega) | assumption | omega)) (show ¬ (σ.1 20) = 0 → (τ44.1 20) = (σ.1 20) from by (first | omega | (simp only [st_s] <;> omega) | assumption | omega)) (show τ44.2.1 14 (τ44.1 22) + τ44.2.1 15 (τ44.1 22) = (τ44.1 6) from Z1) (show ca (τ44.2.1 12) ((τ44.1 3)) ≤ (τ44.1 4) from Y20) (show (τ44.1 20) = 0 → 1 ≤ τ44.2.1 15 (τ44.1 22) from by (first | omega | (simp only [st_s] <;> omega) | assumption | omega)) (show (σ.1 16) ≤ (τ44.1 16) from by (first | omega | (simp only [st_s] <;> omega) | assumption | omega))
                  ·
                    intro x26 r_x26 e_x26
                    have b_x26 : 0 ≤ x26 ∧ x26 ≤ 1 := by rw [e_x26]; exact hT.2 9 _
                    refine ⟨fun c27 => ?_, fun c27 => ?_⟩
                    ·
                      refine h125 _ _ _ ?_
                      refine ⟨(show 0 ≤ x16 ∧ x16 < 1001 from by (first | omega | (simp only [st_s] <;> omega) | assumption | omega)), ?_⟩
                      intro x38 r_x38 e_x38
                      have b_x38 : 0 ≤ x38 ∧ x38 ≤ 1 := by rw [e_x38]; exact hT.2 8 _
                      refine ⟨fun c39 => ?_, fun c39 => ?_⟩
                      ·
                        refine h153 _ _ _ ?_
                        refine ⟨(show 0 ≤ x16 ∧ x16 < 1001 from by (first | omega | (simp only [st_s] <;> omega) | assumption | omega)), ?_⟩
                        intro x46 r_x46 e_x46
                        have b_x46 : 0 ≤ x46 ∧ x46 ≤ 1 := by rw [e_x46]; exact hT.2 8 _
                        refine ⟨fun c47 => ?_, fun c47 => ?_⟩
                        ·
                          refine h174 _ _ _ _ ?_
                          refine ⟨_, K_X13_addSymbol hT (show 0 ≤ x16 from by (first | omega | (simp only [st_s] <;> omega) | assumption | omega)) (show x16 < 1000 from by (first | omega | (simp only [st_s] <;> omega) | assumption | omega)) (show -1 ≤ (-1) from by (first | omega | (simp only [st_s] <;> omega) | assumption | omega)) (show (-1) ≤ 1499 from by (first | omega | (simp only [st_s] <;> omega) | assumption | omega)) (show (τ_26.1 6) < 30000 from by (first | omega | (simp only [st_s] <;> omega) | assumption | omega)) (show τ_26.2.1 15 (τ_26.1 22) < 300 from by (rw [← e_x19]; omega)) (show (τ_26.1 22) = (τ_26.1 5) from by (first | omega | (simp only [st_s] <;> omega) | assumption | omega)), ?_⟩
                          intro τ51 hn_τ51 hf_τ51 hq
                          obtain ⟨hT, q49_1, q49_2, q49_3⟩ := hq
                          replace q49_1 : (τ51.1 6) = (τ_26.1 6) + 1 := q49_1
                          replace q49_2 : τ51.2.1 15 (τ51.1 22) = τ_26.2.1 15 (τ_26.1 22) + 1 := q49_2
                          replace q49_3 : m_ag τ_26 τ51 := q49_3
                          replace ag : m_ag σ τ51 := ag_t ag q49_3 rfl
                          have w0_τ51 : τ51.1 0 = τ_26.1 0 := hf_τ51.1 0 (by decide)
                          have w3_τ51 : τ51.1 3 = τ_26.1 3 := hf_τ51.1 3 (by decide)
                          have w4_τ51 : τ51.1 4 = τ_26.1 4 := hf_τ51.1 4 (by decide)
                          have w5_τ51 : τ51.1 5 = τ_26.1 5 := hf_τ51.1 5 (by decide)
                          have w7_τ51 : τ51.1 7 = τ_26.1 7 := hf_τ51.1 7 (by decide)
                          have w8_τ51 : τ51.1 8 = τ_26.1 8 := hf_τ51.1 8 (by decide)
                          have w9_τ51 : τ51.1 9 = τ_26.1 9 := hf_τ51.1 9 (by decide)
                          have w16_τ51 : τ51.1 16 = τ_26.1 16 := hf_τ51.1 16 (by decide)
                          have w17_τ51 : τ51.1 17 = τ_26.1 17 := hf_τ51.1 17 (by decide)
                          have w18_τ51 : τ51.1 18 = τ_26.1 18 := hf_τ51.1 18 (by decide)
                          have w19_τ51 : τ51.1 19 = τ_26.1 19 := hf_τ51.1 19 (by decide)
                          have w20_τ51 : τ51.1 20 = τ_26.1 20 := hf_τ51.1 20 (by decide)
                          have w22_τ51 : τ51.1 22 = τ_26.1 22 := hf_τ51.1 22 (by decide)
                          have g6_τ51 : τ51.2.1 6 = τ_26.2.1 6 := hf_τ51.2.1 6 (by decide)
                          have g7_τ51 : τ51.2.1 7 = τ_26.2.1 7 := hf_τ51.2.1 7 (by decide)
                          have g12_τ51 : τ51.2.1 12 = τ_26.2.1 12 := hf_τ51.2.1 12 (by decide)
                          have g14_τ51 : τ51.2.1 14 = τ_26.2.1 14 := hf_τ51.2.1 14 (by decide)
                          first | (have o6_τ51 := congrArg oc g6_τ51) | skip
                          first | (have o7_τ51 := congrArg oc g7_τ51) | skip
                          have W0 : τ51.1 0 = σ.1 0 := by omega
                          have W3 : τ51.1 3 = σ.1 3 := by omega
                          have W5 : τ51.1 5 = σ.1 5 := by omega
                          have W7 : τ51.1 7 = σ.1 7 := by omega
                          have W8 : τ51.1 8 = σ.1 8 := by omega
                          have W9 : τ51.1 9 = σ.1 9 := by omega
                          have W22 : τ51.1 22 = σ.1 22 := by omega
                          have G6 : τ51.2.1 6 = σ.2.1 6 := (g6_τ51).trans G6
                          have G7 : τ51.2.1 7 = σ.2.1 7 := (g7_τ51).trans G7
                          have G14 : τ51.2.1 14 = σ.2.1 14 := (g14_τ51).trans G14
                          have y14_22_τ51 : τ51.2.1 14 (τ51.1 22) = (τ_26.2.1 14) (τ_26.1 22) := by rw [g14_τ51, w22_τ51]
                          have Y20 : ca (τ51.2.1 12) ((τ51.1 3)) ≤ (τ51.1 4) := by rw [show (ca (τ51.2.1 12) ((τ51.1 3)) ≤ (τ51.1 4)) = (ca (τ_26.2.1 12) ((τ_26.1 3)) ≤ (τ_26.1 4)) from by rw [w3_τ51, w4_τ51, g12_τ51]]; exact Y20
                          have A6 : ∀ j, (-1) ≤ τ51.2.1 6 j ∧ τ51.2.1 6 j ≤ 999 := fun j => hT.2 6 j
                          have A7 : ∀ j, (-1) ≤ τ51.2.1 7 j ∧ τ51.2.1 7 j ≤ 1499 := fun j => hT.2 7 j
                          have A12 : ∀ j, 0 ≤ τ51.2.1 12 j ∧ τ51.2.1 12 j ≤ 1 := fun j => hT.2 12 j
                          have A14 : ∀ j, 0 ≤ τ51.2.1 14 j ∧ τ51.2.1 14 j ≤ 30000 := fun j => hT.2 14 j
                          have A15 : ∀ j, 0 ≤ τ51.2.1 15 j ∧ τ51.2.1 15 j ≤ 300 := fun j => hT.2 15 j
                          have v0 : 0 ≤ τ51.1 0 ∧ τ51.1 0 ≤ 60000 := hT.1 0
                          have v3 : 0 ≤ τ51.1 3 ∧ τ51.1 3 ≤ 1000 := hT.1 3
                          have v4 : 0 ≤ τ51.1 4 ∧ τ51.1 4 ≤ 100 := hT.1 4
                          have v5 : 0 ≤ τ51.1 5 ∧ τ51.1 5 ≤ 1500 := hT.1 5
                          have v6 : 0 ≤ τ51.1 6 ∧ τ51.1 6 ≤ 30000 := hT.1 6
                          have v7 : 0 ≤ τ51.1 7 ∧ τ51.1 7 ≤ 90000 := hT.1 7
                          have v8 : 0 ≤ τ51.1 8 ∧ τ51.1 8 ≤ 20000 := hT.1 8
                          have v9 : 0 ≤ τ51.1 9 ∧ τ51.1 9 ≤ 20000 := hT.1 9
                          have v16 : 0 ≤ τ51.1 16 ∧ τ51.1 16 ≤ 60000 := hT.1 16
                          have v17 : 0 ≤ τ51.1 17 ∧ τ51.1 17 ≤ 60000 := hT.1 17
                          have v18 : 0 ≤ τ51.1 18 ∧ τ51.1 18 ≤ 60000 := hT.1 18
                          have v19 : (-1) ≤ τ51.1 19 ∧ τ51.1 19 ≤ 125 := hT.1 19
                          have v20 : 0 ≤ τ51.1 20 ∧ τ51.1 20 ≤ 19 := hT.1 20
                          have v22 : 0 ≤ τ51.1 22 ∧ τ51.1 22 ≤ 1499 := hT.1 22
                          have a14_22 : 0 ≤ τ51.2.1 14 (τ51.1 22) ∧ τ51.2.1 14 (τ51.1 22) ≤ 30000 := hT.2 14 _
                          have a15_22 : 0 ≤ τ51.2.1 15 (τ51.1 22) ∧ τ51.2.1 15 (τ51.1 22) ≤ 300 := hT.2 15 _
                          have av6 : σ.1 6 ≤ τ51.1 6 := ag.1 6 (by decide)
                          have Z1 : τ51.2.1 14 (τ51.1 22) + τ51.2.1 15 (τ51.1 22) = τ51.1 6 := by omega
                          refine ⟨_, K_X13_next hT (show (τ51.1 16) ≤ (τ51.1 0) from by (first | omega | (simp only [st_s] <;> omega) | assumption | omega)), ?_⟩
                          intro τ54 hn_τ54 hf_τ54 hq
                          obtain ⟨hT, q52_1, q52_2, q52_3, q52_4, q52_5⟩ := hq
                          replace q52_1 : (τ54.1 16) ≤ (τ54.1 0) := q52_1
                          replace q52_2 : (τ54.1 17) + (τ54.1 18) ≤ (τ54.1 0) := q52_2
                          replace q52_3 : (τ51.1 16) ≤ (τ54.1 16) := q52_3
                          replace q52_4 : ¬ (τ51.1 20) = 0 → (τ54.1 20) = (τ51.1 20) := q52_4
                          replace q52_5 : (τ54.1 20) = 0 → ¬ (τ54.1 19) = 0 → (τ51.1 16) < (τ54.1 16) ∧ 0 < (τ54.1 18) := q52_5
                          replace ag : m_ag σ τ54 := ag_r ag hf_τ54 rfl rfl
                          have w0_τ54 : τ54.1 0 = τ51.1 0 := hf_τ54.1 0 (by decide)
                          have w3_τ54 : τ54.1 3 = τ51.1 3 := hf_τ54.1 3 (by decide)
                          have w4_τ54 : τ54.1 4 = τ51.1 4 := hf_τ54.1 4 (by decide)
                          have w5_τ54 : τ54.1 5 = τ51.1 5 := hf_τ54.1 5 (by decide)
                          have w6_τ54 : τ54.1 6 = τ51.1 6 := hf_τ54.1 6 (by decide)
                          have w7_τ54 : τ54.1 7 = τ51.1 7 := hf_τ54.1 7 (by decide)
                          have w8_τ54 : τ54.1 8 = τ51.1 8 := hf_τ54.1 8 (by decide)
                          have w9_τ54 : τ54.1 9 = τ51.1 9 := hf_τ54.1 9 (by decide)
                          have w22_τ54 : τ54.1 22 = τ51.1 22 := hf_τ54.1 22 (by decide)
                          have g6_τ54 : τ54.2.1 6 = τ51.2.1 6 := hf_τ54.2.1 6 (by decide)
                          have g7_τ54 : τ54.2.1 7 = τ51.2.1 7 := hf_τ54.2.1 7 (by decide)
                          have g12_τ54 : τ54.2.1 12 = τ51.2.1 12 := hf_τ54.2.1 12 (by decide)
                          have g14_τ54 : τ54.2.1 14 = τ51.2.1 14 := hf_τ54.2.1 14 (by decide)
                          have g15_τ54 : τ54.2.1 15 = τ51.2.1 15 := hf_τ54.2.1 15 (by decide)
                          first | (have o6_τ54 := congrArg oc g6_τ54) | skip
                          first | (have o7_τ54 := congrArg oc g7_τ54) | skip
                          have W0 : τ54.1 0 = σ.1 0 := by omega
                          have W3 : τ54.1 3 = σ.1 3 := by omega
                          have W5 : τ54.1 5 = σ.1 5 := by omega
                          have W7 : τ54.1 7 = σ.1 7 := by omega
                          have W8 : τ54.1 8 = σ.1 8 := by omega
                          have W9 : τ54.1 9 = σ.1 9 := by omega
                          have W22 : τ54.1 22 = σ.1 22 := by omega
                          have G6 : τ54.2.1 6 = σ.2.1 6 := (g6_τ54).trans G6
                          have G7 : τ54.2.1 7 = σ.2.1 7 := (g7_τ54).trans G7
                          have G14 : τ54.2.1 14 = σ.2.1 14 := (g14_τ54).trans G14
                          have y14_22_τ54 : τ54.2.1 14 (τ54.1 22) = (τ51.2.1 14) (τ51.1 22) := by rw [g14_τ54, w22_τ54]
                          have y15_22_τ54 : τ54.2.1 15 (τ54.1 22) = (τ51.2.1 15) (τ51.1 22) := by rw [g15_τ54, w22_τ54]
                          have Z1 : τ54.2.1 14 (τ54.1 22) + τ54.2.1 15 (τ54.1 22) = (τ54.1 6) := by rw [show (τ54.2.1 14 (τ54.1 22) + τ54.2.1 15 (τ54.1 22) = (τ54.1 6)) = (τ51.2.1 14 (τ51.1 22) + τ51.2.1 15 (τ51.1 22) = (τ51.1 6)) from by rw [w6_τ54, w22_τ54, g14_τ54, g15_τ54]]; exact Z1
                          have Y20 : ca (τ54.2.1 12) ((τ54.1 3)) ≤ (τ54.1 4) := by rw [show (ca (τ54.2.1 12) ((τ54.1 3)) ≤ (τ54.1 4)) = (ca (τ51.2.1 12) ((τ51.1 3)) ≤ (τ51.1 4)) from by rw [w3_τ54, w4_τ54, g12_τ54]]; exact Y20
                          have A6 : ∀ j, (-1) ≤ τ54.2.1 6 j ∧ τ54.2.1 6 j ≤ 999 := fun j => hT.2 6 j
                          have A7 : ∀ j, (-1) ≤ τ54.2.1 7 j ∧ τ54.2.1 7 j ≤ 1499 := fun j => hT.2 7 j
                          have A12 : ∀ j, 0 ≤ τ54.2.1 12 j ∧ τ54.2.1 12 j ≤ 1 := fun j => hT.2 12 j
                          have A14 : ∀ j, 0 ≤ τ54.2.1 14 j ∧ τ54.2.1 14 j ≤ 30000 := fun j => hT.2 14 j
                          have A15 : ∀ j, 0 ≤ τ54.2.1 15 j ∧ τ54.2.1 15 j ≤ 300 := fun j => hT.2 15 j
                          have v0 : 0 ≤ τ54.1 0 ∧ τ54.1 0 ≤ 60000 := hT.1 0
                          have v3 : 0 ≤ τ54.1 3 ∧ τ54.1 3 ≤ 1000 := hT.1 3
                          have v4 : 0 ≤ τ54.1 4 ∧ τ54.1 4 ≤ 100 := hT.1 4
                          have v5 : 0 ≤ τ54.1 5 ∧ τ54.1 5 ≤ 1500 := hT.1 5
                          have v6 : 0 ≤ τ54.1 6 ∧ τ54.1 6 ≤ 30000 := hT.1 6
                          have v7 : 0 ≤ τ54.1 7 ∧ τ54.1 7 ≤ 90000 := hT.1 7
                          have v8 : 0 ≤ τ54.1 8 ∧ τ54.1 8 ≤ 20000 := hT.1 8
                          have v9 : 0 ≤ τ54.1 9 ∧ τ54.1 9 ≤ 20000 := hT.1 9
                          have v16 : 0 ≤ τ54.1 16 ∧ τ54.1 16 ≤ 60000 := hT.1 16
                          have v17 : 0 ≤ τ54.1 17 ∧ τ54.1 17 ≤ 60000 := hT.1 17
                          have v18 : 0 ≤ τ54.1 18 ∧ τ54.1 18 ≤ 60000 := hT.1 18
                          have v19 : (-1) ≤ τ54.1 19 ∧ τ54.1 19 ≤ 125 := hT.1 19
                          have v20 : 0 ≤ τ54.1 20 ∧ τ54.1 20 ≤ 19 := hT.1 20
                          have v22 : 0 ≤ τ54.1 22 ∧ τ54.1 22 ≤ 1499 := hT.1 22
                          have a14_22 : 0 ≤ τ54.2.1 14 (τ54.1 22) ∧ τ54.2.1 14 (τ54.1 22) ≤ 30000 := hT.2 14 _
                          have a15_22 : 0 ≤ τ54.2.1 15 (τ54.1 22) ∧ τ54.2.1 15 (τ54.1 22) ≤ 300 := hT.2 15 _
                          have av6 : σ.1 6 ≤ τ54.1 6 := ag.1 6 (by decide)
                          exact ih_26 _ (show (3 * ((τ54.1 0) - (τ54.1 16)) + z_0 ((τ54.1 20)) + 1 - z_0 ((τ54.1 19)) : Int) < ((m_26 : Nat) : Int) from by (have zz0 := z_e ((τ54.1 20)); have zz1 := z_e ((τ54.1 19)); (first | omega | (simp only [st_s] <;> omega) | assumption | omega))) hT ag (show τ54.1 0 = σ.1 0 from by omega) (show τ54.1 3 = σ.1 3 from by omega) (show τ54.1 5 = σ.1 5 from by omega) (show τ54.1 7 = σ.1 7 from by omega) (show τ54.1 8 = σ.1 8 from by omega) (show τ54.1 9 = σ.1 9 from by omega) (show τ54.1 22 = σ.1 22 from by omega) G6 G7 G14 (show (τ54.1 16) ≤ (τ54.1 0) from by (first | omega | (simp only [st_s] <;> omega) | assumption | omega)) (show (τ54.1 17) + (τ54.1 18) ≤ (τ54.1 0) from by (first | omega | (simp only [st_s] <;> omega) | assumption | omega)) (show oc (τ54.2.1 6) < 4096 from by (first | omega | (simp only [st_s] <;> omega) | assumption | omega)) (show oc (τ54.2.1 7) < 4096 from by (first | omega | (simp only [st_s] <;> omega) | assumption | omega)) (show ¬ (σ.1 20) = 0 → (τ54.1 20) = (σ.1 20) from by (first | omega | (simp only [st_s] <;> omega) | assumption | omega)) (show τ54.2.1 14 (τ54.1 22) + τ54.2.1 15 (τ54.1 22) = (τ54.1 6) from Z1) (show ca (τ54.2.1 12) ((τ54.1 3)) ≤ (τ54.1 4) from Y20) (show (τ54.1 20) = 0 → 1 ≤ τ54.2.1 15 (τ54.1 22) from by (first | omega | (simp only [st_s] <;> omega) | assumption | omega)) (show (σ.1 16) ≤ (τ54.1 16) from by (first | omega | (simp only [st_s] <;> omega) | assumption | omega))
                        ·
                          intro x48 r_x48 e_x48
                          have b_x48 : (-1) ≤ x48 ∧ x48 ≤ 1499 := by rw [e_x48]; exact hT.2 11 _
                          refine h174 _ _ _ _ ?_
                          refine ⟨_, K_X13_addSymbol hT (show 0 ≤ x16 from by (first | omega | (simp only [st_s] <;> omega) | assumption | omega)) (show x16 < 1000 from by (first | omega | (simp only [st_s] <;> omega) | assumption | omega)) (show -1 ≤ x48 from by (first | omega | (simp only [st_s] <;> omega) | assumption | omega)) (show x48 ≤ 1499 from by (first | omega | (simp only [st_s] <;> omega) | assumption | omega)) (show (τ_26.1 6) < 30000 from by (first | omega | (simp only [st_s] <;> omega) | assumption | omega)) (show τ_26.2.1 15 (τ_26.1 22) < 300 from by (rw [← e_x19]; omega)) (show (τ_26.1 22) = (τ_26.1 5) from by (first | omega | (simp only [st_s] <;> omega) | assumption | omega)), ?_⟩
                          intro τ51 hn_τ51 hf_τ51 hq
                          obtain ⟨hT, q49_1, q49_2, q49_3⟩ := hq
                          replace q49_1 : (τ51.1 6) = (τ_26.1 6) + 1 := q49_1
                          replace q49_2 : τ51.2.1 15 (τ51.1 22) = τ_26.2.1 15 (τ_26.1 22) + 1 := q49_2
                          replace q49_3 : m_ag τ_26 τ51 := q49_3
                          replace ag : m_ag σ τ51 := ag_t ag q49_3 rfl
                          have w0_τ51 : τ51.1 0 = τ_26.1 0 := hf_τ51.1 0 (by decide)
                          have w3_τ51 : τ51.1 3 = τ_26.1 3 := hf_τ51.1 3 (by decide)
                          have w4_τ51 : τ51.1 4 = τ_26.1 4 := hf_τ51.1 4 (by decide)
                          have w5_τ51 : τ51.1 5 = τ_26.1 5 := hf_τ51.1 5 (by decide)
                          have w7_τ51 : τ51.1 7 = τ_26.1 7 := hf_τ51.1 7 (by decide)
                          have w8_τ51 : τ51.1 8 = τ_26.1 8 := hf_τ51.1 8 (by decide)
                          have w9_τ51 : τ51.1 9 = τ_26.1 9 := hf_τ51.1 9 (by decide)
                          have w16_τ51 : τ51.1 16 = τ_26.1 16 := hf_τ51.1 16 (by decide)
                          have w17_τ51 : τ51.1 17 = τ_26.1 17 := hf_τ51.1 17 (by decide)
                          have w18_τ51 : τ51.1 18 = τ_26.1 18 := hf_τ51.1 18 (by decide)
                          have w19_τ51 : τ51.1 19 = τ_26.1 19 := hf_τ51.1 19 (by decide)
                          have w20_τ51 : τ51.1 20 = τ_26.1 20 := hf_τ51.1 20 (by decide)
                          have w22_τ51 : τ51.1 22 = τ_26.1 22 := hf_τ51.1 22 (by decide)
                          have g6_τ51 : τ51.2.1 6 = τ_26.2.1 6 := hf_τ51.2.1 6 (by decide)
                          have g7_τ51 : τ51.2.1 7 = τ_26.2.1 7 := hf_τ51.2.1 7 (by decide)
                          have g12_τ51 : τ51.2.1 12 = τ_26.2.1 12 := hf_τ51.2.1 12 (by decide)
                          have g14_τ51 : τ51.2.1 14 = τ_26.2.1 14 := hf_τ51.2.1 14 (by decide)
                          first | (have o6_τ51 := congrArg oc g6_τ51) | skip
                          first | (have o7_τ51 := congrArg oc g7_τ51) | skip
                          have W0 : τ51.1 0 = σ.1 0 := by omega
                          have W3 : τ51.1 3 = σ.1 3 := by omega
                          have W5 : τ51.1 5 = σ.1 5 := by omega
                          have W7 : τ51.1 7 = σ.1 7 := by omega
                          have W8 : τ51.1 8 = σ.1 8 := by omega
                          have W9 : τ51.1 9 = σ.1 9 := by omega
                          have W22 : τ51.1 22 = σ.1 22 := by omega
                          have G6 : τ51.2.1 6 = σ.2.1 6 := (g6_τ51).trans G6
                          have G7 : τ51.2.1 7 = σ.2.1 7 := (g7_τ51).trans G7
                          have G14 : τ51.2.1 14 = σ.2.1 14 := (g14_τ51).trans G14
                          have y14_22_τ51 : τ51.2.1 14 (τ51.1 22) = (τ_26.2.1 14) (τ_26.1 22) := by rw [g14_τ51, w22_τ51]
                          have Y20 : ca (τ51.2.1 12) ((τ51.1 3)) ≤ (τ51.1 4) := by rw [show (ca (τ51.2.1 12) ((τ51.1 3)) ≤ (τ51.1 4)) = (ca (τ_26.2.1 12) ((τ_26.1 3)) ≤ (τ_26.1 4)) from by rw [w3_τ51, w4_τ51, g12_τ51]]; exact Y20
                          have A6 : ∀ j, (-1) ≤ τ51.2.1 6 j ∧ τ51.2.1 6 j ≤ 999 := fun j => hT.2 6 j
                          have A7 : ∀ j, (-1) ≤ τ51.2.1 7 j ∧ τ51.2.1 7 j ≤ 1499 := fun j => hT.2 7 j
                          have A12 : ∀ j, 0 ≤ τ51.2.1 12 j ∧ τ51.2.1 12 j ≤ 1 := fun j => hT.2 12 j
                          have A14 : ∀ j, 0 ≤ τ51.2.1 14 j ∧ τ51.2.1 14 j ≤ 30000 := fun j => hT.2 14 j
                          have A15 : ∀ j, 0 ≤ τ51.2.1 15 j ∧ τ51.2.1 15 j ≤ 300 := fun j => hT.2 15 j
                          have v0 : 0 ≤ τ51.1 0 ∧ τ51.1 0 ≤ 60000 := hT.1 0
                          have v3 : 0 ≤ τ51.1 3 ∧ τ51.1 3 ≤ 1000 := hT.1 3
                          have v4 : 0 ≤ τ51.1 4 ∧ τ51.1 4 ≤ 100 := hT.1 4
                          have v5 : 0 ≤ τ51.1 5 ∧ τ51.1 5 ≤ 1500 := hT.1 5
                          have v6 : 0 ≤ τ51.1 6 ∧ τ51.1 6 ≤ 30000 := hT.1 6
                          have v7 : 0 ≤ τ51.1 7 ∧ τ51.1 7 ≤ 90000 := hT.1 7
                          have v8 : 0 ≤ τ51.1 8 ∧ τ51.1 8 ≤ 20000 := hT.1 8
                          have v9 : 0 ≤ τ51.1 9 ∧ τ51.1 9 ≤ 20000 := hT.1 9
                          have v16 : 0 ≤ τ51.1 16 ∧ τ51.1 16 ≤ 60000 := hT.1 16
                          have v17 : 0 ≤ τ51.1 17 ∧ τ51.1 17 ≤ 60000 := hT.1 17
                          have v18 : 0 ≤ τ51.1 18 ∧ τ51.1 18 ≤ 60000 := hT.1 18
                          have v19 : (-1) ≤ τ51.1 19 ∧ τ51.1 19 ≤ 125 := hT.1 19
                          have v20 : 0 ≤ τ51.1 20 ∧ τ51.1 20 ≤ 19 := hT.1 20
                          have v22 : 0 ≤ τ51.1 22 ∧ τ51.1 22 ≤ 1499 := hT.1 22
                          have a14_22 : 0 ≤ τ51.2.1 14 (τ51.1 22) ∧ τ51.2.1 14 (τ51.1 22) ≤ 30000 := hT.2 14 _
                          have a15_22 : 0 ≤ τ51.2.1 15 (τ51.1 22) ∧ τ51.2.1 15 (τ51.1 22) ≤ 300 := hT.2 15 _
                          have av6 : σ.1 6 ≤ τ51.1 6 := ag.1 6 (by decide)
                          have Z1 : τ51.2.1 14 (τ51.1 22) + τ51.2.1 15 (τ51.1 22) = τ51.1 6 := by omega
                          refine ⟨_, K_X13_next hT (show (τ51.1 16) ≤ (τ51.1 0) from by (first | omega | (simp only [st_s] <;> omega) | assumption | omega)), ?_⟩
                          intro τ54 hn_τ54 hf_τ54 hq
                          obtain ⟨hT, q52_1, q52_2, q52_3, q52_4, q52_5⟩ := hq
                          replace q52_1 : (τ54.1 16) ≤ (τ54.1 0) := q52_1
                          replace q52_2 : (τ54.1 17) + (τ54.1 18) ≤ (τ54.1 0) := q52_2
                          replace q52_3 : (τ51.1 16) ≤ (τ54.1 16) := q52_3
                          replace q52_4 : ¬ (τ51.1 20) = 0 → (τ54.1 20) = (τ51.1 20) := q52_4
                          replace q52_5 : (τ54.1 20) = 0 → ¬ (τ54.1 19) = 0 → (τ51.1 16) < (τ54.1 16) ∧ 0 < (τ54.1 18) := q52_5
                          replace ag : m_ag σ τ54 := ag_r ag hf_τ54 rfl rfl
                          have w0_τ54 : τ54.1 0 = τ51.1 0 := hf_τ54.1 0 (by decide)
                          have w3_τ54 : τ54.1 3 = τ51.1 3 := hf_τ54.1 3 (by decide)
                          have w4_τ54 : τ54.1 4 = τ51.1 4 := hf_τ54.1 4 (by decide)
                          have w5_τ54 : τ54.1 5 = τ51.1 5 := hf_τ54.1 5 (by decide)
                          have w6_τ54 : τ54.1 6 = τ51.1 6 := hf_τ54.1 6 (by decide)
                          have w7_τ54 : τ54.1 7 = τ51.1 7 := hf_τ54.1 7 (by decide)
                          have w8_τ54 : τ54.1 8 = τ51.1 8 := hf_τ54.1 8 (by decide)
                          have w9_τ54 : τ54.1 9 = τ51.1 9 := hf_τ54.1 9 (by decide)
                          have w22_τ54 : τ54.1 22 = τ51.1 22 := hf_τ54.1 22 (by decide)
                          have g6_τ54 : τ54.2.1 6 = τ51.2.1 6 := hf_τ54.2.1 6 (by decide)
                          have g7_τ54 : τ54.2.1 7 = τ51.2.1 7 := hf_τ54.2.1 7 (by decide)
                          have g12_τ54 : τ54.2.1 12 = τ51.2.1 12 := hf_τ54.2.1 12 (by decide)
                          have g14_τ54 : τ54.2.1 14 = τ51.2.1 14 := hf_τ54.2.1 14 (by decide)
                          have g15_τ54 : τ54.2.1 15 = τ51.2.1 15 := hf_τ54.2.1 15 (by decide)
                          first | (have o6_τ54 := congrArg oc g6_τ54) | skip
                          first | (have o7_τ54 := congrArg oc g7_τ54) | skip
                          have W0 : τ54.1 0 = σ.1 0 := by omega
                          have W3 : τ54.1 3 = σ.1 3 := by omega
                          have W5 : τ54.1 5 = σ.1 5 := by omega
                          have W7 : τ54.1 7 = σ.1 7 := by omega
                          have W8 : τ54.1 8 = σ.1 8 := by omega
                          have W9 : τ54.1 9 = σ.1 9 := by omega
                          have W22 : τ54.1 22 = σ.1 22 := by omega
                          have G6 : τ54.2.1 6 = σ.2.1 6 := (g6_τ54).trans G6
                          have G7 : τ54.2.1 7 = σ.2.1 7 := (g7_τ54).trans G7
                          have G14 : τ54.2.1 14 = σ.2.1 14 := (g14_τ54).trans G14
                          have y14_22_τ54 : τ54.2.1 14 (τ54.1 22) = (τ51.2.1 14) (τ51.1 22) := by rw [g14_τ54, w22_τ54]
                          have y15_22_τ54 : τ54.2.1 15 (τ54.1 22) = (τ51.2.1 15) (τ51.1 22) := by rw [g15_τ54, w22_τ54]
                          have Z1 : τ54.2.1 14 (τ54.1 22) + τ54.2.1 15 (τ54.1 22) = (τ54.1 6) := by rw [show (τ54.2.1 14 (τ54.1 22) + τ54.2.1 15 (τ54.1 22) = (τ54.1 6)) = (τ51.2.1 14 (τ51.1 22) + τ51.2.1 15 (τ51.1 22) = (τ51.1 6)) from by rw [w6_τ54, w22_τ54, g14_τ54, g15_τ54]]; exact Z1
                          have Y20 : ca (τ54.2.1 12) ((τ54.1 3)) ≤ (τ54.1 4) := by rw [show (ca (τ54.2.1 12) ((τ54.1 3)) ≤ (τ54.1 4)) = (ca (τ51.2.1 12) ((τ51.1 3)) ≤ (τ51.1 4)) from by rw [w3_τ54, w4_τ54, g12_τ54]]; exact Y20
                          have A6 : ∀ j, (-1) ≤ τ54.2.1 6 j ∧ τ54.2.1 6 j ≤ 999 := fun j => hT.2 6 j
                          have A7 : ∀ j, (-1) ≤ τ54.2.1 7 j ∧ τ54.2.1 7 j ≤ 1499 := fun j => hT.2 7 j
                          have A12 : ∀ j, 0 ≤ τ54.2.1 12 j ∧ τ54.2.1 12 j ≤ 1 := fun j => hT.2 12 j
                          have A14 : ∀ j, 0 ≤ τ54.2.1 14 j ∧ τ54.2.1 14 j ≤ 30000 := fun j => hT.2 14 j
                          have A15 : ∀ j, 0 ≤ τ54.2.1 15 j ∧ τ54.2.1 15 j ≤ 300 := fun j => hT.2 15 j
                          have v0 : 0 ≤ τ54.1 0 ∧ τ54.1 0 ≤ 60000 := hT.1 0
                          have v3 : 0 ≤ τ54.1 3 ∧ τ54.1 3 ≤ 1000 := hT.1 3
                          have v4 : 0 ≤ τ54.1 4 ∧ τ54.1 4 ≤ 100 := hT.1 4
                          have v5 : 0 ≤ τ54.1 5 ∧ τ54.1 5 ≤ 1500 := hT.1 5
                          have v6 : 0 ≤ τ54.1 6 ∧ τ54.1 6 ≤ 30000 := hT.1 6
                          have v7 : 0 ≤ τ54.1 7 ∧ τ54.1 7 ≤ 90000 := hT.1 7
                          have v8 : 0 ≤ τ54.1 8 ∧ τ54.1 8 ≤ 20000 := hT.1 8
                          have v9 : 0 ≤ τ54.1 9 ∧ τ54.1 9 ≤ 20000 := hT.1 9
                          have v16 : 0 ≤ τ54.1 16 ∧ τ54.1 16 ≤ 60000 := hT.1 16
                          have v17 : 0 ≤ τ54.1 17 ∧ τ54.1 17 ≤ 60000 := hT.1 17
                          have v18 : 0 ≤ τ54.1 18 ∧ τ54.1 18 ≤ 60000 := hT.1 18
                          have v19 : (-1) ≤ τ54.1 19 ∧ τ54.1 19 ≤ 125 := hT.1 19
                          have v20 : 0 ≤ τ54.1 20 ∧ τ54.1 20 ≤ 19 := hT.1 20
                          have v22 : 0 ≤ τ54.1 22 ∧ τ54.1 22 ≤ 1499 := hT.1 22
                          have a14_22 : 0 ≤ τ54.2.1 14 (τ54.1 22) ∧ τ54.2.1 14 (τ54.1 22) ≤ 30000 := hT.2 14 _
                          have a15_22 : 0 ≤ τ54.2.1 15 (τ54.1 22) ∧ τ54.2.1 15 (τ54.1 22) ≤ 300 := hT.2 15 _
                          have av6 : σ.1 6 ≤ τ54.1 6 := ag.1 6 (by decide)
                          exact ih_26 _ (show (3 * ((τ54.1 0) - (τ54.1 16)) + z_0 ((τ54.1 20)) + 1 - z_0 ((τ54.1 19)) : Int) < ((m_26 : Nat) : Int) from by (have zz0 := z_e ((τ54.1 20)); have zz1 := z_e ((τ54.1 19)); (first | omega | (simp only [st_s] <;> omega) | assumption | omega))) hT ag (show τ54.1 0 = σ.1 0 from by omega) (show τ54.1 3 = σ.1 3 from by omega) (show τ54.1 5 = σ.1 5 from by omega) (show τ54.1 7 = σ.1 7 from by omega) (show τ54.1 8 = σ.1 8 from by omega) (show τ54.1 9 = σ.1 9 from by omega) (show τ54.1 22 = σ.1 22 from by omega) G6 G7 G14 (show (τ54.1 16) ≤ (τ54.1 0) from by (first | omega | (simp only [st_s] <;> omega) | assumption | omega)) (show (τ54.1 17) + (τ54.1 18) ≤ (τ54.1 0) from by (first | omega | (simp only [st_s] <;> omega) | assumption | omega)) (show oc (τ54.2.1 6) < 4096 from by (first | omega | (simp only [st_s] <;> omega) | assumption | omega)) (show oc (τ54.2.1 7) < 4096 from by (first | omega | (simp only [st_s] <;> omega) | assumption | omega)) (show ¬ (σ.1 20) = 0 → (τ54.1 20) = (σ.1 20) from by (first | omega | (simp only [st_s] <;> omega) | assumption | omega)) (show τ54.2.1 14 (τ54.1 22) + τ54.2.1 15 (τ54.1 22) = (τ54.1 6) from Z1) (show ca (τ54.2.1 12) ((τ54.1 3)) ≤ (τ54.1 4) from Y20) (show (τ54.1 20) = 0 → 1 ≤ τ54.2.1 15 (τ54.1 22) from by (first | omega | (simp only [st_s] <;> omega) | assumption | omega)) (show (σ.1 16) ≤ (τ54.1 16) from by (first | omega | (simp only [st_s] <;> omega) | assumption | omega))
                      ·
                        intro x40 r_x40 e_x40
                        have b_x40 : (-1) ≤ x40 ∧ x40 ≤ 1499 := by rw [e_x40]; exact hT.2 11 _
                        refine ⟨fun c41 => ?_, fun c41 => ?_⟩
                        ·
                          refine h153 _ _ _ ?_
                          refine ⟨(show 0 ≤ x16 ∧ x16 < 1001 from by (first | omega | (simp only [st_s] <;> omega) | assumption | omega)), ?_⟩
                          intro x46 r_x46 e_x46
                          have b_x46 : 0 ≤ x46 ∧ x46 ≤ 1 := by rw [e_x46]; exact hT.2 8 _
                          refine ⟨fun c47 => ?_, fun c47 => ?_⟩
                          ·
                            refine h174 _ _ _ _ ?_
                            refine ⟨_, K_X13_addSymbol hT (show 0 ≤ x16 from by (first | omega | (simp only [st_s] <;> omega) | assumption | omega)) (show x16 < 1000 from by (first | omega | (simp only [st_s] <;> omega) | assumption | omega)) (show -1 ≤ (-1) from by (first | omega | (simp only [st_s] <;> omega) | assumption | omega)) (show (-1) ≤ 1499 from by (first | omega | (simp only [st_s] <;> omega) | assumption | omega)) (show (τ_26.1 6) < 30000 from by (first | omega | (simp only [st_s] <;> omega) | assumption | omega)) (show τ_26.2.1 15 (τ_26.1 22) < 300 from by (rw [← e_x19]; omega)) (show (τ_26.1 22) = (τ_26.1 5) from by (first | omega | (simp only [st_s] <;> omega) | assumption | omega)), ?_⟩
                            intro τ51 hn_τ51 hf_τ51 hq
                            obtain ⟨hT, q49_1, q49_2, q49_3⟩ := hq
                            replace q49_1 : (τ51.1 6) = (τ_26.1 6) + 1 := q49_1
                            replace q49_2 : τ51.2.1 15 (τ51.1 22) = τ_26.2.1 15 (τ_26.1 22) + 1 := q49_2
                            replace q49_3 : m_ag τ_26 τ51 := q49_3
                            replace ag : m_ag σ τ51 := ag_t ag q49_3 rfl
                            have w0_τ51 : τ51.1 0 = τ_26.1 0 := hf_τ51.1 0 (by decide)
                            have w3_τ51 : τ51.1 3 = τ_26.1 3 := hf_τ51.1 3 (by decide)
                            have w4_τ51 : τ51.1 4 = τ_26.1 4 := hf_τ51.1 4 (by decide)
                            have w5_τ51 : τ51.1 5 = τ_26.1 5 := hf_τ51.1 5 (by decide)
                            have w7_τ51 : τ51.1 7 = τ_26.1 7 := hf_τ51.1 7 (by decide)
                            have w8_τ51 : τ51.1 8 = τ_26.1 8 := hf_τ51.1 8 (by decide)
                            have w9_τ51 : τ51.1 9 = τ_26.1 9 := hf_τ51.1 9 (by decide)
                            have w16_τ51 : τ51.1 16 = τ_26.1 16 := hf_τ51.1 16 (by decide)
                            have w17_τ51 : τ51.1 17 = τ_26.1 17 := hf_τ51.1 17 (by decide)
                            have w18_τ51 : τ51.1 18 = τ_26.1 18 := hf_τ51.1 18 (by decide)
                            have w19_τ51 : τ51.1 19 = τ_26.1 19 := hf_τ51.1 19 (by decide)
                            have w20_τ51 : τ51.1 20 = τ_26.1 20 := hf_τ51.1 20 (by decide)
                            have w22_τ51 : τ51.1 22 = τ_26.1 22 := hf_τ51.1 22 (by decide)
                            have g6_τ51 : τ51.2.1 6 = τ_26.2.1 6 := hf_τ51.2.1 6 (by decide)
                            have g7_τ51 : τ51.2.1 7 = τ_26.2.1 7 := hf_τ51.2.1 7 (by decide)
                            have g12_τ51 : τ51.2.1 12 = τ_26.2.1 12 := hf_τ51.2.1 12 (by decide)
                            have g14_τ51 : τ51.2.1 14 = τ_26.2.1 14 := hf_τ51.2.1 14 (by decide)
                            first | (have o6_τ51 := congrArg oc g6_τ51) | skip
                            first | (have o7_τ51 := congrArg oc g7_τ51) | skip
                            have W0 : τ51.1 0 = σ.1 0 := by omega
                            have W3 : τ51.1 3 = σ.1 3 := by omega
                            have W5 : τ51.1 5 = σ.1 5 := by omega
                            have W7 : τ51.1 7 = σ.1 7 := by omega
                            have W8 : τ51.1 8 = σ.1 8 := by omega
                            have W9 : τ51.1 9 = σ.1 9 := by omega
                            have W22 : τ51.1 22 = σ.1 22 := by omega
                            have G6 : τ51.2.1 6 = σ.2.1 6 := (g6_τ51).trans G6
                            have G7 : τ51.2.1 7 = σ.2.1 7 := (g7_τ51).trans G7
                            have G14 : τ51.2.1 14 = σ.2.1 14 := (g14_τ51).trans G14
                            have y14_22_τ51 : τ51.2.1 14 (τ51.1 22) = (τ_26.2.1 14) (τ_26.1 22) := by rw [g14_τ51, w22_τ51]
                            have Y20 : ca (τ51.2.1 12) ((τ51.1 3)) ≤ (τ51.1 4) := by rw [show (ca (τ51.2.1 12) ((τ51.1 3)) ≤ (τ51.1 4)) = (ca (τ_26.2.1 12) ((τ_26.1 3)) ≤ (τ_26.1 4)) from by rw [w3_τ51, w4_τ51, g12_τ51]]; exact Y20
                            have A6 : ∀ j, (-1) ≤ τ51.2.1 6 j ∧ τ51.2.1 6 j ≤ 999 := fun j => hT.2 6 j
                            have A7 : ∀ j, (-1) ≤ τ51.2.1 7 j ∧ τ51.2.1 7 j ≤ 1499 := fun j => hT.2 7 j
                            have A12 : ∀ j, 0 ≤ τ51.2.1 12 j ∧ τ51.2.1 12 j ≤ 1 := fun j => hT.2 12 j
                            have A14 : ∀ j, 0 ≤ τ51.2.1 14 j ∧ τ51.2.1 14 j ≤ 30000 := fun j => hT.2 14 j
                            have A15 : ∀ j, 0 ≤ τ51.2.1 15 j ∧ τ51.2.1 15 j ≤ 300 := fun j => hT.2 15 j
                            have v0 : 0 ≤ τ51.1 0 ∧ τ51.1 0 ≤ 60000 := hT.1 0
                            have v3 : 0 ≤ τ51.1 3 ∧ τ51.1 3 ≤ 1000 := hT.1 3
                            have v4 : 0 ≤ τ51.1 4 ∧ τ51.1 4 ≤ 100 := hT.1 4
                            have v5 : 0 ≤ τ51.1 5 ∧ τ51.1 5 ≤ 1500 := hT.1 5
                            have v6 : 0 ≤ τ51.1 6 ∧ τ51.1 6 ≤ 30000 := hT.1 6
                            have v7 : 0 ≤ τ51.1 7 ∧ τ51.1 7 ≤ 90000 := hT.1 7
                            have v8 : 0 ≤ τ51.1 8 ∧ τ51.1 8 ≤ 20000 := hT.1 8
                            have v9 : 0 ≤ τ51.1 9 ∧ τ51.1 9 ≤ 20000 := hT.1 9
                            have v16 : 0 ≤ τ51.1 16 ∧ τ51.1 16 ≤ 60000 := hT.1 16
                            have v17 : 0 ≤ τ51.1 17 ∧ τ51.1 17 ≤ 60000 := hT.1 17
                            have v18 : 0 ≤ τ51.1 18 ∧ τ51.1 18 ≤ 60000 := hT.1 18
                            have v19 : (-1) ≤ τ51.1 19 ∧ τ51.1 19 ≤ 125 := hT.1 19
                            have v20 : 0 ≤ τ51.1 20 ∧ τ51.1 20 ≤ 19 := hT.1 20
                            have v22 : 0 ≤ τ51.1 22 ∧ τ51.1 22 ≤ 1499 := hT.1 22
                            have a14_22 : 0 ≤ τ51.2.1 14 (τ51.1 22) ∧ τ51.2.1 14 (τ51.1 22) ≤ 30000 := hT.2 14 _
                            have a15_22 : 0 ≤ τ51.2.1 15 (τ51.1 22) ∧ τ51.2.1 15 (τ51.1 22) ≤ 300 := hT.2 15 _
                            have av6 : σ.1 6 ≤ τ51.1 6 := ag.1 6 (by decide)
                            have Z1 : τ51.2.1 14 (τ51.1 22) + τ51.2.1 15 (τ51.1 22) = τ51.1 6 := by omega
                            refine ⟨_, K_X13_next hT (show (τ51.1 16) ≤ (τ51.1 0) from by (first | omega | (simp only [st_s] <;> omega) | assumption | omega)), ?_⟩
                            intro τ54 hn_τ54 hf_τ54 hq
                            obtain ⟨hT, q52_1, q52_2, q52_3, q52_4, q52_5⟩ := hq
                            replace q52_1 : (τ54.1 16) ≤ (τ54.1 0) := q52_1
                            replace q52_2 : (τ54.1 17) + (τ54.1 18) ≤ (τ54.1 0) := q52_2
                            replace q52_3 : (τ51.1 16) ≤ (τ54.1 16) := q52_3
                            replace q52_4 : ¬ (τ51.1 20) = 0 → (τ54.1 20) = (τ51.1 20) := q52_4
                            replace q52_5 : (τ54.1 20) = 0 → ¬ (τ54.1 19) = 0 → (τ51.1 16) < (τ54.1 16) ∧ 0 < (τ54.1 18) := q52_5
                            replace ag : m_ag σ τ54 := ag_r ag hf_τ54 rfl rfl
                            have w0_τ54 : τ54.1 0 = τ51.1 0 := hf_τ54.1 0 (by decide)
                            have w3_τ54 : τ54.1 3 = τ51.1 3 := hf_τ54.1 3 (by decide)
                            have w4_τ54 : τ54.1 4 = τ51.1 4 := hf_τ54.1 4 (by decide)
                            have w5_τ54 : τ54.1 5 = τ51.1 5 := hf_τ54.1 5 (by decide)
                            have w6_τ54 : τ54.1 6 = τ51.1 6 := hf_τ54.1 6 (by decide)
                            have w7_τ54 : τ54.1 7 = τ51.1 7 := hf_τ54.1 7 (by decide)
                            have w8_τ54 : τ54.1 8 = τ51.1 8 := hf_τ54.1 8 (by decide)
                            have w9_τ54 : τ54.1 9 = τ51.1 9 := hf_τ54.1 9 (by decide)
                            have w22_τ54 : τ54.1 22 = τ51.1 22 := hf_τ54.1 22 (by decide)
                            have g6_τ54 : τ54.2.1 6 = τ51.2.1 6 := hf_τ54.2.1 6 (by decide)
                            have g7_τ54 : τ54.2.1 7 = τ51.2.1 7 := hf_τ54.2.1 7 (by decide)
                            have g12_τ54 : τ54.2.1 12 = τ51.2.1 12 := hf_τ54.2.1 12 (by decide)
                            have g14_τ54 : τ54.2.1 14 = τ51.2.1 14 := hf_τ54.2.1 14 (by decide)
                            have g15_τ54 : τ54.2.1 15 = τ51.2.1 15 := hf_τ54.2.1 15 (by decide)
                            first | (have o6_τ54 := congrArg oc g6_τ54) | skip
                            first | (have o7_τ54 := congrArg oc g7_τ54) | skip
                            have W0 : τ54.1 0 = σ.1 0 := by omega
                            have W3 : τ54.1 3 = σ.1 3 := by omega
                            have W5 : τ54.1 5 = σ.1 5 := by omega
                            have W7 : τ54.1 7 = σ.1 7 := by omega
                            have W8 : τ54.1 8 = σ.1 8 := by omega
                            have W9 : τ54.1 9 = σ.1 9 := by omega
                            have W22 : τ54.1 22 = σ.1 22 := by omega
                            have G6 : τ54.2.1 6 = σ.2.1 6 := (g6_τ54).trans G6
                            have G7 : τ54.2.1 7 = σ.2.1 7 := (g7_τ54).trans G7
                            have G14 : τ54.2.1 14 = σ.2.1 14 := (g14_τ54).trans G14
                            have y14_22_τ54 : τ54.2.1 14 (τ54.1 22) = (τ51.2.1 14) (τ51.1 22) := by rw [g14_τ54, w22_τ54]
                            have y15_22_τ54 : τ54.2.1 15 (τ54.1 22) = (τ51.2.1 15) (τ51.1 22) := by rw [g15_τ54, w22_τ54]
                            have Z1 : τ54.2.1 14 (τ54.1 22) + τ54.2.1 15 (τ54.1 22) = (τ54.1 6) := by rw [show (τ54.2.1 14 (τ54.1 22) + τ54.2.1 15 (τ54.1 22) = (τ54.1 6)) = (τ51.2.1 14 (τ51.1 22) + τ51.2.1 15 (τ51.1 22) = (τ51.1 6)) from by rw [w6_τ54, w22_τ54, g14_τ54, g15_τ54]]; exact Z1
                            have Y20 : ca (τ54.2.1 12) ((τ54.1 3)) ≤ (τ54.1 4) := by rw [show (ca (τ54.2.1 12) ((τ54.1 3)) ≤ (τ54.1 4)) = (ca (τ51.2.1 12) ((τ51.1 3)) ≤ (τ51.1 4)) from by rw [w3_τ54, w4_τ54, g12_τ54]]; exact Y20
                            have A6 : ∀ j, (-1) ≤ τ54.2.1 6 j ∧ τ54.2.1 6 j ≤ 999 := fun j => hT.2 6 j
                            have A7 : ∀ j, (-1) ≤ τ54.2.1 7 j ∧ τ54.2.1 7 j ≤ 1499 := fun j => hT.2 7 j
                            have A12 : ∀ j, 0 ≤ τ54.2.1 12 j ∧ τ54.2.1 12 j ≤ 1 := fun j => hT.2 12 j
                            have A14 : ∀ j, 0 ≤ τ54.2.1 14 j ∧ τ54.2.1 14 j ≤ 30000 := fun j => hT.2 14 j
                            have A15 : ∀ j, 0 ≤ τ54.2.1 15 j ∧ τ54.2.1 15 j ≤ 300 := fun j => hT.2 15 j
                            have v0 : 0 ≤ τ54.1 0 ∧ τ54.1 0 ≤ 60000 := hT.1 0
                            have v3 : 0 ≤ τ54.1 3 ∧ τ54.1 3 ≤ 1000 := hT.1 3
                            have v4 : 0 ≤ τ54.1 4 ∧ τ54.1 4 ≤ 100 := hT.1 4
                            have v5 : 0 ≤ τ54.1 5 ∧ τ54.1 5 ≤ 1500 := hT.1 5
                            have v6 : 0 ≤ τ54.1 6 ∧ τ54.1 6 ≤ 30000 := hT.1 6
                            have v7 : 0 ≤ τ54.1 7 ∧ τ54.1 7 ≤ 90000 := hT.1 7
                            have v8 : 0 ≤ τ54.1 8 ∧ τ54.1 8 ≤ 20000 := hT.1 8
                            have v9 : 0 ≤ τ54.1 9 ∧ τ54.1 9 ≤ 20000 := hT.1 9
                            have v16 : 0 ≤ τ54.1 16 ∧ τ54.1 16 ≤ 60000 := hT.1 16
                            have v17 : 0 ≤ τ54.1 17 ∧ τ54.1 17 ≤ 60000 := hT.1 17
                            have v18 : 0 ≤ τ54.1 18 ∧ τ54.1 18 ≤ 60000 := hT.1 18
                            have v19 : (-1) ≤ τ54.1 19 ∧ τ54.1 19 ≤ 125 := hT.1 19
                            have v20 : 0 ≤ τ54.1 20 ∧ τ54.1 20 ≤ 19 := hT.1 20
                            have v22 : 0 ≤ τ54.1 22 ∧ τ54.1 22 ≤ 1499 := hT.1 22
                            have a14_22 : 0 ≤ τ54.2.1 14 (τ54.1 22) ∧ τ54.2.1 14 (τ54.1 22) ≤ 30000 := hT.2 14 _
                            have a15_22 : 0 ≤ τ54.2.1 15 (τ54.1 22) ∧ τ54.2.1 15 (τ54.1 22) ≤ 300 := hT.2 15 _
                            have av6 : σ.1 6 ≤ τ54.1 6 := ag.1 6 (by decide)
                            exact ih_26 _ (show (3 * ((τ54.1 0) - (τ54.1 16)) + z_0 ((τ54.1 20)) + 1 - z_0 ((τ54.1 19)) : Int) < ((m_26 : Nat) : Int) from by (have zz0 := z_e ((τ54.1 20)); have zz1 := z_e ((τ54.1 19)); (first | omega | (simp only [st_s] <;> omega) | assumption | omega))) hT ag (show τ54.1 0 = σ.1 0 from by omega) (show τ54.1 3 = σ.1 3 from by omega) (show τ54.1 5 = σ.1 5 from by omega) (show τ54.1 7 = σ.1 7 from by omega) (show τ54.1 8 = σ.1 8 from by omega) (show τ54.1 9 = σ.1 9 from by omega) (show τ54.1 22 = σ.1 22 from by omega) G6 G7 G14 (show (τ54.1 16) ≤ (τ54.1 0) from by (first | omega | (simp only [st_s] <;> omega) | assumption | omega)) (show (τ54.1 17) + (τ54.1 18) ≤ (τ54.1 0) from by (first | omega | (simp only [st_s] <;> omega) | assumption | omega)) (show oc (τ54.2.1 6) < 4096 from by (first | omega | (simp only [st_s] <;> omega) | assumption | omega)) (show oc (τ54.2.1 7) < 4096 from by (first | omega | (simp only [st_s] <;> omega) | assumption | omega)) (show ¬ (σ.1 20) = 0 → (τ54.1 20) = (σ.1 20) from by (first | omega | (simp only [st_s] <;> omega) | assumption | omega)) (show τ54.2.1 14 (τ54.1 22) + τ54.2.1 15 (τ54.1 22) = (τ54.1 6) from Z1) (show ca (τ54.2.1 12) ((τ54.1 3)) ≤ (τ54.1 4) from Y20) (show (τ54.1 20) = 0 → 1 ≤ τ54.2.1 15 (τ54.1 22) from by (first | omega | (simp only [st_s] <;> omega) | assumption | omega)) (show (σ.1 16) ≤ (τ54.1 16) from by (first | omega | (simp only [st_s] <;> omega) | assumption | omega))
                          ·
                            intro x48 r_x48 e_x48
                            have b_x48 : (-1) ≤ x48 ∧ x48 ≤ 1499 := by rw [e_x48]; exact hT.2 11 _
                            refine h174 _ _ _ _ ?_
                            refine ⟨_, K_X13_addSymbol hT (show 0 ≤ x16 from by (first | omega | (simp only [st_s] <;> omega) | assumption | omega)) (show x16 < 1000 from by (first | omega | (simp only [st_s] <;> omega) | assumption | omega)) (show -1 ≤ x48 from by (first | omega | (simp only [st_s] <;> omega) | assumption | omega)) (show x48 ≤ 1499 from by (first | omega | (simp only [st_s] <;> omega) | assumption | omega)) (show (τ_26.1 6) < 30000 from by (first | omega | (simp only [st_s] <;> omega) | assumption | omega)) (show τ_26.2.1 15 (τ_26.1 22) < 300 from by (rw [← e_x19]; omega)) (show (τ_26.1 22) = (τ_26.1 5) from by (first | omega | (simp only [st_s] <;> omega) | assumption | omega)), ?_⟩
                            intro τ51 hn_τ51 hf_τ51 hq
                            obtain ⟨hT, q49_1, q49_2, q49_3⟩ := hq
                            replace q49_1 : (τ51.1 6) = (τ_26.1 6) + 1 := q49_1
                            replace q49_2 : τ51.2.1 15 (τ51.1 22) = τ_26.2.1 15 (τ_26.1 22) + 1 := q49_2
                            replace q49_3 : m_ag τ_26 τ51 := q49_3
                            replace ag : m_ag σ τ51 := ag_t ag q49_3 rfl
                            have w0_τ51 : τ51.1 0 = τ_26.1 0 := hf_τ51.1 0 (by decide)
                            have w3_τ51 : τ51.1 3 = τ_26.1 3 := hf_τ51.1 3 (by decide)
                            have w4_τ51 : τ51.1 4 = τ_26.1 4 := hf_τ51.1 4 (by decide)
                            have w5_τ51 : τ51.1 5 = τ_26.1 5 := hf_τ51.1 5 (by decide)
                            have w7_τ51 : τ51.1 7 = τ_26.1 7 := hf_τ51.1 7 (by decide)
                            have w8_τ51 : τ51.1 8 = τ_26.1 8 := hf_τ51.1 8 (by decide)
                            have w9_τ51 : τ51.1 9 = τ_26.1 9 := hf_τ51.1 9 (by decide)
                            have w16_τ51 : τ51.1 16 = τ_26.1 16 := hf_τ51.1 16 (by decide)
                            have w17_τ51 : τ51.1 17 = τ_26.1 17 := hf_τ51.1 17 (by decide)
                            have w18_τ51 : τ51.1 18 = τ_26.1 18 := hf_τ51.1 18 (by decide)
                            have w19_τ51 : τ51.1 19 = τ_26.1 19 := hf_τ51.1 19 (by decide)
                            have w20_τ51 : τ51.1 20 = τ_26.1 20 := hf_τ51.1 20 (by decide)
                            have w22_τ51 : τ51.1 22 = τ_26.1 22 := hf_τ51.1 22 (by decide)
                            have g6_τ51 : τ51.2.1 6 = τ_26.2.1 6 := hf_τ51.2.1 6 (by decide)
                            have g7_τ51 : τ51.2.1 7 = τ_26.2.1 7 := hf_τ51.2.1 7 (by decide)
                            have g12_τ51 : τ51.2.1 12 = τ_26.2.1 12 := hf_τ51.2.1 12 (by decide)
                            have g14_τ51 : τ51.2.1 14 = τ_26.2.1 14 := hf_τ51.2.1 14 (by decide)
                            first | (have o6_τ51 := congrArg oc g6_τ51) | skip
                            first | (have o7_τ51 := congrArg oc g7_τ51) | skip
                            have W0 : τ51.1 0 = σ.1 0 := by omega
                            have W3 : τ51.1 3 = σ.1 3 := by omega
                            have W5 : τ51.1 5 = σ.1 5 := by omega
                            have W7 : τ51.1 7 = σ.1 7 := by omega
                            have W8 : τ51.1 8 = σ.1 8 := by omega
                            have W9 : τ51.1 9 = σ.1 9 := by omega
                            have W22 : τ51.1 22 = σ.1 22 := by omega
                            have G6 : τ51.2.1 6 = σ.2.1 6 := (g6_τ51).trans G6
                            have G7 : τ51.2.1 7 = σ.2.1 7 := (g7_τ51).trans G7
                            have G14 : τ51.2.1 14 = σ.2.1 14 := (g14_τ51).trans G14
                            have y14_22_τ51 : τ51.2.1 14 (τ51.1 22) = (τ_26.2.1 14) (τ_26.1 22) := by rw [g14_τ51, w22_τ51]
                            have Y20 : ca (τ51.2.1 12) ((τ51.1 3)) ≤ (τ51.1 4) := by rw [show (ca (τ51.2.1 12) ((τ51.1 3)) ≤ (τ51.1 4)) = (ca (τ_26.2.1 12) ((τ_26.1 3)) ≤ (τ_26.1 4)) from by rw [w3_τ51, w4_τ51, g12_τ51]]; exact Y20
                            have A6 : ∀ j, (-1) ≤ τ51.2.1 6 j ∧ τ51.2.1 6 j ≤ 999 := fun j => hT.2 6 j
                            have A7 : ∀ j, (-1) ≤ τ51.2.1 7 j ∧ τ51.2.1 7 j ≤ 1499 := fun j => hT.2 7 j
                            have A12 : ∀ j, 0 ≤ τ51.2.1 12 j ∧ τ51.2.1 12 j ≤ 1 := fun j => hT.2 12 j
                            have A14 : ∀ j, 0 ≤ τ51.2.1 14 j ∧ τ51.2.1 14 j ≤ 30000 := fun j => hT.2 14 j
                            have A15 : ∀ j, 0 ≤ τ51.2.1 15 j ∧ τ51.2.1 15 j ≤ 300 := fun j => hT.2 15 j
                            have v0 : 0 ≤ τ51.1 0 ∧ τ51.1 0 ≤ 60000 := hT.1 0
                            have v3 : 0 ≤ τ51.1 3 ∧ τ51.1 3 ≤ 1000 := hT.1 3
                            have v4 : 0 ≤ τ51.1 4 ∧ τ51.1 4 ≤ 100 := hT.1 4
                            have v5 : 0 ≤ τ51.1 5 ∧ τ51.1 5 ≤ 1500 := hT.1 5
                            have v6 : 0 ≤ τ51.1 6 ∧ τ51.1 6 ≤ 30000 := hT.1 6
                            have v7 : 0 ≤ τ51.1 7 ∧ τ51.1 7 ≤ 90000 := hT.1 7
                            have v8 : 0 ≤ τ51.1 8 ∧ τ51.1 8 ≤ 20000 := hT.1 8
                            have v9 : 0 ≤ τ51.1 9 ∧ τ51.1 9 ≤ 20000 := hT.1 9
                            have v16 : 0 ≤ τ51.1 16 ∧ τ51.1 16 ≤ 60000 := hT.1 16
                            have v17 : 0 ≤ τ51.1 17 ∧ τ51.1 17 ≤ 60000 := hT.1 17
                            have v18 : 0 ≤ τ51.1 18 ∧ τ51.1 18 ≤ 60000 := hT.1 18
                            have v19 : (-1) ≤ τ51.1 19 ∧ τ51.1 19 ≤ 125 := hT.1 19
                            have v20 : 0 ≤ τ51.1 20 ∧ τ51.1 20 ≤ 19 := hT.1 20
                            have v22 : 0 ≤ τ51.1 22 ∧ τ51.1 22 ≤ 1499 := hT.1 22
                            have a14_22 : 0 ≤ τ51.2.1 14 (τ51.1 22) ∧ τ51.2.1 14 (τ51.1 22) ≤ 30000 := hT.2 14 _
                            have a15_22 : 0 ≤ τ51.2.1 15 (τ51.1 22) ∧ τ51.2.1 15 (τ51.1 22) ≤ 300 := hT.2 15 _
                            have av6 : σ.1 6 ≤ τ51.1 6 := ag.1 6 (by decide)
                            have Z1 : τ51.2.1 14 (τ51.1 22) + τ51.2.1 15 (τ51.1 22) = τ51.1 6 := by omega
                            refine ⟨_, K_X13_next hT (show (τ51.1 16) ≤ (τ51.1 0) from by (first | omega | (simp only [st_s] <;> omega) | assumption | omega)), ?_⟩
                            intro τ54 hn_τ54 hf_τ54 hq
                            obtain ⟨hT, q52_1, q52_2, q52_3, q52_4, q52_5⟩ := hq
                            replace q52_1 : (τ54.1 16) ≤ (τ54.1 0) := q52_1
                            replace q52_2 : (τ54.1 17) + (τ54.1 18) ≤ (τ54.1 0) := q52_2
                            replace q52_3 : (τ51.1 16) ≤ (τ54.1 16) := q52_3
                            replace q52_4 : ¬ (τ51.1 20) = 0 → (τ54.1 20) = (τ51.1 20) := q52_4
                            replace q52_5 : (τ54.1 20) = 0 → ¬ (τ54.1 19) = 0 → (τ51.1 16) < (τ54.1 16) ∧ 0 < (τ54.1 18) := q52_5
                            replace ag : m_ag σ τ54 := ag_r ag hf_τ54 rfl rfl
                            have w0_τ54 : τ54.1 0 = τ51.1 0 := hf_τ54.1 0 (by decide)
                            have w3_τ54 : τ54.1 3 = τ51.1 3 := hf_τ54.1 3 (by decide)
                            have w4_τ54 : τ54.1 4 = τ51.1 4 := hf_τ54.1 4 (by decide)
                            have w5_τ54 : τ54.1 5 = τ51.1 5 := hf_τ54.1 5 (by decide)
                            have w6_τ54 : τ54.1 6 = τ51.1 6 := hf_τ54.1 6 (by decide)
                            have w7_τ54 : τ54.1 7 = τ51.1 7 := hf_τ54.1 7 (by decide)
                            have w8_τ54 : τ54.1 8 = τ51.1 8 := hf_τ54.1 8 (by decide)
                            have w9_τ54 : τ54.1 9 = τ51.1 9 := hf_τ54.1 9 (by decide)
                            have w22_τ54 : τ54.1 22 = τ51.1 22 := hf_τ54.1 22 (by decide)
                            have g6_τ54 : τ54.2.1 6 = τ51.2.1 6 := hf_τ54.2.1 6 (by decide)
                            have g7_τ54 : τ54.2.1 7 = τ51.2.1 7 := hf_τ54.2.1 7 (by decide)
                            have g12_τ54 : τ54.2.1 12 = τ51.2.1 12 := hf_τ54.2.1 12 (by decide)
                            have g14_τ54 : τ54.2.1 14 = τ51.2.1 14 := hf_τ54.2.1 14 (by decide)
                            have g15_τ54 : τ54.2.1 15 = τ51.2.1 15 := hf_τ54.2.1 15 (by decide)
                            first | (have o6_τ54 := congrArg oc g6_τ54) | skip
                            first | (have o7_τ54 := congrArg oc g7_τ54) | skip
                            have W0 : τ54.1 0 = σ.1 0 := by omega
                            have W3 : τ54.1 3 = σ.1 3 := by omega
                            have W5 : τ54.1 5 = σ.1 5 := by omega
                            have W7 : τ54.1 7 = σ.1 7 := by omega
                            have W8 : τ54.1 8 = σ.1 8 := by omega
                            have W9 : τ54.1 9 = σ.1 9 := by omega
                            have W22 : τ54.1 22 = σ.1 22 := by omega
                            have G6 : τ54.2.1 6 = σ.2.1 6 := (g6_τ54).trans G6
                            have G7 : τ54.2.1 7 = σ.2.1 7 := (g7_τ54).trans G7
                            have G14 : τ54.2.1 14 = σ.2.1 14 := (g14_τ54).trans G14
                            have y14_22_τ54 : τ54.2.1 14 (τ54.1 22) = (τ51.2.1 14) (τ51.1 22) := by rw [g14_τ54, w22_τ54]
                            have y15_22_τ54 : τ54.2.1 15 (τ54.1 22) = (τ51.2.1 15) (τ51.1 22) := by rw [g15_τ54, w22_τ54]
                            have Z1 : τ54.2.1 14 (τ54.1 22) + τ54.2.1 15 (τ54.1 22) = (τ54.1 6) := by rw [show (τ54.2.1 14 (τ54.1 22) + τ54.2.1 15 (τ54.1 22) = (τ54.1 6)) = (τ51.2.1 14 (τ51.1 22) + τ51.2.1 15 (τ51.1 22) = (τ51.1 6)) from by rw [w6_τ54, w22_τ54, g14_τ54, g15_τ54]]; exact Z1
                            have Y20 : ca (τ54.2.1 12) ((τ54.1 3)) ≤ (τ54.1 4) := by rw [show (ca (τ54.2.1 12) ((τ54.1 3)) ≤ (τ54.1 4)) = (ca (τ51.2.1 12) ((τ51.1 3)) ≤ (τ51.1 4)) from by rw [w3_τ54, w4_τ54, g12_τ54]]; exact Y20
                            have A6 : ∀ j, (-1) ≤ τ54.2.1 6 j ∧ τ54.2.1 6 j ≤ 999 := fun j => hT.2 6 j
                            have A7 : ∀ j, (-1) ≤ τ54.2.1 7 j ∧ τ54.2.1 7 j ≤ 1499 := fun j => hT.2 7 j
                            have A12 : ∀ j, 0 ≤ τ54.2.1 12 j ∧ τ54.2.1 12 j ≤ 1 := fun j => hT.2 12 j
                            have A14 : ∀ j, 0 ≤ τ54.2.1 14 j ∧ τ54.2.1 14 j ≤ 30000 := fun j => hT.2 14 j
                            have A15 : ∀ j, 0 ≤ τ54.2.1 15 j ∧ τ54.2.1 15 j ≤ 300 := fun j => hT.2 15 j
                            have v0 : 0 ≤ τ54.1 0 ∧ τ54.1 0 ≤ 60000 := hT.1 0
                            have v3 : 0 ≤ τ54.1 3 ∧ τ54.1 3 ≤ 1000 := hT.1 3
                            have v4 : 0 ≤ τ54.1 4 ∧ τ54.1 4 ≤ 100 := hT.1 4
                            have v5 : 0 ≤ τ54.1 5 ∧ τ54.1 5 ≤ 1500 := hT.1 5
                            have v6 : 0 ≤ τ54.1 6 ∧ τ54.1 6 ≤ 30000 := hT.1 6
                            have v7 : 0 ≤ τ54.1 7 ∧ τ54.1 7 ≤ 90000 := hT.1 7
                            have v8 : 0 ≤ τ54.1 8 ∧ τ54.1 8 ≤ 20000 := hT.1 8
                            have v9 : 0 ≤ τ54.1 9 ∧ τ54.1 9 ≤ 20000 := hT.1 9
                            have v16 : 0 ≤ τ54.1 16 ∧ τ54.1 16 ≤ 60000 := hT.1 16
                            have v17 : 0 ≤ τ54.1 17 ∧ τ54.1 17 ≤ 60000 := hT.1 17
                            have v18 : 0 ≤ τ54.1 18 ∧ τ54.1 18 ≤ 60000 := hT.1 18
                            have v19 : (-1) ≤ τ54.1 19 ∧ τ54.1 19 ≤ 125 := hT.1 19
                            have v20 : 0 ≤ τ54.1 20 ∧ τ54.1 20 ≤ 19 := hT.1 20
                            have v22 : 0 ≤ τ54.1 22 ∧ τ54.1 22 ≤ 1499 := hT.1 22
                            have a14_22 : 0 ≤ τ54.2.1 14 (τ54.1 22) ∧ τ54.2.1 14 (τ54.1 22) ≤ 30000 := hT.2 14 _
                            have a15_22 : 0 ≤ τ54.2.1 15 (τ54.1 22) ∧ τ54.2.1 15 (τ54.1 22) ≤ 300 := hT.2 15 _
                            have av6 : σ.1 6 ≤ τ54.1 6 := ag.1 6 (by decide)
                            exact ih_26 _ (show (3 * ((τ54.1 0) - (τ54.1 16)) + z_0 ((τ54.1 20)) + 1 - z_0 ((τ54.1 19)) : Int) < ((m_26 : Nat) : Int) from by (have zz0 := z_e ((τ54.1 20)); have zz1 := z_e ((τ54.1 19)); (first | omega | (simp only [st_s] <;> omega) | assumption | omega))) hT ag (show τ54.1 0 = σ.1 0 from by omega) (show τ54.1 3 = σ.1 3 from by omega) (show τ54.1 5 = σ.1 5 from by omega) (show τ54.1 7 = σ.1 7 from by omega) (show τ54.1 8 = σ.1 8 from by omega) (show τ54.1 9 = σ.1 9 from by omega) (show τ54.1 22 = σ.1 22 from by omega) G6 G7 G14 (show (τ54.1 16) ≤ (τ54.1 0) from by (first | omega | (simp only [st_s] <;> omega) | assumption | omega)) (show (τ54.1 17) + (τ54.1 18) ≤ (τ54.1 0) from by (first | omega | (simp only [st_s] <;> omega) | assumption | omega)) (show oc (τ54.2.1 6) < 4096 from by (first | omega | (simp only [st_s] <;> omega) | assumption | omega)) (show oc (τ54.2.1 7) < 4096 from by (first | omega | (simp only [st_s] <;> omega) | assumption | omega)) (show ¬ (σ.1 20) = 0 → (τ54.1 20) = (σ.1 20) from by (first | omega | (simp only [st_s] <;> omega) | assumption | omega)) (show τ54.2.1 14 (τ54.1 22) + τ54.2.1 15 (τ54.1 22) = (τ54.1 6) from Z1) (show ca (τ54.2.1 12) ((τ54.1 3)) ≤ (τ54.1 4) from Y20) (show (τ54.1 20) = 0 → 1 ≤ τ54.2.1 15 (τ54.1 22) from by (first | omega | (simp only [st_s] <;> omega) | assumption | omega)) (show (σ.1 16) ≤ (τ54.1 16) from by (first | omega | (simp only [st_s] <;> omega) | assumption | omega))
                        ·
                          refine ⟨_, K_X13_failHere hT (show 0 ≤ 11 from by (first | omega | (simp only [st_s] <;> omega) | assumption | omega)) (show 11 ≤ 19 from by (first | omega | (simp only [st_s] <;> omega) | assumption | omega)), ?_⟩
                          intro τ44 hn_τ44 hf_τ44 hq
                          obtain ⟨hT, q42_1, q42_2⟩ := hq
                          replace q42_1 : ¬ (τ_26.1 20) = 0 → (τ44.1 20) = (τ_26.1 20) := q42_1
                          replace q42_2 : (τ_26.1 20) = 0 → (τ44.1 20) = 11 := q42_2
                          replace ag : m_ag σ τ44 := ag_r ag hf_τ44 rfl rfl
                          have w0_τ44 : τ44.1 0 = τ_26.1 0 := hf_τ44.1 0 (by decide)
                          have w3_τ44 : τ44.1 3 = τ_26.1 3 := hf_τ44.1 3 (by decide)
                          have w4_τ44 : τ44.1 4 = τ_26.1 4 := hf_τ44.1 4 (by decide)
                          have w5_τ44 : τ44.1 5 = τ_26.1 5 := hf_τ44.1 5 (by decide)
                          have w6_τ44 : τ44.1 6 = τ_26.1 6 := hf_τ44.1 6 (by decide)
                          have w7_τ44 : τ44.1 7 = τ_26.1 7 := hf_τ44.1 7 (by decide)
                          have w8_τ44 : τ44.1 8 = τ_26.1 8 := hf_τ44.1 8 (by decide)
                          have w9_τ44 : τ44.1 9 = τ_26.1 9 := hf_τ44.1 9 (by decide)
                          have w16_τ44 : τ44.1 16 = τ_26.1 16 := hf_τ44.1 16 (by decide)
                          have w17_τ44 : τ44.1 17 = τ_26.1 17 := hf_τ44.1 17 (by decide)
                          have w18_τ44 : τ44.1 18 = τ_26.1 18 := hf_τ44.1 18 (by decide)
                          have w19_τ44 : τ44.1 19 = τ_26.1 19 := hf_τ44.1 19 (by decide)
                          have w22_τ44 : τ44.1 22 = τ_26.1 22 := hf_τ44.1 22 (by decide)
                          have g6_τ44 : τ44.2.1 6 = τ_26.2.1 6 := hf_τ44.2.1 6 (by decide)
                          have g7_τ44 : τ44.2.1 7 = τ_26.2.1 7 := hf_τ44.2.1 7 (by decide)
                          have g12_τ44 : τ44.2.1 12 = τ_26.2.1 12 := hf_τ44.2.1 12 (by decide)
                          have g14_τ44 : τ44.2.1 14 = τ_26.2.1 14 := hf_τ44.2.1 14 (by decide)
                          have g15_τ44 : τ44.2.1 15 = τ_26.2.1 15 := hf_τ44.2.1 15 (by decide)
                          first | (have o6_τ44 := congrArg oc g6_τ44) | skip
                          first | (have o7_τ44 := congrArg oc g7_τ44) | skip
                          have W0 : τ44.1 0 = σ.1 0 := by omega
                          have W3 : τ44.1 3 = σ.1 3 := by omega
                          have W5 : τ44.1 5 = σ.1 5 := by omega
                          have W7 : τ44.1 7 = σ.1 7 := by omega
                          have W8 : τ44.1 8 = σ.1 8 := by omega
                          have W9 : τ44.1 9 = σ.1 9 := by omega
                          have W22 : τ44.1 22 = σ.1 22 := by omega
                          have G6 : τ44.2.1 6 = σ.2.1 6 := (g6_τ44).trans G6
                          have G7 : τ44.2.1 7 = σ.2.1 7 := (g7_τ44).trans G7
                          have G14 : τ44.2.1 14 = σ.2.1 14 := (g14_τ44).trans G14
                          have y14_22_τ44 : τ44.2.1 14 (τ44.1 22) = (τ_26.2.1 14) (τ_26.1 22) := by rw [g14_τ44, w22_τ44]
                          have y15_22_τ44 : τ44.2.1 15 (τ44.1 22) = (τ_26.2.1 15) (τ_26.1 22) := by rw [g15_τ44, w22_τ44]
                          have Z1 : τ44.2.1 14 (τ44.1 22) + τ44.2.1 15 (τ44.1 22) = (τ44.1 6) := by rw [show (τ44.2.1 14 (τ44.1 22) + τ44.2.1 15 (τ44.1 22) = (τ44.1 6)) = (τ_26.2.1 14 (τ_26.1 22) + τ_26.2.1 15 (τ_26.1 22) = (τ_26.1 6)) from by rw [w6_τ44, w22_τ44, g14_τ44, g15_τ44]]; exact Z1
                          have Y20 : ca (τ44.2.1 12) ((τ44.1 3)) ≤ (τ44.1 4) := by rw [show (ca (τ44.2.1 12) ((τ44.1 3)) ≤ (τ44.1 4)) = (ca (τ_26.2.1 12) ((τ_26.1 3)) ≤ (τ_26.1 4)) from by rw [w3_τ44, w4_τ44, g12_τ44]]; exact Y20
                          have A6 : ∀ j, (-1) ≤ τ44.2.1 6 j ∧ τ44.2.1 6 j ≤ 999 := fun j => hT.2 6 j
                          have A7 : ∀ j, (-1) ≤ τ44.2.1 7 j ∧ τ44.2.1 7 j ≤ 1499 := fun j => hT.2 7 j
                          have A12 : ∀ j, 0 ≤ τ44.2.1 12 j ∧ τ44.2.1 12 j ≤ 1 := fun j => hT.2 12 j
                          have A14 : ∀ j, 0 ≤ τ44.2.1 14 j ∧ τ44.2.1 14 j ≤ 30000 := fun j => hT.2 14 j
                          have A15 : ∀ j, 0 ≤ τ44.2.1 15 j ∧ τ44.2.1 15 j ≤ 300 := fun j => hT.2 15 j
                          have v0 : 0 ≤ τ44.1 0 ∧ τ44.1 0 ≤ 60000 := hT.1 0
                          have v3 : 0 ≤ τ44.1 3 ∧ τ44.1 3 ≤ 1000 := hT.1 3
                          have v4 : 0 ≤ τ44.1 4 ∧ τ44.1 4 ≤ 100 := hT.1 4
                          have v5 : 0 ≤ τ44.1 5 ∧ τ44.1 5 ≤ 1500 := hT.1 5
                          have v6 : 0 ≤ τ44.1 6 ∧ τ44.1 6 ≤ 30000 := hT.1 6
                          have v7 : 0 ≤ τ44.1 7 ∧ τ44.1 7 ≤ 90000 := hT.1 7
                          have v8 : 0 ≤ τ44.1 8 ∧ τ44.1 8 ≤ 20000 := hT.1 8
                          have v9 : 0 ≤ τ44.1 9 ∧ τ44.1 9 ≤ 20000 := hT.1 9
                          have v16 : 0 ≤ τ44.1 16 ∧ τ44.1 16 ≤ 60000 := hT.1 16
                          have v17 : 0 ≤ τ44.1 17 ∧ τ44.1 17 ≤ 60000 := hT.1 17
                          have v18 : 0 ≤ τ44.1 18 ∧ τ44.1 18 ≤ 60000 := hT.1 18
                          have v19 : (-1) ≤ τ44.1 19 ∧ τ44.1 19 ≤ 125 := hT.1 19
                          have v20 : 0 ≤ τ44.1 20 ∧ τ44.1 20 ≤ 19 := hT.1 20
                          have v22 : 0 ≤ τ44.1 22 ∧ τ44.1 22 ≤ 1499 := hT.1 22
                          have a14_22 : 0 ≤ τ44.2.1 14 (τ44.1 22) ∧ τ44.2.1 14 (τ44.1 22) ≤ 30000 := hT.2 14 _
                          have a15_22 : 0 ≤ τ44.2.1 15 (τ44.1 22) ∧ τ44.2.1 15 (τ44.1 22) ≤ 300 := hT.2 15 _
                          have av6 : σ.1 6 ≤ τ44.1 6 := ag.1 6 (by decide)
                          exact ih_26 _ (show (3 * ((τ44.1 0) - (τ44.1 16)) + z_0 ((τ44.1 20)) + 1 - z_0 ((τ44.1 19)) : Int) < ((m_26 : Nat) : Int) from by (have zz0 := z_e ((τ44.1 20)); have zz1 := z_e ((τ44.1 19)); (first | omega | (simp only [st_s] <;> omega) | assumption | omega))) hT ag (show τ44.1 0 = σ.1 0 from by omega) (show τ44.1 3 = σ.1 3 from by omega) (show τ44.1 5 = σ.1 5 from by omega) (show τ44.1 7 = σ.1 7 from by omega) (show τ44.1 8 = σ.1 8 from by omega) (show τ44.1 9 = σ.1 9 from by omega) (show τ44.1 22 = σ.1 22 from by omega) G6 G7 G14 (show (τ44.1 16) ≤ (τ44.1 0) from by (first | omega | (simp only [st_s] <;> omega) | assumption | omega)) (show (τ44.1 17) + (τ44.1 18) ≤ (τ44.1 0) from by (first | omega | (simp only [st_s] <;> omega) | assumption | omega)) (show oc (τ44.2.1 6) < 4096 from by (first | omega | (simp only [st_s] <;> omega) | assumption | omega)) (show oc (τ44.2.1 7) < 4096 from by (first | omega | (simp only [st_s] <;> omega) | assumption | omega)) (show ¬ (σ.1 20) = 0 → (τ44.1 20) = (σ.1 20) from by (first | omega | (simp only [st_s] <;> omega) | assumption | omega)) (show τ44.2.1 14 (τ44.1 22) + τ44.2.1 15 (τ44.1 22) = (τ44.1 6) from Z1) (show ca (τ44.2.1 12) ((τ44.1 3)) ≤ (τ44.1 4) from Y20) (show (τ44.1 20) = 0 → 1 ≤ τ44.2.1 15 (τ44.1 22) from by (first | omega | (simp only [st_s] <;> omega) | assumption | omega)) (show (σ.1 16) ≤ (τ44.1 16) from by (first | omega | (simp only [st_s] <;> omega) | assumption | omega))
                    ·
                      refine h116 _ _ ?_
                      refine ⟨_, K_X13_failHere hT (show 0 ≤ 9 from by (first | omega | (simp only [st_s] <;> omega) | assumption | omega)) (show 9 ≤ 19 from by (first | omega | (simp only [st_s] <;> omega) | assumption | omega)), ?_⟩
                      intro τ36 hn_τ36 hf_τ36 hq
                      obtain ⟨hT, q34_1, q34_2⟩ := hq
                      replace q34_1 : ¬ (τ_26.1 20) = 0 → (τ36.1 20) = (τ_26.1 20) := q34_1
                      replace q34_2 : (τ_26.1 20) = 0 → (τ36.1 20) = 9 := q34_2
                      replace ag : m_ag σ τ36 := ag_r ag hf_τ36 rfl rfl
                      have w0_τ36 : τ36.1 0 = τ_26.1 0 := hf_τ36.1 0 (by decide)
                      have w3_τ36 : τ36.1 3 = τ_26.1 3 := hf_τ36.1 3 (by decide)
                      have w4_τ36 : τ36.1 4 = τ_26.1 4 := hf_τ36.1 4 (by decide)
                      have w5_τ36 : τ36.1 5 = τ_26.1 5 := hf_τ36.1 5 (by decide)
                      have w6_τ36 : τ36.1 6 = τ_26.1 6 := hf_τ36.1 6 (by decide)
                      have w7_τ36 : τ36.1 7 = τ_26.1 7 := hf_τ36.1 7 (by decide)
                      have w8_τ36 : τ36.1 8 = τ_26.1 8 := hf_τ36.1 8 (by decide)
                      have w9_τ36 : τ36.1 9 = τ_26.1 9 := hf_τ36.1 9 (by decide)
                      have w16_τ36 : τ36.1 16 = τ_26.1 16 := hf_τ36.1 16 (by decide)
                      have w17_τ36 : τ36.1 17 = τ_26.1 17 := hf_τ36.1 17 (by decide)
                      have w18_τ36 : τ36.1 18 = τ_26.1 18 := hf_τ36.1 18 (by decide)
                      have w19_τ36 : τ36.1 19 = τ_26.1 19 := hf_τ36.1 19 (by decide)
                      have w22_τ36 : τ36.1 22 = τ_26.1 22 := hf_τ36.1 22 (by decide)
                      have g6_τ36 : τ36.2.1 6 = τ_26.2.1 6 := hf_τ36.2.1 6 (by decide)
                      have g7_τ36 : τ36.2.1 7 = τ_26.2.1 7 := hf_τ36.2.1 7 (by decide)
                      have g12_τ36 : τ36.2.1 12 = τ_26.2.1 12 := hf_τ36.2.1 12 (by decide)
                      have g14_τ36 : τ36.2.1 14 = τ_26.2.1 14 := hf_τ36.2.1 14 (by decide)
                      have g15_τ36 : τ36.2.1 15 = τ_26.2.1 15 := hf_τ36.2.1 15 (by decide)
                      first | (have o6_τ36 := congrArg oc g6_τ36) | skip
                      first | (have o7_τ36 := congrArg oc g7_τ36) | skip
                      have W0 : τ36.1 0 = σ.1 0 := by omega
                      have W3 : τ36.1 3 = σ.1 3 := by omega
                      have W5 : τ36.1 5 = σ.1 5 := by omega
                      have W7 : τ36.1 7 = σ.1 7 := by omega
                      have W8 : τ36.1 8 = σ.1 8 := by omega
                      have W9 : τ36.1 9 = σ.1 9 := by omega
                      have W22 : τ36.1 22 = σ.1 22 := by omega
                      have G6 : τ36.2.1 6 = σ.2.1 6 := (g6_τ36).trans G6
                      have G7 : τ36.2.1 7 = σ.2.1 7 := (g7_τ36).trans G7
                      have G14 : τ36.2.1 14 = σ.2.1 14 := (g14_τ36).trans G14
                      have y14_22_τ36 : τ36.2.1 14 (τ36.1 22) = (τ_26.2.1 14) (τ_26.1 22) := by rw [g14_τ36, w22_τ36]
                      have y15_22_τ36 : τ36.2.1 15 (τ36.1 22) = (τ_26.2.1 15) (τ_26.1 22) := by rw [g15_τ36, w22_τ36]
                      have Z1 : τ36.2.1 14 (τ36.1 22) + τ36.2.1 15 (τ36.1 22) = (τ36.1 6) := by rw [show (τ36.2.1 14 (τ36.1 22) + τ36.2.1 15 (τ36.1 22) = (τ36.1 6)) = (τ_26.2.1 14 (τ_26.1 22) + τ_26.2.1 15 (τ_26.1 22) = (τ_26.1 6)) from by rw [w6_τ36, w22_τ36, g14_τ36, g15_τ36]]; exact Z1
                      have Y20 : ca (τ36.2.1 12) ((τ36.1 3)) ≤ (τ36.1 4) := by rw [show (ca (τ36.2.1 12) ((τ36.1 3)) ≤ (τ36.1 4)) = (ca (τ_26.2.1 12) ((τ_26.1 3)) ≤ (τ_26.1 4)) from by rw [w3_τ36, w4_τ36, g12_τ36]]; exact Y20
                      have A6 : ∀ j, (-1) ≤ τ36.2.1 6 j ∧ τ36.2.1 6 j ≤ 999 := fun j => hT.2 6 j
                      have A7 : ∀ j, (-1) ≤ τ36.2.1 7 j ∧ τ36.2.1 7 j ≤ 1499 := fun j => hT.2 7 j
                      have A12 : ∀ j, 0 ≤ τ36.2.1 12 j ∧ τ36.2.1 12 j ≤ 1 := fun j => hT.2 12 j
                      have A14 : ∀ j, 0 ≤ τ36.2.1 14 j ∧ τ36.2.1 14 j ≤ 30000 := fun j => hT.2 14 j
                      have A15 : ∀ j, 0 ≤ τ36.2.1 15 j ∧ τ36.2.1 15 j ≤ 300 := fun j => hT.2 15 j
                      have v0 : 0 ≤ τ36.1 0 ∧ τ36.1 0 ≤ 60000 := hT.1 0
                      have v3 : 0 ≤ τ36.1 3 ∧ τ36.1 3 ≤ 1000 := hT.1 3
                      have v4 : 0 ≤ τ36.1 4 ∧ τ36.1 4 ≤ 100 := hT.1 4
                      have v5 : 0 ≤ τ36.1 5 ∧ τ36.1 5 ≤ 1500 := hT.1 5
                      have v6 : 0 ≤ τ36.1 6 ∧ τ36.1 6 ≤ 30000 := hT.1 6
                      have v7 : 0 ≤ τ36.1 7 ∧ τ36.1 7 ≤ 90000 := hT.1 7
                      have v8 : 0 ≤ τ36.1 8 ∧ τ36.1 8 ≤ 20000 := hT.1 8
                      have v9 : 0 ≤ τ36.1 9 ∧ τ36.1 9 ≤ 20000 := hT.1 9
                      have v16 : 0 ≤ τ36.1 16 ∧ τ36.1 16 ≤ 60000 := hT.1 16
                      have v17 : 0 ≤ τ36.1 17 ∧ τ36.1 17 ≤ 60000 := hT.1 17
                      have v18 : 0 ≤ τ36.1 18 ∧ τ36.1 18 ≤ 60000 := hT.1 18
                      have v19 : (-1) ≤ τ36.1 19 ∧ τ36.1 19 ≤ 125 := hT.1 19
                      have v20 : 0 ≤ τ36.1 20 ∧ τ36.1 20 ≤ 19 := hT.1 20
                      have v22 : 0 ≤ τ36.1 22 ∧ τ36.1 22 ≤ 1499 := hT.1 22
                      have a14_22 : 0 ≤ τ36.2.1 14 (τ36.1 22) ∧ τ36.2.1 14 (τ36.1 22) ≤ 30000 := hT.2 14 _
                      have a15_22 : 0 ≤ τ36.2.1 15 (τ36.1 22) ∧ τ36.2.1 15 (τ36.1 22) ≤ 300 := hT.2 15 _
                      have av6 : σ.1 6 ≤ τ36.1 6 := ag.1 6 (by decide)
                      exact ih_26 _ (show (3 * ((τ36.1 0) - (τ36.1 16)) + z_0 ((τ36.1 20)) + 1 - z_0 ((τ36.1 19)) : Int) < ((m_26 : Nat) : Int) from by (have zz0 := z_e ((τ36.1 20)); have zz1 := z_e ((τ36.1 19)); (first | omega | (simp only [st_s] <;> omega) | assumption | omega))) hT ag (show τ36.1 0 = σ.1 0 from by omega) (show τ36.1 3 = σ.1 3 from by omega) (show τ36.1 5 = σ.1 5 from by omega) (show τ36.1 7 = σ.1 7 from by omega) (show τ36.1 8 = σ.1 8 from by omega) (show τ36.1 9 = σ.1 9 from by omega) (show τ36.1 22 = σ.1 22 from by omega) G6 G7 G14 (show (τ36.1 16) ≤ (τ36.1 0) from by (first | omega | (simp only [st_s] <;> omega) | assumption | omega)) (show (τ36.1 17) + (τ36.1 18) ≤ (τ36.1 0) from by (first | omega | (simp only [st_s] <;> omega) | assumption | omega)) (show oc (τ36.2.1 6) < 4096 from by (first | omega | (simp only [st_s] <;> omega) | assumption | omega)) (show oc (τ36.2.1 7) < 4096 from by (first | omega | (simp only [st_s] <;> omega) | assumption | omega)) (show ¬ (σ.1 20) = 0 → (τ36.1 20) = (σ.1 20) from by (first | omega | (simp only [st_s] <;> omega) | assumption | omega)) (show τ36.2.1 14 (τ36.1 22) + τ36.2.1 15 (τ36.1 22) = (τ36.1 6) from Z1) (show ca (τ36.2.1 12) ((τ36.1 3)) ≤ (τ36.1 4) from Y20) (show (τ36.1 20) = 0 → 1 ≤ τ36.2.1 15 (τ36.1 22) from by (first | omega | (simp only [st_s] <;> omega) | assumption | omega)) (show (σ.1 16) ≤ (τ36.1 16) from by (first | omega | (simp only [st_s] <;> omega) | assumption | omega))
              ·
                refine h85 _ _ ?_
                refine ⟨_, K_X13_failHere hT (show 0 ≤ 5 from by (first | omega | (simp only [st_s] <;> omega) | assumption | omega)) (show 5 ≤ 19 from by (first | omega | (simp only [st_s] <;> omega) | assumption | omega)), ?_⟩
                intro τ33 hn_τ33 hf_τ33 hq
                obtain ⟨hT, q31_1, q31_2⟩ := hq
                replace q31_1 : ¬ (τ_26.1 20) = 0 → (τ33.1 20) = (τ_26.1 20) := q31_1
                replace q31_2 : (τ_26.1 20) = 0 → (τ33.1 20) = 5 := q31_2
                replace ag : m_ag σ τ33 := ag_r ag hf_τ33 rfl rfl
                have w0_τ33 : τ33.1 0 = τ_26.1 0 := hf_τ33.1 0 (by decide)
                have w3_τ33 : τ33.1 3 = τ_26.1 3 := hf_τ33.1 3 (by decide)
                have w4_τ33 : τ33.1 4 = τ_26.1 4 := hf_τ33.1 4 (by decide)
                have w5_τ33 : τ33.1 5 = τ_26.1 5 := hf_τ33.1 5 (by decide)
                have w6_τ33 : τ33.1 6 = τ_26.1 6 := hf_τ33.1 6 (by decide)
                have w7_τ33 : τ33.1 7 = τ_26.1 7 := hf_τ33.1 7 (by decide)
                have w8_τ33 : τ33.1 8 = τ_26.1 8 := hf_τ33.1 8 (by decide)
                have w9_τ33 : τ33.1 9 = τ_26.1 9 := hf_τ33.1 9 (by decide)
                have w16_τ33 : τ33.1 16 = τ_26.1 16 := hf_τ33.1 16 (by decide)
                have w17_τ33 : τ33.1 17 = τ_26.1 17 := hf_τ33.1 17 (by decide)
                have w18_τ33 : τ33.1 18 = τ_26.1 18 := hf_τ33.1 18 (by decide)
                have w19_τ33 : τ33.1 19 = τ_26.1 19 := hf_τ33.1 19 (by decide)
                have w22_τ33 : τ33.1 22 = τ_26.1 22 := hf_τ33.1 22 (by decide)
                have g6_τ33 : τ33.2.1 6 = τ_26.2.1 6 := hf_τ33.2.1 6 (by decide)
                have g7_τ33 : τ33.2.1 7 = τ_26.2.1 7 := hf_τ33.2.1 7 (by decide)
                have g12_τ33 : τ33.2.1 12 = τ_26.2.1 12 := hf_τ33.2.1 12 (by decide)
                have g14_τ33 : τ33.2.1 14 = τ_26.2.1 14 := hf_τ33.2.1 14 (by decide)
                have g15_τ33 : τ33.2.1 15 = τ_26.2.1 15 := hf_τ33.2.1 15 (by decide)
                first | (have o6_τ33 := congrArg oc g6_τ33) | skip
                first | (have o7_τ33 := congrArg oc g7_τ33) | skip
                have W0 : τ33.1 0 = σ.1 0 := by omega
                have W3 : τ33.1 3 = σ.1 3 := by omega
                have W5 : τ33.1 5 = σ.1 5 := by omega
                have W7 : τ33.1 7 = σ.1 7 := by omega
                have W8 : τ33.1 8 = σ.1 8 := by omega
                have W9 : τ33.1 9 = σ.1 9 := by omega
                have W22 : τ33.1 22 = σ.1 22 := by omega
                have G6 : τ33.2.1 6 = σ.2.1 6 := (g6_τ33).trans G6
                have G7 : τ33.2.1 7 = σ.2.1 7 := (g7_τ33).trans G7
                have G14 : τ33.2.1 14 = σ.2.1 14 := (g14_τ33).trans G14
                have y14_22_τ33 : τ33.2.1 14 (τ33.1 22) = (τ_26.2.1 14) (τ_26.1 22) := by rw [g14_τ33, w22_τ33]
                have y15_22_τ33 : τ33.2.1 15 (τ33.1 22) = (τ_26.2.1 15) (τ_26.1 22) := by rw [g15_τ33, w22_τ33]
                have Z1 : τ33.2.1 14 (τ33.1 22) + τ33.2.1 15 (τ33.1 22) = (τ33.1 6) := by rw [show (τ33.2.1 14 (τ33.1 22) + τ33.2.1 15 (τ33.1 22) = (τ33.1 6)) = (τ_26.2.1 14 (τ_26.1 22) + τ_26.2.1 15 (τ_26.1 22) = (τ_26.1 6)) from by rw [w6_τ33, w22_τ33, g14_τ33, g15_τ33]]; exact Z1
                have Y20 : ca (τ33.2.1 12) ((τ33.1 3)) ≤ (τ33.1 4) := by rw [show (ca (τ33.2.1 12) ((τ33.1 3)) ≤ (τ33.1 4)) = (ca (τ_26.2.1 12) ((τ_26.1 3)) ≤ (τ_26.1 4)) from by rw [w3_τ33, w4_τ33, g12_τ33]]; exact Y20
                have A6 : ∀ j, (-1) ≤ τ33.2.1 6 j ∧ τ33.2.1 6 j ≤ 999 := fun j => hT.2 6 j
                have A7 : ∀ j, (-1) ≤ τ33.2.1 7 j ∧ τ33.2.1 7 j ≤ 1499 := fun j => hT.2 7 j
                have A12 : ∀ j, 0 ≤ τ33.2.1 12 j ∧ τ33.2.1 12 j ≤ 1 := fun j => hT.2 12 j
                have A14 : ∀ j, 0 ≤ τ33.2.1 14 j ∧ τ33.2.1 14 j ≤ 30000 := fun j => hT.2 14 j
                have A15 : ∀ j, 0 ≤ τ33.2.1 15 j ∧ τ33.2.1 15 j ≤ 300 := fun j => hT.2 15 j
                have v0 : 0 ≤ τ33.1 0 ∧ τ33.1 0 ≤ 60000 := hT.1 0
                have v3 : 0 ≤ τ33.1 3 ∧ τ33.1 3 ≤ 1000 := hT.1 3
                have v4 : 0 ≤ τ33.1 4 ∧ τ33.1 4 ≤ 100 := hT.1 4
                have v5 : 0 ≤ τ33.1 5 ∧ τ33.1 5 ≤ 1500 := hT.1 5
                have v6 : 0 ≤ τ33.1 6 ∧ τ33.1 6 ≤ 30000 := hT.1 6
                have v7 : 0 ≤ τ33.1 7 ∧ τ33.1 7 ≤ 90000 := hT.1 7
                have v8 : 0 ≤ τ33.1 8 ∧ τ33.1 8 ≤ 20000 := hT.1 8
                have v9 : 0 ≤ τ33.1 9 ∧ τ33.1 9 ≤ 20000 := hT.1 9
                have v16 : 0 ≤ τ33.1 16 ∧ τ33.1 16 ≤ 60000 := hT.1 16
                have v17 : 0 ≤ τ33.1 17 ∧ τ33.1 17 ≤ 60000 := hT.1 17
                have v18 : 0 ≤ τ33.1 18 ∧ τ33.1 18 ≤ 60000 := hT.1 18
                have v19 : (-1) ≤ τ33.1 19 ∧ τ33.1 19 ≤ 125 := hT.1 19
                have v20 : 0 ≤ τ33.1 20 ∧ τ33.1 20 ≤ 19 := hT.1 20
                have v22 : 0 ≤ τ33.1 22 ∧ τ33.1 22 ≤ 1499 := hT.1 22
                have a14_22 : 0 ≤ τ33.2.1 14 (τ33.1 22) ∧ τ33.2.1 14 (τ33.1 22) ≤ 30000 := hT.2 14 _
                have a15_22 : 0 ≤ τ33.2.1 15 (τ33.1 22) ∧ τ33.2.1 15 (τ33.1 22) ≤ 300 := hT.2 15 _
                have av6 : σ.1 6 ≤ τ33.1 6 := ag.1 6 (by decide)
                exact ih_26 _ (show (3 * ((τ33.1 0) - (τ33.1 16)) + z_0 ((τ33.1 20)) + 1 - z_0 ((τ33.1 19)) : Int) < ((m_26 : Nat) : Int) from by (have zz0 := z_e ((τ33.1 20)); have zz1 := z_e ((τ33.1 19)); (first | omega | (simp only [st_s] <;> omega) | assumption | omega))) hT ag (show τ33.1 0 = σ.1 0 from by omega) (show τ33.1 3 = σ.1 3 from by omega) (show τ33.1 5 = σ.1 5 from by omega) (show τ33.1 7 = σ.1 7 from by omega) (show τ33.1 8 = σ.1 8 from by omega) (show τ33.1 9 = σ.1 9 from by omega) (show τ33.1 22 = σ.1 22 from by omega) G6 G7 G14 (show (τ33.1 16) ≤ (τ33.1 0) from by (first | omega | (simp only [st_s] <;> omega) | assumption | omega)) (show (τ33.1 17) + (τ33.1 18) ≤ (τ33.1 0) from by (first | omega | (simp only [st_s] <;> omega) | assumption | omega)) (show oc (τ33.2.1 6) < 4096 from by (first | omega | (simp only [st_s] <;> omega) | assumption | omega)) (show oc (τ33.2.1 7) < 4096 from by (first | omega | (simp only [st_s] <;> omega) | assumption | omega)) (show ¬ (σ.1 20) = 0 → (τ33.1 20) = (σ.1 20) from by (first | omega | (simp only [st_s] <;> omega) | assumption | omega)) (show τ33.2.1 14 (τ33.1 22) + τ33.2.1 15 (τ33.1 22) = (τ33.1 6) from Z1) (show ca (τ33.2.1 12) ((τ33.1 3)) ≤ (τ33.1 4) from Y20) (show (τ33.1 20) = 0 → 1 ≤ τ33.2.1 15 (τ33.1 22) from by (first | omega | (simp only [st_s] <;> omega) | assumption | omega)) (show (σ.1 16) ≤ (τ33.1 16) from by (first | omega | (simp only [st_s] <;> omega) | assumption | omega))
          ·
            refine ⟨_, K_X13_failHere hT (show 0 ≤ 4 from by (first | omega | (simp only [st_s] <;> omega) | assumption | omega)) (show 4 ≤ 19 from by (first | omega | (simp only [st_s] <;> omega) | assumption | omega)), ?_⟩
            intro τ30 hn_τ30 hf_τ30 hq
            obtain ⟨hT, q28_1, q28_2⟩ := hq
            replace q28_1 : ¬ (τ_26.1 20) = 0 → (τ30.1 20) = (τ_26.1 20) := q28_1
            replace q28_2 : (τ_26.1 20) = 0 → (τ30.1 20) = 4 := q28_2
            replace ag : m_ag σ τ30 := ag_r ag hf_τ30 rfl rfl
            have w0_τ30 : τ30.1 0 = τ_26.1 0 := hf_τ30.1 0 (by decide)
            have w3_τ30 : τ30.1 3 = τ_26.1 3 := hf_τ30.1 3 (by decide)
            have w4_τ30 : τ30.1 4 = τ_26.1 4 := hf_τ30.1 4 (by decide)
            have w5_τ30 : τ30.1 5 = τ_26.1 5 := hf_τ30.1 5 (by decide)
            have w6_τ30 : τ30.1 6 = τ_26.1 6 := hf_τ30.1 6 (by decide)
            have w7_τ30 : τ30.1 7 = τ_26.1 7 := hf_τ30.1 7 (by decide)
            have w8_τ30 : τ30.1 8 = τ_26.1 8 := hf_τ30.1 8 (by decide)
            have w9_τ30 : τ30.1 9 = τ_26.1 9 := hf_τ30.1 9 (by decide)
            have w16_τ30 : τ30.1 16 = τ_26.1 16 := hf_τ30.1 16 (by decide)
            have w17_τ30 : τ30.1 17 = τ_26.1 17 := hf_τ30.1 17 (by decide)
            have w18_τ30 : τ30.1 18 = τ_26.1 18 := hf_τ30.1 18 (by decide)
            have w19_τ30 : τ30.1 19 = τ_26.1 19 := hf_τ30.1 19 (by decide)
            have w22_τ30 : τ30.1 22 = τ_26.1 22 := hf_τ30.1 22 (by decide)
            have g6_τ30 : τ30.2.1 6 = τ_26.2.1 6 := hf_τ30.2.1 6 (by decide)
            have g7_τ30 : τ30.2.1 7 = τ_26.2.1 7 := hf_τ30.2.1 7 (by decide)
            have g12_τ30 : τ30.2.1 12 = τ_26.2.1 12 := hf_τ30.2.1 12 (by decide)
            have g14_τ30 : τ30.2.1 14 = τ_26.2.1 14 := hf_τ30.2.1 14 (by decide)
            have g15_τ30 : τ30.2.1 15 = τ_26.2.1 15 := hf_τ30.2.1 15 (by decide)
            first | (have o6_τ30 := congrArg oc g6_τ30) | skip
            first | (have o7_τ30 := congrArg oc g7_τ30) | skip
            have W0 : τ30.1 0 = σ.1 0 := by omega
            have W3 : τ30.1 3 = σ.1 3 := by omega
            have W5 : τ30.1 5 = σ.1 5 := by omega
            have W7 : τ30.1 7 = σ.1 7 := by omega
            have W8 : τ30.1 8 = σ.1 8 := by omega
            have W9 : τ30.1 9 = σ.1 9 := by omega
            have W22 : τ30.1 22 = σ.1 22 := by omega
            have G6 : τ30.2.1 6 = σ.2.1 6 := (g6_τ30).trans G6
            have G7 : τ30.2.1 7 = σ.2.1 7 := (g7_τ30).trans G7
            have G14 : τ30.2.1 14 = σ.2.1 14 := (g14_τ30).trans G14
            have y14_22_τ30 : τ30.2.1 14 (τ30.1 22) = (τ_26.2.1 14) (τ_26.1 22) := by rw [g14_τ30, w22_τ30]
            have y15_22_τ30 : τ30.2.1 15 (τ30.1 22) = (τ_26.2.1 15) (τ_26.1 22) := by rw [g15_τ30, w22_τ30]
            have Z1 : τ30.2.1 14 (τ30.1 22) + τ30.2.1 15 (τ30.1 22) = (τ30.1 6) := by rw [show (τ30.2.1 14 (τ30.1 22) + τ30.2.1 15 (τ30.1 22) = (τ30.1 6)) = (τ_26.2.1 14 (τ_26.1 22) + τ_26.2.1 15 (τ_26.1 22) = (τ_26.1 6)) from by rw [w6_τ30, w22_τ30, g14_τ30, g15_τ30]]; exact Z1
            have Y20 : ca (τ30.2.1 12) ((τ30.1 3)) ≤ (τ30.1 4) := by rw [show (ca (τ30.2.1 12) ((τ30.1 3)) ≤ (τ30.1 4)) = (ca (τ_26.2.1 12) ((τ_26.1 3)) ≤ (τ_26.1 4)) from by rw [w3_τ30, w4_τ30, g12_τ30]]; exact Y20
            have A6 : ∀ j, (-1) ≤ τ30.2.1 6 j ∧ τ30.2.1 6 j ≤ 999 := fun j => hT.2 6 j
            have A7 : ∀ j, (-1) ≤ τ30.2.1 7 j ∧ τ30.2.1 7 j ≤ 1499 := fun j => hT.2 7 j
            have A12 : ∀ j, 0 ≤ τ30.2.1 12 j ∧ τ30.2.1 12 j ≤ 1 := fun j => hT.2 12 j
            have A14 : ∀ j, 0 ≤ τ30.2.1 14 j ∧ τ30.2.1 14 j ≤ 30000 := fun j => hT.2 14 j
            have A15 : ∀ j, 0 ≤ τ30.2.1 15 j ∧ τ30.2.1 15 j ≤ 300 := fun j => hT.2 15 j
            have v0 : 0 ≤ τ30.1 0 ∧ τ30.1 0 ≤ 60000 := hT.1 0
            have v3 : 0 ≤ τ30.1 3 ∧ τ30.1 3 ≤ 1000 := hT.1 3
            have v4 : 0 ≤ τ30.1 4 ∧ τ30.1 4 ≤ 100 := hT.1 4
            have v5 : 0 ≤ τ30.1 5 ∧ τ30.1 5 ≤ 1500 := hT.1 5
            have v6 : 0 ≤ τ30.1 6 ∧ τ30.1 6 ≤ 30000 := hT.1 6
            have v7 : 0 ≤ τ30.1 7 ∧ τ30.1 7 ≤ 90000 := hT.1 7
            have v8 : 0 ≤ τ30.1 8 ∧ τ30.1 8 ≤ 20000 := hT.1 8
            have v9 : 0 ≤ τ30.1 9 ∧ τ30.1 9 ≤ 20000 := hT.1 9
            have v16 : 0 ≤ τ30.1 16 ∧ τ30.1 16 ≤ 60000 := hT.1 16
            have v17 : 0 ≤ τ30.1 17 ∧ τ30.1 17 ≤ 60000 := hT.1 17
            have v18 : 0 ≤ τ30.1 18 ∧ τ30.1 18 ≤ 60000 := hT.1 18
            have v19 : (-1) ≤ τ30.1 19 ∧ τ30.1 19 ≤ 125 := hT.1 19
            have v20 : 0 ≤ τ30.1 20 ∧ τ30.1 20 ≤ 19 := hT.1 20
            have v22 : 0 ≤ τ30.1 22 ∧ τ30.1 22 ≤ 1499 := hT.1 22
            have a14_22 : 0 ≤ τ30.2.1 14 (τ30.1 22) ∧ τ30.2.1 14 (τ30.1 22) ≤ 30000 := hT.2 14 _
            have a15_22 : 0 ≤ τ30.2.1 15 (τ30.1 22) ∧ τ30.2.1 15 (τ30.1 22) ≤ 300 := hT.2 15 _
            have av6 : σ.1 6 ≤ τ30.1 6 := ag.1 6 (by decide)
            exact ⟨hT, (show (τ30.1 16) ≤ (τ30.1 0) from by (first | omega | (simp only [st_s] <;> omega) | assumption | omega)), (show (τ30.1 17) + (τ30.1 18) ≤ (τ30.1 0) from by (first | omega | (simp only [st_s] <;> omega) | assumption | omega)), (show ¬ (σ.1 20) = 0 → (τ30.1 20) = (σ.1 20) from by (first | omega | (simp only [st_s] <;> omega) | assumption | omega)), (show τ30.2.1 14 (τ30.1 22) + τ30.2.1 15 (τ30.1 22) = (τ30.1 6) from Z1), (show ca (τ30.2.1 12) ((τ30.1 3)) ≤ (τ30.1 4) from Y20), (show (τ30.1 20) = 0 → 1 ≤ τ30.2.1 15 (τ30.1 22) from by (first | omega | (simp only [st_s] <;> omega) | assumption | omega)), (show (σ.1 16) ≤ (τ30.1 16) from by (first | omega | (simp only [st_s] <;> omega) | assumption | omega)), ag⟩
  refine ⟨_, K_X13_next hT (show (σ.1 16) ≤ (σ.1 0) from by (first | omega | (simp only [st_s] <;> omega) | assumption | omega)), ?_⟩
  intro τ3 hn_τ3 hf_τ3 hq
  obtain ⟨hT, q1_1, q1_2, q1_3, q1_4, q1_5⟩ := hq
  replace q1_1 : (τ3.1 16) ≤ (τ3.1 0) := q1_1
  replace q1_2 : (τ3.1 17) + (τ3.1 18) ≤ (τ3.1 0) := q1_2
  replace q1_3 : (σ.1 16) ≤ (τ3.1 16) := q1_3
  replace q1_4 : ¬ (σ.1 20) = 0 → (τ3.1 20) = (σ.1 20) := q1_4
  replace q1_5 : (τ3.1 20) = 0 → ¬ (τ3.1 19) = 0 → (σ.1 16) < (τ3.1 16) ∧ 0 < (τ3.1 18) := q1_5
  replace ag : m_ag σ τ3 := ag_r ag hf_τ3 rfl rfl
  have w0_τ3 : τ3.1 0 = σ.1 0 := hf_τ3.1 0 (by decide)
  have w3_τ3 : τ3.1 3 = σ.1 3 := hf_τ3.1 3 (by decide)
  have w4_τ3 : τ3.1 4 = σ.1 4 := hf_τ3.1 4 (by decide)
  have w5_τ3 : τ3.1 5 = σ.1 5 := hf_τ3.1 5 (by decide)
  have w6_τ3 : τ3.1 6 = σ.1 6 := hf_τ3.1 6 (by decide)
  have w7_τ3 : τ3.1 7 = σ.1 7 := hf_τ3.1 7 (by decide)
  have w8_τ3 : τ3.1 8 = σ.1 8 := hf_τ3.1 8 (by decide)
  have w9_τ3 : τ3.1 9 = σ.1 9 := hf_τ3.1 9 (by decide)
  have w22_τ3 : τ3.1 22 = σ.1 22 := hf_τ3.1 22 (by decide)
  have g6_τ3 : τ3.2.1 6 = σ.2.1 6 := hf_τ3.2.1 6 (by decide)
  have g7_τ3 : τ3.2.1 7 = σ.2.1 7 := hf_τ3.2.1 7 (by decide)
  have g12_τ3 : τ3.2.1 12 = σ.2.1 12 := hf_τ3.2.1 12 (by decide)
  have g14_τ3 : τ3.2.1 14 = σ.2.1 14 := hf_τ3.2.1 14 (by decide)
  have g15_τ3 : τ3.2.1 15 = σ.2.1 15 := hf_τ3.2.1 15 (by decide)
  first | (have o6_τ3 := congrArg oc g6_τ3) | skip
  first | (have o7_τ3 := congrArg oc g7_τ3) | skip
  have W0 : τ3.1 0 = σ.1 0 := by omega
  have W3 : τ3.1 3 = σ.1 3 := by omega
  have W5 : τ3.1 5 = σ.1 5 := by omega
  have W7 : τ3.1 7 = σ.1 7 := by omega
  have W8 : τ3.1 8 = σ.1 8 := by omega
  have W9 : τ3.1 9 = σ.1 9 := by omega
  have W22 : τ3.1 22 = σ.1 22 := by omega
  have G6 : τ3.2.1 6 = σ.2.1 6 := (g6_τ3).trans G6
  have G7 : τ3.2.1 7 = σ.2.1 7 := (g7_τ3).trans G7
  have G14 : τ3.2.1 14 = σ.2.1 14 := (g14_τ3).trans G14
  have y14_22_τ3 : τ3.2.1 14 (τ3.1 22) = (σ.2.1 14) (σ.1 22) := by rw [g14_τ3, w22_τ3]
  have y15_22_τ3 : τ3.2.1 15 (τ3.1 22) = (σ.2.1 15) (σ.1 22) := by rw [g15_τ3, w22_τ3]
  have Z1 : τ3.2.1 14 (τ3.1 22) + τ3.2.1 15 (τ3.1 22) = (τ3.1 6) := by rw [show (τ3.2.1 14 (τ3.1 22) + τ3.2.1 15 (τ3.1 22) = (τ3.1 6)) = (σ.2.1 14 (σ.1 22) + σ.2.1 15 (σ.1 22) = (σ.1 6)) from by rw [w6_τ3, w22_τ3, g14_τ3, g15_τ3]]; exact Z1
  have Y20 : ca (τ3.2.1 12) ((τ3.1 3)) ≤ (τ3.1 4) := by rw [show (ca (τ3.2.1 12) ((τ3.1 3)) ≤ (τ3.1 4)) = (ca (σ.2.1 12) ((σ.1 3)) ≤ (σ.1 4)) from by rw [w3_τ3, w4_τ3, g12_τ3]]; exact Y20
  have A6 : ∀ j, (-1) ≤ τ3.2.1 6 j ∧ τ3.2.1 6 j ≤ 999 := fun j => hT.2 6 j
  have A7 : ∀ j, (-1) ≤ τ3.2.1 7 j ∧ τ3.2.1 7 j ≤ 1499 := fun j => hT.2 7 j
  have A12 : ∀ j, 0 ≤ τ3.2.1 12 j ∧ τ3.2.1 12 j ≤ 1 := fun j => hT.2 12 j
  have A14 : ∀ j, 0 ≤ τ3.2.1 14 j ∧ τ3.2.1 14 j ≤ 30000 := fun j => hT.2 14 j
  have A15 : ∀ j, 0 ≤ τ3.2.1 15 j ∧ τ3.2.1 15 j ≤ 300 := fun j => hT.2 15 j
  have v0 : 0 ≤ τ3.1 0 ∧ τ3.1 0 ≤ 60000 := hT.1 0
  have v3 : 0 ≤ τ3.1 3 ∧ τ3.1 3 ≤ 1000 := hT.1 3
  have v4 : 0 ≤ τ3.1 4 ∧ τ3.1 4 ≤ 100 := hT.1 4
  have v5 : 0 ≤ τ3.1 5 ∧ τ3.1 5 ≤ 1500 := hT.1 5
  have v6 : 0 ≤ τ3.1 6 ∧ τ3.1 6 ≤ 30000 := hT.1 6
  have v7 : 0 ≤ τ3.1 7 ∧ τ3.1 7 ≤ 90000 := hT.1 7
  have v8 : 0 ≤ τ3.1 8 ∧ τ3.1 8 ≤ 20000 := hT.1 8
  have v9 : 0 ≤ τ3.1 9 ∧ τ3.1 9 ≤ 20000 := hT.1 9
  have v16 : 0 ≤ τ3.1 16 ∧ τ3.1 16 ≤ 60000 := hT.1 16
  have v17 : 0 ≤ τ3.1 17 ∧ τ3.1 17 ≤ 60000 := hT.1 17
  have v18 : 0 ≤ τ3.1 18 ∧ τ3.1 18 ≤ 60000 := hT.1 18
  have v19 : (-1) ≤ τ3.1 19 ∧ τ3.1 19 ≤ 125 := hT.1 19
  have v20 : 0 ≤ τ3.1 20 ∧ τ3.1 20 ≤ 19 := hT.1 20
  have v22 : 0 ≤ τ3.1 22 ∧ τ3.1 22 ≤ 1499 := hT.1 22
  have a14_22 : 0 ≤ τ3.2.1 14 (τ3.1 22) ∧ τ3.2.1 14 (τ3.1 22) ≤ 30000 := hT.2 14 _
  have a15_22 : 0 ≤ τ3.2.1 15 (τ3.1 22) ∧ τ3.2.1 15 (τ3.1 22) ≤ 300 := hT.2 15 _
  have av6 : σ.1 6 ≤ τ3.1 6 := ag.1 6 (by decide)
  refine ⟨fun c4 => ?_, fun c4 => ?_⟩
  ·
    refine h15 _ _ ?_
    refine ⟨fun c8 => ?_, fun c8 => ?_⟩
    ·
      exact l_26 ((3 * ((τ3.1 0) - (τ3.1 16)) + z_0 ((τ3.1 20)) + 1 - z_0 ((τ3.1 19)) : Int).toNat + 1) _ (show (3 * ((τ3.1 0) - (τ3.1 16)) + z_0 ((τ3.1 20)) + 1 - z_0 ((τ3.1 19)) : Int) < (((3 * ((τ3.1 0) - (τ3.1 16)) + z_0 ((τ3.1 20)) + 1 - z_0 ((τ3.1 19)) : Int).toNat + 1 : Nat) : Int) from by (have zz0 := z_e ((τ3.1 20)); have zz1 := z_e ((τ3.1 19)); (first | omega | (simp only [st_s] <;> omega) | assumption | omega))) hT ag (show τ3.1 0 = σ.1 0 from by omega) (show τ3.1 3 = σ.1 3 from by omega) (show τ3.1 5 = σ.1 5 from by omega) (show τ3.1 7 = σ.1 7 from by omega) (show τ3.1 8 = σ.1 8 from by omega) (show τ3.1 9 = σ.1 9 from by omega) (show τ3.1 22 = σ.1 22 from by omega) G6 G7 G14 (show (τ3.1 16) ≤ (τ3.1 0) from by (first | omega | (simp only [st_s] <;> omega) | assumption | omega)) (show (τ3.1 17) + (τ3.1 18) ≤ (τ3.1 0) from by (first | omega | (simp only [st_s] <;> omega) | assumption | omega)) (show oc (τ3.2.1 6) < 4096 from by (first | omega | (simp only [st_s] <;> omega) | assumption | omega)) (show oc (τ3.2.1 7) < 4096 from by (first | omega | (simp only [st_s] <;> omega) | assumption | omega)) (show ¬ (σ.1 20) = 0 → (τ3.1 20) = (σ.1 20) from by (first | omega | (simp only [st_s] <;> omega) | assumption | omega)) (show τ3.2.1 14 (τ3.1 22) + τ3.2.1 15 (τ3.1 22) = (τ3.1 6) from Z1) (show ca (τ3.2.1 12) ((τ3.1 3)) ≤ (τ3.1 4) from Y20) (show (τ3.1 20) = 0 → 1 ≤ τ3.2.1 15 (τ3.1 22) from by (first | omega | (simp only [st_s] <;> omega) | assumption | omega)) (show (σ.1 16) ≤ (τ3.1 16) from by (first | omega | (simp only [st_s] <;> omega) | assumption | omega))
    ·
      refine ⟨_, K_X13_next hT (show (τ3.1 16) ≤ (τ3.1 0) from by (first | omega | (simp only [st_s] <;> omega) | assumption | omega)), ?_⟩
      intro τ11 hn_τ11 hf_τ11 hq
      obtain ⟨hT, q9_1, q9_2, q9_3, q9_4, q9_5⟩ := hq
      replace q9_1 : (τ11.1 16) ≤ (τ11.1 0) := q9_1
      replace q9_2 : (τ11.1 17) + (τ11.1 18) ≤ (τ11.1 0) := q9_2
      replace q9_3 : (τ3.1 16) ≤ (τ11.1 16) := q9_3
      replace q9_4 : ¬ (τ3.1 20) = 0 → (τ11.1 20) = (τ3.1 20) := q9_4
      replace q9_5 : (τ11.1 20) = 0 → ¬ (τ11.1 19) = 0 → (τ3.1 16) < (τ11.1 16) ∧ 0 < (τ11.1 18) := q9_5
      replace ag : m_ag σ τ11 := ag_r ag hf_τ11 rfl rfl
      have w0_τ11 : τ11.1 0 = τ3.1 0 := hf_τ11.1 0 (by decide)
      have w3_τ11 : τ11.1 3 = τ3.1 3 := hf_τ11.1 3 (by decide)
      have w4_τ11 : τ11.1 4 = τ3.1 4 := hf_τ11.1 4 (by decide)
      have w5_τ11 : τ11.1 5 = τ3.1 5 := hf_τ11.1 5 (by decide)
      have w6_τ11 : τ11.1 6 = τ3.1 6 := hf_τ11.1 6 (by decide)
      have w7_τ11 : τ11.1 7 = τ3.1 7 := hf_τ11.1 7 (by decide)
      have w8_τ11 : τ11.1 8 = τ3.1 8 := hf_τ11.1 8 (by decide)
      have w9_τ11 : τ11.1 9 = τ3.1 9 := hf_τ11.1 9 (by decide)
      have w22_τ11 : τ11.1 22 = τ3.1 22 := hf_τ11.1 22 (by decide)
      have g6_τ11 : τ11.2.1 6 = τ3.2.1 6 := hf_τ11.2.1 6 (by decide)
      have g7_τ11 : τ11.2.1 7 = τ3.2.1 7 := hf_τ11.2.1 7 (by decide)
      have g12_τ11 : τ11.2.1 12 = τ3.2.1 12 := hf_τ11.2.1 12 (by decide)
      have g14_τ11 : τ11.2.1 14 = τ3.2.1 14 := hf_τ11.2.1 14 (by decide)
      have g15_τ11 : τ11.2.1 15 = τ3.2.1 15 := hf_τ11.2.1 15 (by decide)
      first | (have o6_τ11 := congrArg oc g6_τ11) | skip
      first | (have o7_τ11 := congrArg oc g7_τ11) | skip
      have W0 : τ11.1 0 = σ.1 0 := by omega
      have W3 : τ11.1 3 = σ.1 3 := by omega
      have W5 : τ11.1 5 = σ.1 5 := by omega
      have W7 : τ11.1 7 = σ.1 7 := by omega
      have W8 : τ11.1 8 = σ.1 8 := by omega
      have W9 : τ11.1 9 = σ.1 9 := by omega
      have W22 : τ11.1 22 = σ.1 22 := by omega
      have G6 : τ11.2.1 6 = σ.2.1 6 := (g6_τ11).trans G6
      have G7 : τ11.2.1 7 = σ.2.1 7 := (g7_τ11).trans G7
      have G14 : τ11.2.1 14 = σ.2.1 14 := (g14_τ11).trans G14
      have y14_22_τ11 : τ11.2.1 14 (τ11.1 22) = (τ3.2.1 14) (τ3.1 22) := by rw [g14_τ11, w22_τ11]
      have y15_22_τ11 : τ11.2.1 15 (τ11.1 22) = (τ3.2.1 15) (τ3.1 22) := by rw [g15_τ11, w22_τ11]
      have Z1 : τ11.2.1 14 (τ11.1 22) + τ11.2.1 15 (τ11.1 22) = (τ11.1 6) := by rw [show (τ11.2.1 14 (τ11.1 22) + τ11.2.1 15 (τ11.1 22) = (τ11.1 6)) = (τ3.2.1 14 (τ3.1 22) + τ3.2.1 15 (τ3.1 22) = (τ3.1 6)) from by rw [w6_τ11, w22_τ11, g14_τ11, g15_τ11]]; exact Z1
      have Y20 : ca (τ11.2.1 12) ((τ11.1 3)) ≤ (τ11.1 4) := by rw [show (ca (τ11.2.1 12) ((τ11.1 3)) ≤ (τ11.1 4)) = (ca (τ3.2.1 12) ((τ3.1 3)) ≤ (τ3.1 4)) from by rw [w3_τ11, w4_τ11, g12_τ11]]; exact Y20
      have A6 : ∀ j, (-1) ≤ τ11.2.1 6 j ∧ τ11.2.1 6 j ≤ 999 := fun j => hT.2 6 j
      have A7 : ∀ j, (-1) ≤ τ11.2.1 7 j ∧ τ11.2.1 7 j ≤ 1499 := fun j => hT.2 7 j
      have A12 : ∀ j, 0 ≤ τ11.2.1 12 j ∧ τ11.2.1 12 j ≤ 1 := fun j => hT.2 12 j
      have A14 : ∀ j, 0 ≤ τ11.2.1 14 j ∧ τ11.2.1 14 j ≤ 30000 := fun j => hT.2 14 j
      have A15 : ∀ j, 0 ≤ τ11.2.1 15 j ∧ τ11.2.1 15 j ≤ 300 := fun j => hT.2 15 j
      have v0 : 0 ≤ τ11.1 0 ∧ τ11.1 0 ≤ 60000 := hT.1 0
      have v3 : 0 ≤ τ11.1 3 ∧ τ11.1 3 ≤ 1000 := hT.1 3
      have v4 : 0 ≤ τ11.1 4 ∧ τ11.1 4 ≤ 100 := hT.1 4
      have v5 : 0 ≤ τ11.1 5 ∧ τ11.1 5 ≤ 1500 := hT.1 5
      have v6 : 0 ≤ τ11.1 6 ∧ τ11.1 6 ≤ 30000 := hT.1 6
      have v7 : 0 ≤ τ11.1 7 ∧ τ11.1 7 ≤ 90000 := hT.1 7
      have v8 : 0 ≤ τ11.1 8 ∧ τ11.1 8 ≤ 20000 := hT.1 8
      have v9 : 0 ≤ τ11.1 9 ∧ τ11.1 9 ≤ 20000 := hT.1 9
      have v16 : 0 ≤ τ11.1 16 ∧ τ11.1 16 ≤ 60000 := hT.1 16
      have v17 : 0 ≤ τ11.1 17 ∧ τ11.1 17 ≤ 60000 := hT.1 17
      have v18 : 0 ≤ τ11.1 18 ∧ τ11.1 18 ≤ 60000 := hT.1 18
      have v19 : (-1) ≤ τ11.1 19 ∧ τ11.1 19 ≤ 125 := hT.1 19
      have v20 : 0 ≤ τ11.1 20 ∧ τ11.1 20 ≤ 19 := hT.1 20
      have v22 : 0 ≤ τ11.1 22 ∧ τ11.1 22 ≤ 1499 := hT.1 22
      have a14_22 : 0 ≤ τ11.2.1 14 (τ11.1 22) ∧ τ11.2.1 14 (τ11.1 22) ≤ 30000 := hT.2 14 _
      have a15_22 : 0 ≤ τ11.2.1 15 (τ11.1 22) ∧ τ11.2.1 15 (τ11.1 22) ≤ 300 := hT.2 15 _
      have av6 : σ.1 6 ≤ τ11.1 6 := ag.1 6 (by decide)
      exact l_26 ((3 * ((τ11.1 0) - (τ11.1 16)) + z_0 ((τ11.1 20)) + 1 - z_0 ((τ11.1 19)) : Int).toNat + 1) _ (show (3 * ((τ11.1 0) - (τ11.1 16)) + z_0 ((τ11.1 20)) + 1 - z_0 ((τ11.1 19)) : Int) < (((3 * ((τ11.1 0) - (τ11.1 16)) + z_0 ((τ11.1 20)) + 1 - z_0 ((τ11.1 19)) : Int).toNat + 1 : Nat) : Int) from by (have zz0 := z_e ((τ11.1 20)); have zz1 := z_e ((τ11.1 19)); (first | omega | (simp only [st_s] <;> omega) | assumption | omega))) hT ag (show τ11.1 0 = σ.1 0 from by omega) (show τ11.1 3 = σ.1 3 from by omega) (show τ11.1 5 = σ.1 5 from by omega) (show τ11.1 7 = σ.1 7 from by omega) (show τ11.1 8 = σ.1 8 from by omega) (show τ11.1 9 = σ.1 9 from by omega) (show τ11.1 22 = σ.1 22 from by omega) G6 G7 G14 (show (τ11.1 16) ≤ (τ11.1 0) from by (first | omega | (simp only [st_s] <;> omega) | assumption | omega)) (show (τ11.1 17) + (τ11.1 18) ≤ (τ11.1 0) from by (first | omega | (simp only [st_s] <;> omega) | assumption | omega)) (show oc (τ11.2.1 6) < 4096 from by (first | omega | (simp only [st_s] <;> omega) | assumption | omega)) (show oc (τ11.2.1 7) < 4096 from by (first | omega | (simp only [st_s] <;> omega) | assumption | omega)) (show ¬ (σ.1 20) = 0 → (τ11.1 20) = (σ.1 20) from by (first | omega | (simp only [st_s] <;> omega) | assumption | omega)) (show τ11.2.1 14 (τ11.1 22) + τ11.2.1 15 (τ11.1 22) = (τ11.1 6) from Z1) (show ca (τ11.2.1 12) ((τ11.1 3)) ≤ (τ11.1 4) from Y20) (show (τ11.1 20) = 0 → 1 ≤ τ11.2.1 15 (τ11.1 22) from by (first | omega | (simp only [st_s] <;> omega) | assumption | omega)) (show (σ.1 16) ≤ (τ11.1 16) from by (first | omega | (simp only [st_s] <;> omega) | assumption | omega))
  ·
    refine ⟨_, K_X13_readFirst hT (show (τ3.1 17) + (τ3.1 18) ≤ (τ3.1 0) from by (first | omega | (simp only [st_s] <;> omega) | assumption | omega)) (show oc (τ3.2.1 6) < 4096 from by (first | omega | (simp only [st_s] <;> omega) | assumption | omega)) (show τ3.2.1 15 (τ3.1 22) = 0 from by (first | omega | (simp only [st_s] <;> omega) | assumption | omega)) (show (τ3.1 22) = (τ3.1 5) from by (first | omega | (simp only [st_s] <;> omega) | assumption | omega)) (show τ3.2.1 14 (τ3.1 22) + τ3.2.1 15 (τ3.1 22) = (τ3.1 6) from Z1) (show ca (τ3.2.1 12) ((τ3.1 3)) ≤ (τ3.1 4) from Y20), ?_⟩
    intro τ7 hn_τ7 hf_τ7 hq
    obtain ⟨hT, q5_1, q5_2, q5_3, q5_4, q5_5, q5_6⟩ := hq
    replace q5_1 : (τ7.1 20) = 0 → τ7.2.1 15 (τ7.1 22) = 1 := q5_1
    replace q5_2 : τ7.2.1 15 (τ7.1 22) ≤ 1 := q5_2
    replace q5_3 : ¬ (τ3.1 20) = 0 → (τ7.1 20) = (τ3.1 20) := q5_3
    replace q5_4 : τ7.2.1 14 (τ7.1 22) + τ7.2.1 15 (τ7.1 22) = (τ7.1 6) := q5_4
    replace q5_5 : ca (τ7.2.1 12) ((τ7.1 3)) ≤ (τ7.1 4) := q5_5
    replace q5_6 : m_ag τ3 τ7 := q5_6
    replace ag : m_ag σ τ7 := ag_t ag q5_6 rfl
    have w0_τ7 : τ7.1 0 = τ3.1 0 := hf_τ7.1 0 (by decide)
    have w3_τ7 : τ7.1 3 = τ3.1 3 := hf_τ7.1 3 (by decide)
    have w5_τ7 : τ7.1 5 = τ3.1 5 := hf_τ7.1 5 (by decide)
    have w7_τ7 : τ7.1 7 = τ3.1 7 := hf_τ7.1 7 (by decide)
    have w8_τ7 : τ7.1 8 = τ3.1 8 := hf_τ7.1 8 (by decide)
    have w9_τ7 : τ7.1 9 = τ3.1 9 := hf_τ7.1 9 (by decide)
    have w16_τ7 : τ7.1 16 = τ3.1 16 := hf_τ7.1 16 (by decide)
    have w17_τ7 : τ7.1 17 = τ3.1 17 := hf_τ7.1 17 (by decide)
    have w18_τ7 : τ7.1 18 = τ3.1 18 := hf_τ7.1 18 (by decide)
    have w19_τ7 : τ7.1 19 = τ3.1 19 := hf_τ7.1 19 (by decide)
    have w22_τ7 : τ7.1 22 = τ3.1 22 := hf_τ7.1 22 (by decide)
    have g6_τ7 : τ7.2.1 6 = τ3.2.1 6 := hf_τ7.2.1 6 (by decide)
    have g7_τ7 : τ7.2.1 7 = τ3.2.1 7 := hf_τ7.2.1 7 (by decide)
    have g14_τ7 : τ7.2.1 14 = τ3.2.1 14 := hf_τ7.2.1 14 (by decide)
    first | (have o6_τ7 := congrArg oc g6_τ7) | skip
    first | (have o7_τ7 := congrArg oc g7_τ7) | skip
    have W0 : τ7.1 0 = σ.1 0 := by omega
    have W3 : τ7.1 3 = σ.1 3 := by omega
    have W5 : τ7.1 5 = σ.1 5 := by omega
    have W7 : τ7.1 7 = σ.1 7 := by omega
    have W8 : τ7.1 8 = σ.1 8 := by omega
    have W9 : τ7.1 9 = σ.1 9 := by omega
    have W22 : τ7.1 22 = σ.1 22 := by omega
    have G6 : τ7.2.1 6 = σ.2.1 6 := (g6_τ7).trans G6
    have G7 : τ7.2.1 7 = σ.2.1 7 := (g7_τ7).trans G7
    have G14 : τ7.2.1 14 = σ.2.1 14 := (g14_τ7).trans G14
    have y14_22_τ7 : τ7.2.1 14 (τ7.1 22) = (τ3.2.1 14) (τ3.1 22) := by rw [g14_τ7, w22_τ7]
    have Z1 : τ7.2.1 14 (τ7.1 22) + τ7.2.1 15 (τ7.1 22) = (τ7.1 6) := q5_4
    have Y20 : ca (τ7.2.1 12) ((τ7.1 3)) ≤ (τ7.1 4) := q5_5
    have A6 : ∀ j, (-1) ≤ τ7.2.1 6 j ∧ τ7.2.1 6 j ≤ 999 := fun j => hT.2 6 j
    have A7 : ∀ j, (-1) ≤ τ7.2.1 7 j ∧ τ7.2.1 7 j ≤ 1499 := fun j => hT.2 7 j
    have A12 : ∀ j, 0 ≤ τ7.2.1 12 j ∧ τ7.2.1 12 j ≤ 1 := fun j => hT.2 12 j
    have A14 : ∀ j, 0 ≤ τ7.2.1 14 j ∧ τ7.2.1 14 j ≤ 30000 := fun j => hT.2 14 j
    have A15 : ∀ j, 0 ≤ τ7.2.1 15 j ∧ τ7.2.1 15 j ≤ 300 := fun j => hT.2 15 j
    have v0 : 0 ≤ τ7.1 0 ∧ τ7.1 0 ≤ 60000 := hT.1 0
    have v3 : 0 ≤ τ7.1 3 ∧ τ7.1 3 ≤ 1000 := hT.1 3
    have v4 : 0 ≤ τ7.1 4 ∧ τ7.1 4 ≤ 100 := hT.1 4
    have v5 : 0 ≤ τ7.1 5 ∧ τ7.1 5 ≤ 1500 := hT.1 5
    have v6 : 0 ≤ τ7.1 6 ∧ τ7.1 6 ≤ 30000 := hT.1 6
    have v7 : 0 ≤ τ7.1 7 ∧ τ7.1 7 ≤ 90000 := hT.1 7
    have v8 : 0 ≤ τ7.1 8 ∧ τ7.1 8 ≤ 20000 := hT.1 8
    have v9 : 0 ≤ τ7.1 9 ∧ τ7.1 9 ≤ 20000 := hT.1 9
    have v16 : 0 ≤ τ7.1 16 ∧ τ7.1 16 ≤ 60000 := hT.1 16
    have v17 : 0 ≤ τ7.1 17 ∧ τ7.1 17 ≤ 60000 := hT.1 17
    have v18 : 0 ≤ τ7.1 18 ∧ τ7.1 18 ≤ 60000 := hT.1 18
    have v19 : (-1) ≤ τ7.1 19 ∧ τ7.1 19 ≤ 125 := hT.1 19
    have v20 : 0 ≤ τ7.1 20 ∧ τ7.1 20 ≤ 19 := hT.1 20
    have v22 : 0 ≤ τ7.1 22 ∧ τ7.1 22 ≤ 1499 := hT.1 22
    have a14_22 : 0 ≤ τ7.2.1 14 (τ7.1 22) ∧ τ7.2.1 14 (τ7.1 22) ≤ 30000 := hT.2 14 _
    have a15_22 : 0 ≤ τ7.2.1 15 (τ7.1 22) ∧ τ7.2.1 15 (τ7.1 22) ≤ 300 := hT.2 15 _
    have av6 : σ.1 6 ≤ τ7.1 6 := ag.1 6 (by decide)
    refine h15 _ _ ?_
    refine ⟨fun c8 => ?_, fun c8 => ?_⟩
    ·
      exact l_26 ((3 * ((τ7.1 0) - (τ7.1 16)) + z_0 ((τ7.1 20)) + 1 - z_0 ((τ7.1 19)) : Int).toNat + 1) _ (show (3 * ((τ7.1 0) - (τ7.1 16)) + z_0 ((τ7.1 20)) + 1 - z_0 ((τ7.1 19)) : Int) < (((3 * ((τ7.1 0) - (τ7.1 16)) + z_0 ((τ7.1 20)) + 1 - z_0 ((τ7.1 19)) : Int).toNat + 1 : Nat) : Int) from by (have zz0 := z_e ((τ7.1 20)); have zz1 := z_e ((τ7.1 19)); (first | omega | (simp only [st_s] <;> omega) | assumption | omega))) hT ag (show τ7.1 0 = σ.1 0 from by omega) (show τ7.1 3 = σ.1 3 from by omega) (show τ7.1 5 = σ.1 5 from by omega) (show τ7.1 7 = σ.1 7 from by omega) (show τ7.1 8 = σ.1 8 from by omega) (show τ7.1 9 = σ.1 9 from by omega) (show τ7.1 22 = σ.1 22 from by omega) G6 G7 G14 (show (τ7.1 16) ≤ (τ7.1 0) from by (first | omega | (simp only [st_s] <;> omega) | assumption | omega)) (show (τ7.1 17) + (τ7.1 18) ≤ (τ7.1 0) from by (first | omega | (simp only [st_s] <;> omega) | assumption | omega)) (show oc (τ7.2.1 6) < 4096 from by (first | omega | (simp only [st_s] <;> omega) | assumption | omega)) (show oc (τ7.2.1 7) < 4096 from by (first | omega | (simp only [st_s] <;> omega) | assumption | omega)) (show ¬ (σ.1 20) = 0 → (τ7.1 20) = (σ.1 20) from by (first | omega | (simp only [st_s] <;> omega) | assumption | omega)) (show τ7.2.1 14 (τ7.1 22) + τ7.2.1 15 (τ7.1 22) = (τ7.1 6) from Z1) (show ca (τ7.2.1 12) ((τ7.1 3)) ≤ (τ7.1 4) from Y20) (show (τ7.1 20) = 0 → 1 ≤ τ7.2.1 15 (τ7.1 22) from by (first | omega | (simp only [st_s] <;> omega) | assumption | omega)) (show (σ.1 16) ≤ (τ7.1 16) from by (first | omega | (simp only [st_s] <;> omega) | assumption | omega))
    ·
      refine ⟨_, K_X13_next hT (show (τ7.1 16) ≤ (τ7.1 0) from by (first | omega | (simp only [st_s] <;> omega) | assumption | omega)), ?_⟩
      intro τ11 hn_τ11 hf_τ11 hq
      obtain ⟨hT, q9_1, q9_2, q9_3, q9_4, q9_5⟩ := hq
      replace q9_1 : (τ11.1 16) ≤ (τ11.1 0) := q9_1
      replace q9_2 : (τ11.1 17) + (τ11.1 18) ≤ (τ11.1 0) := q9_2
      replace q9_3 : (τ7.1 16) ≤ (τ11.1 16) := q9_3
      replace q9_4 : ¬ (τ7.1 20) = 0 → (τ11.1 20) = (τ7.1 20) := q9_4
      replace q9_5 : (τ11.1 20) = 0 → ¬ (τ11.1 19) = 0 → (τ7.1 16) < (τ11.1 16) ∧ 0 < (τ11.1 18) := q9_5
      replace ag : m_ag σ τ11 := ag_r ag hf_τ11 rfl rfl
      have w0_τ11 : τ11.1 0 = τ7.1 0 := hf_τ11.1 0 (by decide)
      have w3_τ11 : τ11.1 3 = τ7.1 3 := hf_τ11.1 3 (by decide)
      have w4_τ11 : τ11.1 4 = τ7.1 4 := hf_τ11.1 4 (by decide)
      have w5_τ11 : τ11.1 5 = τ7.1 5 := hf_τ11.1 5 (by decide)
      have w6_τ11 : τ11.1 6 = τ7.1 6 := hf_τ11.1 6 (by decide)
      have w7_τ11 : τ11.1 7 = τ7.1 7 := hf_τ11.1 7 (by decide)
      have w8_τ11 : τ11.1 8 = τ7.1 8 := hf_τ11.1 8 (by decide)
      have w9_τ11 : τ11.1 9 = τ7.1 9 := hf_τ11.1 9 (by decide)
      have w22_τ11 : τ11.1 22 = τ7.1 22 := hf_τ11.1 22 (by decide)
      have g6_τ11 : τ11.2.1 6 = τ7.2.1 6 := hf_τ11.2.1 6 (by decide)
      have g7_τ11 : τ11.2.1 7 = τ7.2.1 7 := hf_τ11.2.1 7 (by decide)
      have g12_τ11 : τ11.2.1 12 = τ7.2.1 12 := hf_τ11.2.1 12 (by decide)
      have g14_τ11 : τ11.2.1 14 = τ7.2.1 14 := hf_τ11.2.1 14 (by decide)
      have g15_τ11 : τ11.2.1 15 = τ7.2.1 15 := hf_τ11.2.1 15 (by decide)
      first | (have o6_τ11 := congrArg oc g6_τ11) | skip
      first | (have o7_τ11 := congrArg oc g7_τ11) | skip
      have W0 : τ11.1 0 = σ.1 0 := by omega
      have W3 : τ11.1 3 = σ.1 3 := by omega
      have W5 : τ11.1 5 = σ.1 5 := by omega
      have W7 : τ11.1 7 = σ.1 7 := by omega
      have W8 : τ11.1 8 = σ.1 8 := by omega
      have W9 : τ11.1 9 = σ.1 9 := by omega
      have W22 : τ11.1 22 = σ.1 22 := by omega
      have G6 : τ11.2.1 6 = σ.2.1 6 := (g6_τ11).trans G6
      have G7 : τ11.2.1 7 = σ.2.1 7 := (g7_τ11).trans G7
      have G14 : τ11.2.1 14 = σ.2.1 14 := (g14_τ11).trans G14
      have y14_22_τ11 : τ11.2.1 14 (τ11.1 22) = (τ7.2.1 14) (τ7.1 22) := by rw [g14_τ11, w22_τ11]
      have y15_22_τ11 : τ11.2.1 15 (τ11.1 22) = (τ7.2.1 15) (τ7.1 22) := by rw [g15_τ11, w22_τ11]
      have Z1 : τ11.2.1 14 (τ11.1 22) + τ11.2.1 15 (τ11.1 22) = (τ11.1 6) := by rw [show (τ11.2.1 14 (τ11.1 22) + τ11.2.1 15 (τ11.1 22) = (τ11.1 6)) = (τ7.2.1 14 (τ7.1 22) + τ7.2.1 15 (τ7.1 22) = (τ7.1 6)) from by rw [w6_τ11, w22_τ11, g14_τ11, g15_τ11]]; exact Z1
      have Y20 : ca (τ11.2.1 12) ((τ11.1 3)) ≤ (τ11.1 4) := by rw [show (ca (τ11.2.1 12) ((τ11.1 3)) ≤ (τ11.1 4)) = (ca (τ7.2.1 12) ((τ7.1 3)) ≤ (τ7.1 4)) from by rw [w3_τ11, w4_τ11, g12_τ11]]; exact Y20
      have A6 : ∀ j, (-1) ≤ τ11.2.1 6 j ∧ τ11.2.1 6 j ≤ 999 := fun j => hT.2 6 j
      have A7 : ∀ j, (-1) ≤ τ11.2.1 7 j ∧ τ11.2.1 7 j ≤ 1499 := fun j => hT.2 7 j
      have A12 : ∀ j, 0 ≤ τ11.2.1 12 j ∧ τ11.2.1 12 j ≤ 1 := fun j => hT.2 12 j
      have A14 : ∀ j, 0 ≤ τ11.2.1 14 j ∧ τ11.2.1 14 j ≤ 30000 := fun j => hT.2 14 j
      have A15 : ∀ j, 0 ≤ τ11.2.1 15 j ∧ τ11.2.1 15 j ≤ 300 := fun j => hT.2 15 j
      have v0 : 0 ≤ τ11.1 0 ∧ τ11.1 0 ≤ 60000 := hT.1 0
      have v3 : 0 ≤ τ11.1 3 ∧ τ11.1 3 ≤ 1000 := hT.1 3
      have v4 : 0 ≤ τ11.1 4 ∧ τ11.1 4 ≤ 100 := hT.1 4
      have v5 : 0 ≤ τ11.1 5 ∧ τ11.1 5 ≤ 1500 := hT.1 5
      have v6 : 0 ≤ τ11.1 6 ∧ τ11.1 6 ≤ 30000 := hT.1 6
      have v7 : 0 ≤ τ11.1 7 ∧ τ11.1 7 ≤ 90000 := hT.1 7
      have v8 : 0 ≤ τ11.1 8 ∧ τ11.1 8 ≤ 20000 := hT.1 8
      have v9 : 0 ≤ τ11.1 9 ∧ τ11.1 9 ≤ 20000 := hT.1 9
      have v16 : 0 ≤ τ11.1 16 ∧ τ11.1 16 ≤ 60000 := hT.1 16
      have v17 : 0 ≤ τ11.1 17 ∧ τ11.1 17 ≤ 60000 := hT.1 17
      have v18 : 0 ≤ τ11.1 18 ∧ τ11.1 18 ≤ 60000 := hT.1 18
      have v19 : (-1) ≤ τ11.1 19 ∧ τ11.1 19 ≤ 125 := hT.1 19
      have v20 : 0 ≤ τ11.1 20 ∧ τ11.1 20 ≤ 19 := hT.1 20
      have v22 : 0 ≤ τ11.1 22 ∧ τ11.1 22 ≤ 1499 := hT.1 22
      have a14_22 : 0 ≤ τ11.2.1 14 (τ11.1 22) ∧ τ11.2.1 14 (τ11.1 22) ≤ 30000 := hT.2 14 _
      have a15_22 : 0 ≤ τ11.2.1 15 (τ11.1 22) ∧ τ11.2.1 15 (τ11.1 22) ≤ 300 := hT.2 15 _
      have av6 : σ.1 6 ≤ τ11.1 6 := ag.1 6 (by decide)
      exact l_26 ((3 * ((τ11.1 0) - (τ11.1 16)) + z_0 ((τ11.1 20)) + 1 - z_0 ((τ11.1 19)) : Int).toNat + 1) _ (show (3 * ((τ11.1 0) - (τ11.1 16)) + z_0 ((τ11.1 20)) + 1 - z_0 ((τ11.1 19)) : Int) < (((3 * ((τ11.1 0) - (τ11.1 16)) + z_0 ((τ11.1 20)) + 1 - z_0 ((τ11.1 19)) : Int).toNat + 1 : Nat) : Int) from by (have zz0 := z_e ((τ11.1 20)); have zz1 := z_e ((τ11.1 19)); (first | omega | (simp only [st_s] <;> omega) | assumption | omega))) hT ag (show τ11.1 0 = σ.1 0 from by omega) (show τ11.1 3 = σ.1 3 from by omega) (show τ11.1 5 = σ.1 5 from by omega) (show τ11.1 7 = σ.1 7 from by omega) (show τ11.1 8 = σ.1 8 from by omega) (show τ11.1 9 = σ.1 9 from by omega) (show τ11.1 22 = σ.1 22 from by omega) G6 G7 G14 (show (τ11.1 16) ≤ (τ11.1 0) from by (first | omega | (simp only [st_s] <;> omega) | assumption | omega)) (show (τ11.1 17) + (τ11.1 18) ≤ (τ11.1 0) from by (first | omega | (simp only [st_s] <;> omega) | assumption | omega)) (show oc (τ11.2.1 6) < 4096 from by (first | omega | (simp only [st_s] <;> omega) | assumption | omega)) (show oc (τ11.2.1 7) < 4096 from by (first | omega | (simp only [st_s] <;> omega) | assumption | omega)) (show ¬ (σ.1 20) = 0 → (τ11.1 20) = (σ.1 20) from by (first | omega | (simp only [st_s] <;> omega) | assumption | omega)) (show τ11.2.1 14 (τ11.1 22) + τ11.2.1 15 (τ11.1 22) = (τ11.1 6) from Z1) (show ca (τ11.2.1 12) ((τ11.1 3)) ≤ (τ11.1 4) from Y20) (show (τ11.1 20) = 0 → 1 ≤ τ11.2.1 15 (τ11.1 22) from by (first | omega | (simp only [st_s] <;> omega) | assumption | omega)) (show (σ.1 16) ≤ (τ11.1 16) from by (first | omega | (simp only [st_s] <;> omega) | assumption | omega))
set_option maxHeartbeats 1000000 in
theorem K_X13_makeFrame {σ : S0} (hT : m_T σ) (p1 : (σ.1 22) = (σ.1 5)) (p2 : σ.2.1 18 (σ.1 22) + σ.2.1 19 (σ.1 22) = (σ.1 7)) (p3 : σ.2.1 21 (σ.1 22) + σ.2.1 22 (σ.1 22) = (σ.1 8)) (p4 : (σ.1 7) ≤ 60 * (σ.1 22) + σ.2.1 19 (σ.1 22)) : W_X13_makeFrame σ (fun (τ : S0) => (m_T τ) ∧ (¬ (σ.1 20) = 0 → (τ.1 20) = (σ.1 20)) ∧ ((τ.1 7) ≤ 60 * (τ.1 22) + τ.2.1 19 (τ.1 22)) ∧ (τ.2.1 18 (τ.1 22) + τ.2.1 19 (τ.1 22) = (τ.1 7)) ∧ (τ.2.1 21 (τ.1 22) + τ.2.1 22 (τ.1 22) = (τ.1 8)) ∧ (m_ag σ τ)) := by
  have A18 : ∀ j, 0 ≤ σ.2.1 18 j ∧ σ.2.1 18 j ≤ 90000 := fun j => hT.2 18 j
  have A19 : ∀ j, 0 ≤ σ.2.1 19 j ∧ σ.2.1 19 j ≤ 60 := fun j => hT.2 19 j
  have A21 : ∀ j, 0 ≤ σ.2.1 21 j ∧ σ.2.1 21 j ≤ 20000 := fun j => hT.2 21 j
  have A22 : ∀ j, 0 ≤ σ.2.1 22 j ∧ σ.2.1 22 j ≤ 20000 := fun j => hT.2 22 j
  have v3 : 0 ≤ σ.1 3 ∧ σ.1 3 ≤ 1000 := hT.1 3
  have v5 : 0 ≤ σ.1 5 ∧ σ.1 5 ≤ 1500 := hT.1 5
  have v6 : 0 ≤ σ.1 6 ∧ σ.1 6 ≤ 30000 := hT.1 6
  have v7 : 0 ≤ σ.1 7 ∧ σ.1 7 ≤ 90000 := hT.1 7
  have v8 : 0 ≤ σ.1 8 ∧ σ.1 8 ≤ 20000 := hT.1 8
  have v9 : 0 ≤ σ.1 9 ∧ σ.1 9 ≤ 20000 := hT.1 9
  have v13 : 0 ≤ σ.1 13 ∧ σ.1 13 ≤ 1500 := hT.1 13
  have v14 : 0 ≤ σ.1 14 ∧ σ.1 14 ≤ 1000 := hT.1 14
  have v20 : 0 ≤ σ.1 20 ∧ σ.1 20 ≤ 19 := hT.1 20
  have v22 : 0 ≤ σ.1 22 ∧ σ.1 22 ≤ 1499 := hT.1 22
  have a18_22 : 0 ≤ σ.2.1 18 (σ.1 22) ∧ σ.2.1 18 (σ.1 22) ≤ 90000 := hT.2 18 _
  have a19_22 : 0 ≤ σ.2.1 19 (σ.1 22) ∧ σ.2.1 19 (σ.1 22) ≤ 60 := hT.2 19 _
  have a21_22 : 0 ≤ σ.2.1 21 (σ.1 22) ∧ σ.2.1 21 (σ.1 22) ≤ 20000 := hT.2 21 _
  have a22_22 : 0 ≤ σ.2.1 22 (σ.1 22) ∧ σ.2.1 22 (σ.1 22) ≤ 20000 := hT.2 22 _
  have W3 : σ.1 3 = σ.1 3 := rfl
  have W5 : σ.1 5 = σ.1 5 := rfl
  have W6 : σ.1 6 = σ.1 6 := rfl
  have W9 : σ.1 9 = σ.1 9 := rfl
  have W13 : σ.1 13 = σ.1 13 := rfl
  have W14 : σ.1 14 = σ.1 14 := rfl
  have W22 : σ.1 22 = σ.1 22 := rfl
  have G18 : σ.2.1 18 = σ.2.1 18 := rfl
  have G21 : σ.2.1 21 = σ.2.1 21 := rfl
  have ag : m_ag σ σ := ag_0 σ
  intro P2 P33 P74 P120 P181 h2 h33 h74 h120 h181
  have Z2 : σ.2.1 18 (σ.1 22) + σ.2.1 19 (σ.1 22) = (σ.1 7) := p2
  have Z3 : σ.2.1 21 (σ.1 22) + σ.2.1 22 (σ.1 22) = (σ.1 8) := p3
  have l_181 : ∀ (m_181 : Nat) (u1_181 : Int) (τ_181 : S0), 1502 - u1_181 < (m_181 : Int) → (m_T τ_181) → (m_ag σ τ_181) → (τ_181.1 3 = σ.1 3) → (τ_181.1 5 = σ.1 5) → (τ_181.1 6 = σ.1 6) → (τ_181.1 9 = σ.1 9) → (τ_181.1 13 = σ.1 13) → (τ_181.1 14 = σ.1 14) → (τ_181.1 22 = σ.1 22) → (τ_181.2.1 18 = σ.2.1 18) → (τ_181.2.1 21 = σ.2.1 21) → (0 ≤ u1_181) → (u1_181 ≤ 1501) → ((τ_181.1 20) = (σ.1 20)) → ((τ_181.1 7) ≤ 60 * (τ_181.1 22) + τ_181.2.1 19 (τ_181.1 22)) → (τ_181.2.1 18 (τ_181.1 22) + τ_181.2.1 19 (τ_181.1 22) = (τ_181.1 7)) → (τ_181.2.1 21 (τ_181.1 22) + τ_181.2.1 22 (τ_181.1 22) = (τ_181.1 8)) → P181 u1_181 τ_181 := by
    intro m_181
    induction m_181 with
    | zero =>
      intro u1_181 τ_181 hm hT ag W3 W5 W6 W9 W13 W14 W22 G18 G21 i181_1 i181_2 i181_3 i181_4 i181_5 i181_6
      have A18 : ∀ j, 0 ≤ τ_181.2.1 18 j ∧ τ_181.2.1 18 j ≤ 90000 := fun j => hT.2 18 j
      have A19 : ∀ j, 0 ≤ τ_181.2.1 19 j ∧ τ_181.2.1 19 j ≤ 60 := fun j => hT.2 19 j
      have A21 : ∀ j, 0 ≤ τ_181.2.1 21 j ∧ τ_181.2.1 21 j ≤ 20000 := fun j => hT.2 21 j
      have A22 : ∀ j, 0 ≤ τ_181.2.1 22 j ∧ τ_181.2.1 22 j ≤ 20000 := fun j => hT.2 22 j
      have v3 : 0 ≤ τ_181.1 3 ∧ τ_181.1 3 ≤ 1000 := hT.1 3
      have v5 : 0 ≤ τ_181.1 5 ∧ τ_181.1 5 ≤ 1500 := hT.1 5
      have v6 : 0 ≤ τ_181.1 6 ∧ τ_181.1 6 ≤ 30000 := hT.1 6
      have v7 : 0 ≤ τ_181.1 7 ∧ τ_181.1 7 ≤ 90000 := hT.1 7
      have v8 : 0 ≤ τ_181.1 8 ∧ τ_181.1 8 ≤ 20000 := hT.1 8
      have v9 : 0 ≤ τ_181.1 9 ∧ τ_181.1 9 ≤ 20000 := hT.1 9
      have v13 : 0 ≤ τ_181.1 13 ∧ τ_181.1 13 ≤ 1500 := hT.1 13
      have v14 : 0 ≤ τ_181.1 14 ∧ τ_181.1 14 ≤ 1000 := hT.1 14
      have v20 : 0 ≤ τ_181.1 20 ∧ τ_181.1 20 ≤ 19 := hT.1 20
      have v22 : 0 ≤ τ_181.1 22 ∧ τ_181.1 22 ≤ 1499 := hT.1 22
      have a18_22 : 0 ≤ τ_181.2.1 18 (τ_181.1 22) ∧ τ_181.2.1 18 (τ_181.1 22) ≤ 90000 := hT.2 18 _
      have a19_22 : 0 ≤ τ_181.2.1 19 (τ_181.1 22) ∧ τ_181.2.1 19 (τ_181.1 22) ≤ 60 := hT.2 19 _
      have a21_22 : 0 ≤ τ_181.2.1 21 (τ_181.1 22) ∧ τ_181.2.1 21 (τ_181.1 22) ≤ 20000 := hT.2 21 _
      have a22_22 : 0 ≤ τ_181.2.1 22 (τ_181.1 22) ∧ τ_181.2.1 22 (τ_181.1 22) ≤ 20000 := hT.2 22 _
      have av7 : σ.1 7 ≤ τ_181.1 7 := ag.1 7 (by decide)
      have av8 : σ.1 8 ≤ τ_181.1 8 := ag.1 8 (by decide)
      exfalso; (first | omega | (simp only [st_s] <;> omega) | assumption | omega)
    | succ m_181 ih_181 =>
      intro u1_181 τ_181 hm_181 hT ag W3 W5 W6 W9 W13 W14 W22 G18 G21 i181_1 i181_2 i181_3 i181_4 i181_5 i181_6
      have A18 : ∀ j, 0 ≤ τ_181.2.1 18 j ∧ τ_181.2.1 18 j ≤ 90000 := fun j => hT.2 18 j
      have A19 : ∀ j, 0 ≤ τ_181.2.1 19 j ∧ τ_181.2.1 19 j ≤ 60 := fun j => hT.2 19 j
      have A21 : ∀ j, 0 ≤ τ_181.2.1 21 j ∧ τ_181.2.1 21 j ≤ 20000 := fun j => hT.2 21 j
      have A22 : ∀ j, 0 ≤ τ_181.2.1 22 j ∧ τ_181.2.1 22 j ≤ 20000 := fun j => hT.2 22 j
      have v3 : 0 ≤ τ_181.1 3 ∧ τ_181.1 3 ≤ 1000 := hT.1 3
      have v5 : 0 ≤ τ_181.1 5 ∧ τ_181.1 5 ≤ 1500 := hT.1 5
      have v6 : 0 ≤ τ_181.1 6 ∧ τ_181.1 6 ≤ 30000 := hT.1 6
      have v7 : 0 ≤ τ_181.1 7 ∧ τ_181.1 7 ≤ 90000 := hT.1 7
      have v8 : 0 ≤ τ_181.1 8 ∧ τ_181.1 8 ≤ 20000 := hT.1 8
      have v9 : 0 ≤ τ_181.1 9 ∧ τ_181.1 9 ≤ 20000 := hT.1 9
      have v13 : 0 ≤ τ_181.1 13 ∧ τ_181.1 13 ≤ 1500 := hT.1 13
      have v14 : 0 ≤ τ_181.1 14 ∧ τ_181.1 14 ≤ 1000 := hT.1 14
      have v20 : 0 ≤ τ_181.1 20 ∧ τ_181.1 20 ≤ 19 := hT.1 20
      have v22 : 0 ≤ τ_181.1 22 ∧ τ_181.1 22 ≤ 1499 := hT.1 22
      have a18_22 : 0 ≤ τ_181.2.1 18 (τ_181.1 22) ∧ τ_181.2.1 18 (τ_181.1 22) ≤ 90000 := hT.2 18 _
      have a19_22 : 0 ≤ τ_181.2.1 19 (τ_181.1 22) ∧ τ_181.2.1 19 (τ_181.1 22) ≤ 60 := hT.2 19 _
      have a21_22 : 0 ≤ τ_181.2.1 21 (τ_181.1 22) ∧ τ_181.2.1 21 (τ_181.1 22) ≤ 20000 := hT.2 21 _
      have a22_22 : 0 ≤ τ_181.2.1 22 (τ_181.1 22) ∧ τ_181.2.1 22 (τ_181.1 22) ≤ 20000 := hT.2 22 _
      have av7 : σ.1 7 ≤ τ_181.1 7 := ag.1 7 (by decide)
      have av8 : σ.1 8 ≤ τ_181.1 8 := ag.1 8 (by decide)
      have y18_22_τ_181 : τ_181.2.1 18 (τ_181.1 22) = σ.2.1 18 (σ.1 22) := by rw [G18, W22]
      have y21_22_τ_181 : τ_181.2.1 21 (τ_181.1 22) = σ.2.1 21 (σ.1 22) := by rw [G21, W22]
      have Z2 : τ_181.2.1 18 (τ_181.1 22) + τ_181.2.1 19 (τ_181.1 22) = (τ_181.1 7) := i181_5
      have Z3 : τ_181.2.1 21 (τ_181.1 22) + τ_181.2.1 22 (τ_181.1 22) = (τ_181.1 8) := i181_6
      refine h181 u1_181 τ_181 ?_
      refine ⟨fun c32 => ?_, fun c32 => ?_⟩
      ·
        exact ⟨hT, (show ¬ (σ.1 20) = 0 → (τ_181.1 20) = (σ.1 20) from by (first | omega | (simp only [st_s] <;> omega) | assumption | omega)), (show (τ_181.1 7) ≤ 60 * (τ_181.1 22) + τ_181.2.1 19 (τ_181.1 22) from by (first | omega | (simp only [st_s] <;> omega) | assumption | omega)), (show τ_181.2.1 18 (τ_181.1 22) + τ_181.2.1 19 (τ_181.1 22) = (τ_181.1 7) from Z2), (show τ_181.2.1 21 (τ_181.1 22) + τ_181.2.1 22 (τ_181.1 22) = (τ_181.1 8) from Z3), ag⟩
      ·
        refine ⟨(show 0 ≤ u1_181 ∧ u1_181 < 1001 from by (first | omega | (simp only [st_s] <;> omega) | assumption | omega)), ?_⟩
        intro x34 r_x34 e_x34
        have b_x34 : 0 ≤ x34 ∧ x34 ≤ 999 := by rw [e_x34]; exact hT.2 32 _
        refine ⟨(show 0 ≤ x34 ∧ x34 < 1001 from by (first | omega | (simp only [st_s] <;> omega) | assumption | omega)), ?_⟩
        intro x36 r_x36 e_x36
        have b_x36 : 0 ≤ x36 ∧ x36 ≤ 1 := by rw [e_x36]; exact hT.2 38 _
        refine ⟨fun c37 => ?_, fun c37 => ?_⟩
        ·
          refine ⟨(⟨by (first | omega | (simp only [st_s] <;> omega) | assumption | omega), by (first | omega | (simp only [st_s] <;> omega) | assumption | omega)⟩ : rg (u1_181 + 1)), ?_⟩
          exact ih_181 _ _ (show (1502 - (u1_181 + 1) : Int) < ((m_181 : Nat) : Int) from by ((first | omega | (simp only [st_s] <;> omega) | assumption | omega))) hT ag (show τ_181.1 3 = σ.1 3 from by omega) (show τ_181.1 5 = σ.1 5 from by omega) (show τ_181.1 6 = σ.1 6 from by omega) (show τ_181.1 9 = σ.1 9 from by omega) (show τ_181.1 13 = σ.1 13 from by omega) (show τ_181.1 14 = σ.1 14 from by omega) (show τ_181.1 22 = σ.1 22 from by omega) G18 G21 (show 0 ≤ (u1_181 + 1) from by (first | omega | (simp only [st_s] <;> omega) | assumption | omega)) (show (u1_181 + 1) ≤ 1501 from by (first | omega | (simp only [st_s] <;> omega) | assumption | omega)) (show (τ_181.1 20) = (σ.1 20) from by (first | omega | (simp only [st_s] <;> omega) | assumption | omega)) (show (τ_181.1 7) ≤ 60 * (τ_181.1 22) + τ_181.2.1 19 (τ_181.1 22) from by (first | omega | (simp only [st_s] <;> omega) | assumption | omega)) (show τ_181.2.1 18 (τ_181.1 22) + τ_181.2.1 19 (τ_181.1 22) = (τ_181.1 7) from Z2) (show τ_181.2.1 21 (τ_181.1 22) + τ_181.2.1 22 (τ_181.1 22) = (τ_181.1 8) from Z3)
        ·
          intro x39 r_x39 e_x39
          have b_x39 : 0 ≤ x39 ∧ x39 ≤ 999 := by rw [e_x39]; exact hT.2 33 _
          refine ⟨(show 0 ≤ x39 ∧ x39 < 1001 from by (first | omega | (simp only [st_s] <;> omega) | assumption | omega)), ?_⟩
          intro x41 r_x41 e_x41
          have b_x41 : 0 ≤ x41 ∧ x41 ≤ 1 := by rw [e_x41]; exact hT.2 38 _
          refine ⟨fun c42 => ?_, fun c42 => ?_⟩
          ·
            refine ⟨(⟨by (first | omega | (simp only [st_s] <;> omega) | assumption | omega), by (first | omega | (simp only [st_s] <;> omega) | assumption | omega)⟩ : rg (u1_181 + 1)), ?_⟩
            exact ih_181 _ _ (show (1502 - (u1_181 + 1) : Int) < ((m_181 : Nat) : Int) from by ((first | omega | (simp only [st_s] <;> omega) | assumption | omega))) hT ag (show τ_181.1 3 = σ.1 3 from by omega) (show τ_181.1 5 = σ.1 5 from by omega) (show τ_181.1 6 = σ.1 6 from by omega) (show τ_181.1 9 = σ.1 9 from by omega) (show τ_181.1 13 = σ.1 13 from by omega) (show τ_181.1 14 = σ.1 14 from by omega) (show τ_181.1 22 = σ.1 22 from by omega) G18 G21 (show 0 ≤ (u1_181 + 1) from by (first | omega | (simp only [st_s] <;> omega) | assumption | omega)) (show (u1_181 + 1) ≤ 1501 from by (first | omega | (simp only [st_s] <;> omega) | assumption | omega)) (show (τ_181.1 20) = (σ.1 20) from by (first | omega | (simp only [st_s] <;> omega) | assumption | omega)) (show (τ_181.1 7) ≤ 60 * (τ_181.1 22) + τ_181.2.1 19 (τ_181.1 22) from by (first | omega | (simp only [st_s] <;> omega) | assumption | omega)) (show τ_181.2.1 18 (τ_181.1 22) + τ_181.2.1 19 (τ_181.1 22) = (τ_181.1 7) from Z2) (show τ_181.2.1 21 (τ_181.1 22) + τ_181.2.1 22 (τ_181.1 22) = (τ_181.1 8) from Z3)
          ·
            refine ⟨fun c44 => ?_, fun c44 => ?_⟩
            ·
              intro x45 r_x45 e_x45
              have b_x45 : 0 ≤ x45 ∧ x45 ≤ 999 := by rw [e_x45]; exact hT.2 32 _
              refine ⟨(show 0 ≤ τ_181.1 8 ∧ τ_181.1 8 < 20000 from by (first | omega | (simp only [st_s] <;> omega) | assumption | omega)), ?_⟩
              replace ag := ag_w (k := 23) (x := x45) 8 0 ag rfl (show σ.1 8 + 0 ≤ (τ_181.1 8) from by (first | omega | (simp only [st_s] <;> omega) | assumption | omega))
              replace hT := mT_a (k := 23) (j := (τ_181.1 8)) hT (show (0 : Int) ≤ x45 ∧ x45 ≤ 999 from by (first | omega | (simp only [st_s] <;> omega) | assumption | omega))
              intro x47 r_x47 e_x47
              have b_x47 : 0 ≤ x47 ∧ x47 ≤ 999 := by rw [e_x47]; exact hT.2 33 _
              replace ag := ag_w (k := 24) (x := x47) 8 0 ag rfl (show σ.1 8 + 0 ≤ (τ_181.1 8) from by (first | omega | (simp only [st_s] <;> omega) | assumption | omega))
              replace hT := mT_a (k := 24) (j := (τ_181.1 8)) hT (show (0 : Int) ≤ x47 ∧ x47 ≤ 999 from by (first | omega | (simp only [st_s] <;> omega) | assumption | omega))
              refine ⟨(⟨by (first | omega | (simp only [st_s] <;> omega) | assumption | omega), by (first | omega | (simp only [st_s] <;> omega) | assumption | omega)⟩ : rg (τ_181.1 8 + 1)), ?_⟩
              replace ag := ag_v (i := 8) (x := (τ_181.1 8 + 1)) ag (Or.inr (show σ.1 8 ≤ (τ_181.1 8 + 1) from by (first | omega | (simp only [st_s] <;> omega) | assumption | omega)))
              replace hT := mT_v (i := 8) hT (show 0 ≤ (τ_181.1 8 + 1) ∧ (τ_181.1 8 + 1) ≤ 20000 from by (first | omega | (simp only [st_s] <;> omega) | assumption | omega))
              refine ⟨(show 0 ≤ τ_181.1 22 ∧ τ_181.1 22 < 1501 from by (first | omega | (simp only [st_s] <;> omega) | assumption | omega)), ?_⟩
              intro x50 r_x50 e_x50
              have b_x50 : 0 ≤ x50 ∧ x50 ≤ 20000 := by rw [e_x50]; exact hT.2 22 _
              refine ⟨(⟨by (first | omega | (simp only [st_s] <;> omega) | assumption | omega), by (first | omega | (simp only [st_s] <;> omega) | assumption | omega)⟩ : rg (x50 + 1)), ?_⟩
              replace ag := ag_w (k := 22) (x := (x50 + 1)) 5 0 ag rfl (show σ.1 5 + 0 ≤ (τ_181.1 22) from by (first | omega | (simp only [st_s] <;> omega) | assumption | omega))
              replace hT := mT_a (k := 22) (j := (τ_181.1 22)) hT (show (0 : Int) ≤ (x50 + 1) ∧ (x50 + 1) ≤ 20000 from by (first | omega | (simp only [st_s] <;> omega) | assumption | omega))
              refine ⟨(⟨by (first | omega | (simp only [st_s] <;> omega) | assumption | omega), by (first | omega | (simp only [st_s] <;> omega) | assumption | omega)⟩ : rg (u1_181 + 1)), ?_⟩
              exact ih_181 _ _ (show (1502 - (u1_181 + 1) : Int) < ((m_181 : Nat) : Int) from by ((first | omega | (simp only [st_s] <;> omega) | assumption | omega))) hT ag (show τ_181.1 3 = σ.1 3 from by omega) (show τ_181.1 5 = σ.1 5 from by omega) (show τ_181.1 6 = σ.1 6 from by omega) (show τ_181.1 9 = σ.1 9 from by omega) (show τ_181.1 13 = σ.1 13 from by omega) (show τ_181.1 14 = σ.1 14 from by omega) (show τ_181.1 22 = σ.1 22 from by omega) G18 G21 (show 0 ≤ (u1_181 + 1) from by (first | omega | (simp only [st_s] <;> omega) | assumption | omega)) (show (u1_181 + 1) ≤ 1501 from by (first | omega | (simp only [st_s] <;> omega) | assumption | omega)) (show (τ_181.1 20) = (σ.1 20) from by (first | omega | (simp only [st_s] <;> omega) | assumption | omega)) (show (τ_181.1 7) ≤ 60 * (τ_181.1 22) + τ_181.2.1 19 (τ_181.1 22) from by (first | omega | (simp only [st_s] <;> omega) | assumption | omega)) (show τ_181.2.1 18 (τ_181.1 22) + τ_181.2.1 19 (τ_181.1 22) = (τ_181.1 7) from Z2) (show τ_181.2.1 21 (τ_181.1 22) + (st (τ_181.2.1 22) (τ_181.1 22) (x50 + 1)) (τ_181.1 22) = ((τ_181.1 8 + 1)) from by (first | omega | (simp only [st_s] <;> omega) | assumption | omega))
            ·
              refine ⟨_, K_X13_failHere hT (show 0 ≤ 5 from by (first | omega | (simp only [st_s] <;> omega) | assumption | omega)) (show 5 ≤ 19 from by (first | omega | (simp only [st_s] <;> omega) | assumption | omega)), ?_⟩
              intro τ55 hn_τ55 hf_τ55 hq
              obtain ⟨hT, q53_1, q53_2⟩ := hq
              replace q53_1 : ¬ (τ_181.1 20) = 0 → (τ55.1 20) = (τ_181.1 20) := q53_1
              replace q53_2 : (τ_181.1 20) = 0 → (τ55.1 20) = 5 := q53_2
              replace ag : m_ag σ τ55 := ag_r ag hf_τ55 rfl rfl
              have w3_τ55 : τ55.1 3 = τ_181.1 3 := hf_τ55.1 3 (by decide)
              have w5_τ55 : τ55.1 5 = τ_181.1 5 := hf_τ55.1 5 (by decide)
              have w6_τ55 : τ55.1 6 = τ_181.1 6 := hf_τ55.1 6 (by decide)
              have w7_τ55 : τ55.1 7 = τ_181.1 7 := hf_τ55.1 7 (by decide)
              have w8_τ55 : τ55.1 8 = τ_181.1 8 := hf_τ55.1 8 (by decide)
              have w9_τ55 : τ55.1 9 = τ_181.1 9 := hf_τ55.1 9 (by decide)
              have w13_τ55 : τ55.1 13 = τ_181.1 13 := hf_τ55.1 13 (by decide)
              have w14_τ55 : τ55.1 14 = τ_181.1 14 := hf_τ55.1 14 (by decide)
              have w22_τ55 : τ55.1 22 = τ_181.1 22 := hf_τ55.1 22 (by decide)
              have g18_τ55 : τ55.2.1 18 = τ_181.2.1 18 := hf_τ55.2.1 18 (by decide)
              have g19_τ55 : τ55.2.1 19 = τ_181.2.1 19 := hf_τ55.2.1 19 (by decide)
              have g21_τ55 : τ55.2.1 21 = τ_181.2.1 21 := hf_τ55.2.1 21 (by decide)
              have g22_τ55 : τ55.2.1 22 = τ_181.2.1 22 := hf_τ55.2.1 22 (by decide)
              have W3 : τ55.1 3 = σ.1 3 := by omega
              have W5 : τ55.1 5 = σ.1 5 := by omega
              have W6 : τ55.1 6 = σ.1 6 := by omega
              have W9 : τ55.1 9 = σ.1 9 := by omega
              have W13 : τ55.1 13 = σ.1 13 := by omega
              have W14 : τ55.1 14 = σ.1 14 := by omega
              have W22 : τ55.1 22 = σ.1 22 := by omega
              have G18 : τ55.2.1 18 = σ.2.1 18 := (g18_τ55).trans G18
              have G21 : τ55.2.1 21 = σ.2.1 21 := (g21_τ55).trans G21
              have y18_22_τ55 : τ55.2.1 18 (τ55.1 22) = (τ_181.2.1 18) (τ_181.1 22) := by rw [g18_τ55, w22_τ55]
              have y19_22_τ55 : τ55.2.1 19 (τ55.1 22) = (τ_181.2.1 19) (τ_181.1 22) := by rw [g19_τ55, w22_τ55]
              have y21_22_τ55 : τ55.2.1 21 (τ55.1 22) = (τ_181.2.1 21) (τ_181.1 22) := by rw [g21_τ55, w22_τ55]
              have y22_22_τ55 : τ55.2.1 22 (τ55.1 22) = (τ_181.2.1 22) (τ_181.1 22) := by rw [g22_τ55, w22_τ55]
              have Z2 : τ55.2.1 18 (τ55.1 22) + τ55.2.1 19 (τ55.1 22) = (τ55.1 7) := by rw [show (τ55.2.1 18 (τ55.1 22) + τ55.2.1 19 (τ55.1 22) = (τ55.1 7)) = (τ_181.2.1 18 (τ_181.1 22) + τ_181.2.1 19 (τ_181.1 22) = (τ_181.1 7)) from by rw [w7_τ55, w22_τ55, g18_τ55, g19_τ55]]; exact Z2
              have Z3 : τ55.2.1 21 (τ55.1 22) + τ55.2.1 22 (τ55.1 22) = (τ55.1 8) := by rw [show (τ55.2.1 21 (τ55.1 22) + τ55.2.1 22 (τ55.1 22) = (τ55.1 8)) = (τ_181.2.1 21 (τ_181.1 22) + τ_181.2.1 22 (τ_181.1 22) = (τ_181.1 8)) from by rw [w8_τ55, w22_τ55, g21_τ55, g22_τ55]]; exact Z3
              have A18 : ∀ j, 0 ≤ τ55.2.1 18 j ∧ τ55.2.1 18 j ≤ 90000 := fun j => hT.2 18 j
              have A19 : ∀ j, 0 ≤ τ55.2.1 19 j ∧ τ55.2.1 19 j ≤ 60 := fun j => hT.2 19 j
              have A21 : ∀ j, 0 ≤ τ55.2.1 21 j ∧ τ55.2.1 21 j ≤ 20000 := fun j => hT.2 21 j
              have A22 : ∀ j, 0 ≤ τ55.2.1 22 j ∧ τ55.2.1 22 j ≤ 20000 := fun j => hT.2 22 j
              have v3 : 0 ≤ τ55.1 3 ∧ τ55.1 3 ≤ 1000 := hT.1 3
              have v5 : 0 ≤ τ55.1 5 ∧ τ55.1 5 ≤ 1500 := hT.1 5
              have v6 : 0 ≤ τ55.1 6 ∧ τ55.1 6 ≤ 30000 := hT.1 6
              have v7 : 0 ≤ τ55.1 7 ∧ τ55.1 7 ≤ 90000 := hT.1 7
              have v8 : 0 ≤ τ55.1 8 ∧ τ55.1 8 ≤ 20000 := hT.1 8
              have v9 : 0 ≤ τ55.1 9 ∧ τ55.1 9 ≤ 20000 := hT.1 9
              have v13 : 0 ≤ τ55.1 13 ∧ τ55.1 13 ≤ 1500 := hT.1 13
              have v14 : 0 ≤ τ55.1 14 ∧ τ55.1 14 ≤ 1000 := hT.1 14
              have v20 : 0 ≤ τ55.1 20 ∧ τ55.1 20 ≤ 19 := hT.1 20
              have v22 : 0 ≤ τ55.1 22 ∧ τ55.1 22 ≤ 1499 := hT.1 22
              have a18_22 : 0 ≤ τ55.2.1 18 (τ55.1 22) ∧ τ55.2.1 18 (τ55.1 22) ≤ 90000 := hT.2 18 _
              have a19_22 : 0 ≤ τ55.2.1 19 (τ55.1 22) ∧ τ55.2.1 19 (τ55.1 22) ≤ 60 := hT.2 19 _
              have a21_22 : 0 ≤ τ55.2.1 21 (τ55.1 22) ∧ τ55.2.1 21 (τ55.1 22) ≤ 20000 := hT.2 21 _
              have a22_22 : 0 ≤ τ55.2.1 22 (τ55.1 22) ∧ τ55.2.1 22 (τ55.1 22) ≤ 20000 := hT.2 22 _
              have av7 : σ.1 7 ≤ τ55.1 7 := ag.1 7 (by decide)
              have av8 : σ.1 8 ≤ τ55.1 8 := ag.1 8 (by decide)
              exact ⟨hT, (show ¬ (σ.1 20) = 0 → (τ55.1 20) = (σ.1 20) from by (first | omega | (simp only [st_s] <;> omega) | assumption | omega)), (show (τ55.1 7) ≤ 60 * (τ55.1 22) + τ55.2.1 19 (τ55.1 22) from by (first | omega | (simp only [st_s] <;> omega) | assumption | omega)), (show τ55.2.1 18 (τ55.1 22) + τ55.2.1 19 (τ55.1 22) = (τ55.1 7) from Z2), (show τ55.2.1 21 (τ55.1 22) + τ55.2.1 22 (τ55.1 22) = (τ55.1 8) from Z3), ag⟩
  have l_74 : ∀ (m_74 : Nat) (u1_74 : Int) (τ_74 : S0), 1502 - u1_74 < (m_74 : Int) → (m_T τ_74) → (m_ag σ τ_74) → (τ_74.1 3 = σ.1 3) → (τ_74.1 5 = σ.1 5) → (τ_74.1 6 = σ.1 6) → (τ_74.1 9 = σ.1 9) → (τ_74.1 13 = σ.1 13) → (τ_74.1 14 = σ.1 14) → (τ_74.1 22 = σ.1 22) → (τ_74.2.1 18 = σ.2.1 18) → (τ_74.2.1 21 = σ.2.1 21) → (0 ≤ u1_74) → (u1_74 ≤ 1501) → ((τ_74.1 20) = (σ.1 20)) → ((τ_74.1 8) = (σ.1 8)) → (τ_74.2.1 22 (τ_74.1 22) = σ.2.1 22 (σ.1 22)) → ((τ_74.1 7) ≤ 60 * (τ_74.1 22) + τ_74.2.1 19 (τ_74.1 22)) → (τ_74.2.1 18 (τ_74.1 22) + τ_74.2.1 19 (τ_74.1 22) = (τ_74.1 7)) → P74 u1_74 τ_74 := by
    intro m_74
    induction m_74 with
    | zero =>
      intro u1_74 τ_74 hm hT ag W3 W5 W6 W9 W13 W14 W22 G18 G21 i74_1 i74_2 i74_3 i74_4 i74_5 i74_6 i74_7
      have A18 : ∀ j, 0 ≤ τ_74.2.1 18 j ∧ τ_74.2.1 18 j ≤ 90000 := fun j => hT.2 18 j
      have A19 : ∀ j, 0 ≤ τ_74.2.1 19 j ∧ τ_74.2.1 19 j ≤ 60 := fun j => hT.2 19 j
      have A21 : ∀ j, 0 ≤ τ_74.2.1 21 j ∧ τ_74.2.1 21 j ≤ 20000 := fun j => hT.2 21 j
      have A22 : ∀ j, 0 ≤ τ_74.2.1 22 j ∧ τ_74.2.1 22 j ≤ 20000 := fun j => hT.2 22 j
      have v3 : 0 ≤ τ_74.1 3 ∧ τ_74.1 3 ≤ 1000 := hT.1 3
      have v5 : 0 ≤ τ_74.1 5 ∧ τ_74.1 5 ≤ 1500 := hT.1 5
      have v6 : 0 ≤ τ_74.1 6 ∧ τ_74.1 6 ≤ 30000 := hT.1 6
      have v7 : 0 ≤ τ_74.1 7 ∧ τ_74.1 7 ≤ 90000 := hT.1 7
      have v8 : 0 ≤ τ_74.1 8 ∧ τ_74.1 8 ≤ 20000 := hT.1 8
      have v9 : 0 ≤ τ_74.1 9 ∧ τ_74.1 9 ≤ 20000 := hT.1 9
      have v13 : 0 ≤ τ_74.1 13 ∧ τ_74.1 13 ≤ 1500 := hT.1 13
      have v14 : 0 ≤ τ_74.1 14 ∧ τ_74.1 14 ≤ 1000 := hT.1 14
      have v20 : 0 ≤ τ_74.1 20 ∧ τ_74.1 20 ≤ 19 := hT.1 20
      have v22 : 0 ≤ τ_74.1 22 ∧ τ_74.1 22 ≤ 1499 := hT.1 22
      have a18_22 : 0 ≤ τ_74.2.1 18 (τ_74.1 22) ∧ τ_74.2.1 18 (τ_74.1 22) ≤ 90000 := hT.2 18 _
      have a19_22 : 0 ≤ τ_74.2.1 19 (τ_74.1 22) ∧ τ_74.2.1 19 (τ_74.1 22) ≤ 60 := hT.2 19 _
      have a21_22 : 0 ≤ τ_74.2.1 21 (τ_74.1 22) ∧ τ_74.2.1 21 (τ_74.1 22) ≤ 20000 := hT.2 21 _
      have a22_22 : 0 ≤ τ_74.2.1 22 (τ_74.1 22) ∧ τ_74.2.1 22 (τ_74.1 22) ≤ 20000 := hT.2 22 _
      have av7 : σ.1 7 ≤ τ_74.1 7 := ag.1 7 (by decide)
      have av8 : σ.1 8 ≤ τ_74.1 8 := ag.1 8 (by decide)
      exfalso; (first | omega | (simp only [st_s] <;> omega) | assumption | omega)
    | succ m_74 ih_74 =>
      intro u1_74 τ_74 hm_74 hT ag W3 W5 W6 W9 W13 W14 W22 G18 G21 i74_1 i74_2 i74_3 i74_4 i74_5 i74_6 i74_7
      have A18 : ∀ j, 0 ≤ τ_74.2.1 18 j ∧ τ_74.2.1 18 j ≤ 90000 := fun j => hT.2 18 j
      have A19 : ∀ j, 0 ≤ τ_74.2.1 19 j ∧ τ_74.2.1 19 j ≤ 60 := fun j => hT.2 19 j
      have A21 : ∀ j, 0 ≤ τ_74.2.1 21 j ∧ τ_74.2.1 21 j ≤ 20000 := fun j => hT.2 21 j
      have A22 : ∀ j, 0 ≤ τ_74.2.1 22 j ∧ τ_74.2.1 22 j ≤ 20000 := fun j => hT.2 22 j
      have v3 : 0 ≤ τ_74.1 3 ∧ τ_74.1 3 ≤ 1000 := hT.1 3
      have v5 : 0 ≤ τ_74.1 5 ∧ τ_74.1 5 ≤ 1500 := hT.1 5
      have v6 : 0 ≤ τ_74.1 6 ∧ τ_74.1 6 ≤ 30000 := hT.1 6
      have v7 : 0 ≤ τ_74.1 7 ∧ τ_74.1 7 ≤ 90000 := hT.1 7
      have v8 : 0 ≤ τ_74.1 8 ∧ τ_74.1 8 ≤ 20000 := hT.1 8
      have v9 : 0 ≤ τ_74.1 9 ∧ τ_74.1 9 ≤ 20000 := hT.1 9
      have v13 : 0 ≤ τ_74.1 13 ∧ τ_74.1 13 ≤ 1500 := hT.1 13
      have v14 : 0 ≤ τ_74.1 14 ∧ τ_74.1 14 ≤ 1000 := hT.1 14
      have v20 : 0 ≤ τ_74.1 20 ∧ τ_74.1 20 ≤ 19 := hT.1 20
      have v22 : 0 ≤ τ_74.1 22 ∧ τ_74.1 22 ≤ 1499 := hT.1 22
      have a18_22 : 0 ≤ τ_74.2.1 18 (τ_74.1 22) ∧ τ_74.2.1 18 (τ_74.1 22) ≤ 90000 := hT.2 18 _
      have a19_22 : 0 ≤ τ_74.2.1 19 (τ_74.1 22) ∧ τ_74.2.1 19 (τ_74.1 22) ≤ 60 := hT.2 19 _
      have a21_22 : 0 ≤ τ_74.2.1 21 (τ_74.1 22) ∧ τ_74.2.1 21 (τ_74.1 22) ≤ 20000 := hT.2 21 _
      have a22_22 : 0 ≤ τ_74.2.1 22 (τ_74.1 22) ∧ τ_74.2.1 22 (τ_74.1 22) ≤ 20000 := hT.2 22 _
      have av7 : σ.1 7 ≤ τ_74.1 7 := ag.1 7 (by decide)
      have av8 : σ.1 8 ≤ τ_74.1 8 := ag.1 8 (by decide)
      have y18_22_τ_74 : τ_74.2.1 18 (τ_74.1 22) = σ.2.1 18 (σ.1 22) := by rw [G18, W22]
      have y21_22_τ_74 : τ_74.2.1 21 (τ_74.1 22) = σ.2.1 21 (σ.1 22) := by rw [G21, W22]
      have Z2 : τ_74.2.1 18 (τ_74.1 22) + τ_74.2.1 19 (τ_74.1 22) = (τ_74.1 7) := i74_7
      refine h74 u1_74 τ_74 ?_
      refine ⟨fun c19 => ?_, fun c19 => ?_⟩
      ·
        exact l_181 ((1502 - 0 : Int).toNat + 1) _ _ (show (1502 - 0 : Int) < (((1502 - 0 : Int).toNat + 1 : Nat) : Int) from by ((first | omega | (simp only [st_s] <;> omega) | assumption | omega))) hT ag (show τ_74.1 3 = σ.1 3 from by omega) (show τ_74.1 5 = σ.1 5 from by omega) (show τ_74.1 6 = σ.1 6 from by omega) (show τ_74.1 9 = σ.1 9 from by omega) (show τ_74.1 13 = σ.1 13 from by omega) (show τ_74.1 14 = σ.1 14 from by omega) (show τ_74.1 22 = σ.1 22 from by omega) G18 G21 (show 0 ≤ 0 from by (first | omega | (simp only [st_s] <;> omega) | assumption | omega)) (show 0 ≤ 1501 from by (first | omega | (simp only [st_s] <;> omega) | assumption | omega)) (show (τ_74.1 20) = (σ.1 20) from by (first | omega | (simp only [st_s] <;> omega) | assumption | omega)) (show (τ_74.1 7) ≤ 60 * (τ_74.1 22) + τ_74.2.1 19 (τ_74.1 22) from by (first | omega | (simp only [st_s] <;> omega) | assumption | omega)) (show τ_74.2.1 18 (τ_74.1 22) + τ_74.2.1 19 (τ_74.1 22) = (τ_74.1 7) from Z2) (show τ_74.2.1 21 (τ_74.1 22) + τ_74.2.1 22 (τ_74.1 22) = (τ_74.1 8) from by (first | omega | (simp only [st_s] <;> omega) | assumption | omega))
      ·
        refine ⟨(show 0 ≤ u1_74 ∧ u1_74 < 1501 from by (first | omega | (simp only [st_s] <;> omega) | assumption | omega)), ?_⟩
        intro x21 r_x21 e_x21
        have b_x21 : 0 ≤ x21 ∧ x21 ≤ 1499 := by rw [e_x21]; exact hT.2 31 _
        refine ⟨(show 0 ≤ x21 ∧ x21 < 1501 from by (first | omega | (simp only [st_s] <;> omega) | assumption | omega)), ?_⟩
        intro x23 r_x23 e_x23
        have b_x23 : 0 ≤ x23 ∧ x23 ≤ 4 := by rw [e_x23]; exact hT.2 13 _
        refine ⟨fun c24 => ?_, fun c24 => ?_⟩
        ·
          refine h120 _ _ _ ?_
          refine ⟨(show 0 ≤ τ_74.1 22 ∧ τ_74.1 22 < 1501 from by (first | omega | (simp only [st_s] <;> omega) | assumption | omega)), ?_⟩
          intro x57 r_x57 e_x57
          have b_x57 : 0 ≤ x57 ∧ x57 ≤ 60 := by rw [e_x57]; exact hT.2 19 _
          refine ⟨fun c58 => ?_, fun c58 => ?_⟩
          ·
            refine ⟨(show 0 ≤ τ_74.1 7 ∧ τ_74.1 7 < 90100 from by (first | omega | (simp only [st_s] <;> omega) | assumption | omega)), ?_⟩
            replace ag := ag_w (k := 20) (x := x21) 7 0 ag rfl (show σ.1 7 + 0 ≤ (τ_74.1 7) from by (first | omega | (simp only [st_s] <;> omega) | assumption | omega))
            replace hT := mT_a (k := 20) (j := (τ_74.1 7)) hT (show (0 : Int) ≤ x21 ∧ x21 ≤ 1499 from by (first | omega | (simp only [st_s] <;> omega) | assumption | omega))
            refine ⟨(⟨by (first | omega | (simp only [st_s] <;> omega) | assumption | omega), by (first | omega | (simp only [st_s] <;> omega) | assumption | omega)⟩ : rg (τ_74.1 7 + 1)), ?_⟩
            replace ag := ag_v (i := 7) (x := (τ_74.1 7 + 1)) ag (Or.inr (show σ.1 7 ≤ (τ_74.1 7 + 1) from by (first | omega | (simp only [st_s] <;> omega) | assumption | omega)))
            replace hT := mT_v (i := 7) hT (show 0 ≤ (τ_74.1 7 + 1) ∧ (τ_74.1 7 + 1) ≤ 90000 from by (first | omega | (simp only [st_s] <;> omega) | assumption | omega))
            intro x61 r_x61 e_x61
            have b_x61 : 0 ≤ x61 ∧ x61 ≤ 60 := by rw [e_x61]; exact hT.2 19 _
            refine ⟨(⟨by (first | omega | (simp only [st_s] <;> omega) | assumption | omega), by (first | omega | (simp only [st_s] <;> omega) | assumption | omega)⟩ : rg (x61 + 1)), ?_⟩
            replace ag := ag_w (k := 19) (x := (x61 + 1)) 5 0 ag rfl (show σ.1 5 + 0 ≤ (τ_74.1 22) from by (first | omega | (simp only [st_s] <;> omega) | assumption | omega))
            replace hT := mT_a (k := 19) (j := (τ_74.1 22)) hT (show (0 : Int) ≤ (x61 + 1) ∧ (x61 + 1) ≤ 60 from by (first | omega | (simp only [st_s] <;> omega) | assumption | omega))
            refine ⟨(⟨by (first | omega | (simp only [st_s] <;> omega) | assumption | omega), by (first | omega | (simp only [st_s] <;> omega) | assumption | omega)⟩ : rg (u1_74 + 1)), ?_⟩
            exact ih_74 _ _ (show (1502 - (u1_74 + 1) : Int) < ((m_74 : Nat) : Int) from by ((first | omega | (simp only [st_s] <;> omega) | assumption | omega))) hT ag (show τ_74.1 3 = σ.1 3 from by omega) (show τ_74.1 5 = σ.1 5 from by omega) (show τ_74.1 6 = σ.1 6 from by omega) (show τ_74.1 9 = σ.1 9 from by omega) (show τ_74.1 13 = σ.1 13 from by omega) (show τ_74.1 14 = σ.1 14 from by omega) (show τ_74.1 22 = σ.1 22 from by omega) G18 G21 (show 0 ≤ (u1_74 + 1) from by (first | omega | (simp only [st_s] <;> omega) | assumption | omega)) (show (u1_74 + 1) ≤ 1501 from by (first | omega | (simp only [st_s] <;> omega) | assumption | omega)) (show (τ_74.1 20) = (σ.1 20) from by (first | omega | (simp only [st_s] <;> omega) | assumption | omega)) (show (τ_74.1 8) = (σ.1 8) from by (first | omega | (simp only [st_s] <;> omega) | assumption | omega)) (show τ_74.2.1 22 (τ_74.1 22) = σ.2.1 22 (σ.1 22) from by (first | omega | (simp only [st_s] <;> omega) | assumption | omega)) (show ((τ_74.1 7 + 1)) ≤ 60 * (τ_74.1 22) + (st (τ_74.2.1 19) (τ_74.1 22) (x61 + 1)) (τ_74.1 22) from by (first | omega | (simp only [st_s] <;> omega) | assumption | omega)) (show τ_74.2.1 18 (τ_74.1 22) + (st (τ_74.2.1 19) (τ_74.1 22) (x61 + 1)) (τ_74.1 22) = ((τ_74.1 7 + 1)) from by (first | omega | (simp only [st_s] <;> omega) | assumption | omega))
          ·
            refine ⟨_, K_X13_failHere hT (show 0 ≤ 5 from by (first | omega | (simp only [st_s] <;> omega) | assumption | omega)) (show 5 ≤ 19 from by (first | omega | (simp only [st_s] <;> omega) | assumption | omega)), ?_⟩
            intro τ66 hn_τ66 hf_τ66 hq
            obtain ⟨hT, q64_1, q64_2⟩ := hq
            replace q64_1 : ¬ (τ_74.1 20) = 0 → (τ66.1 20) = (τ_74.1 20) := q64_1
            replace q64_2 : (τ_74.1 20) = 0 → (τ66.1 20) = 5 := q64_2
            replace ag : m_ag σ τ66 := ag_r ag hf_τ66 rfl rfl
            have w3_τ66 : τ66.1 3 = τ_74.1 3 := hf_τ66.1 3 (by decide)
            have w5_τ66 : τ66.1 5 = τ_74.1 5 := hf_τ66.1 5 (by decide)
            have w6_τ66 : τ66.1 6 = τ_74.1 6 := hf_τ66.1 6 (by decide)
            have w7_τ66 : τ66.1 7 = τ_74.1 7 := hf_τ66.1 7 (by decide)
            have w8_τ66 : τ66.1 8 = τ_74.1 8 := hf_τ66.1 8 (by decide)
            have w9_τ66 : τ66.1 9 = τ_74.1 9 := hf_τ66.1 9 (by decide)
            have w13_τ66 : τ66.1 13 = τ_74.1 13 := hf_τ66.1 13 (by decide)
            have w14_τ66 : τ66.1 14 = τ_74.1 14 := hf_τ66.1 14 (by decide)
            have w22_τ66 : τ66.1 22 = τ_74.1 22 := hf_τ66.1 22 (by decide)
            have g18_τ66 : τ66.2.1 18 = τ_74.2.1 18 := hf_τ66.2.1 18 (by decide)
            have g19_τ66 : τ66.2.1 19 = τ_74.2.1 19 := hf_τ66.2.1 19 (by decide)
            have g21_τ66 : τ66.2.1 21 = τ_74.2.1 21 := hf_τ66.2.1 21 (by decide)
            have g22_τ66 : τ66.2.1 22 = τ_74.2.1 22 := hf_τ66.2.1 22 (by decide)
            have W3 : τ66.1 3 = σ.1 3 := by omega
            have W5 : τ66.1 5 = σ.1 5 := by omega
            have W6 : τ66.1 6 = σ.1 6 := by omega
            have W9 : τ66.1 9 = σ.1 9 := by omega
            have W13 : τ66.1 13 = σ.1 13 := by omega
            have W14 : τ66.1 14 = σ.1 14 := by omega
            have W22 : τ66.1 22 = σ.1 22 := by omega
            have G18 : τ66.2.1 18 = σ.2.1 18 := (g18_τ66).trans G18
            have G21 : τ66.2.1 21 = σ.2.1 21 := (g21_τ66).trans G21
            have y18_22_τ66 : τ66.2.1 18 (τ66.1 22) = (τ_74.2.1 18) (τ_74.1 22) := by rw [g18_τ66, w22_τ66]
            have y19_22_τ66 : τ66.2.1 19 (τ66.1 22) = (τ_74.2.1 19) (τ_74.1 22) := by rw [g19_τ66, w22_τ66]
            have y21_22_τ66 : τ66.2.1 21 (τ66.1 22) = (τ_74.2.1 21) (τ_74.1 22) := by rw [g21_τ66, w22_τ66]
            have y22_22_τ66 : τ66.2.1 22 (τ66.1 22) = (τ_74.2.1 22) (τ_74.1 22) := by rw [g22_τ66, w22_τ66]
            have Z2 : τ66.2.1 18 (τ66.1 22) + τ66.2.1 19 (τ66.1 22) = (τ66.1 7) := by rw [show (τ66.2.1 18 (τ66.1 22) + τ66.2.1 19 (τ66.1 22) = (τ66.1 7)) = (τ_74.2.1 18 (τ_74.1 22) + τ_74.2.1 19 (τ_74.1 22) = (τ_74.1 7)) from by rw [w7_τ66, w22_τ66, g18_τ66, g19_τ66]]; exact Z2
            have A18 : ∀ j, 0 ≤ τ66.2.1 18 j ∧ τ66.2.1 18 j ≤ 90000 := fun j => hT.2 18 j
            have A19 : ∀ j, 0 ≤ τ66.2.1 19 j ∧ τ66.2.1 19 j ≤ 60 := fun j => hT.2 19 j
            have A21 : ∀ j, 0 ≤ τ66.2.1 21 j ∧ τ66.2.1 21 j ≤ 20000 := fun j => hT.2 21 j
            have A22 : ∀ j, 0 ≤ τ66.2.1 22 j ∧ τ66.2.1 22 j ≤ 20000 := fun j => hT.2 22 j
            have v3 : 0 ≤ τ66.1 3 ∧ τ66.1 3 ≤ 1000 := hT.1 3
            have v5 : 0 ≤ τ66.1 5 ∧ τ66.1 5 ≤ 1500 := hT.1 5
            have v6 : 0 ≤ τ66.1 6 ∧ τ66.1 6 ≤ 30000 := hT.1 6
            have v7 : 0 ≤ τ66.1 7 ∧ τ66.1 7 ≤ 90000 := hT.1 7
            have v8 : 0 ≤ τ66.1 8 ∧ τ66.1 8 ≤ 20000 := hT.1 8
            have v9 : 0 ≤ τ66.1 9 ∧ τ66.1 9 ≤ 20000 := hT.1 9
            have v13 : 0 ≤ τ66.1 13 ∧ τ66.1 13 ≤ 1500 := hT.1 13
            have v14 : 0 ≤ τ66.1 14 ∧ τ66.1 14 ≤ 1000 := hT.1 14
            have v20 : 0 ≤ τ66.1 20 ∧ τ66.1 20 ≤ 19 := hT.1 20
            have v22 : 0 ≤ τ66.1 22 ∧ τ66.1 22 ≤ 1499 := hT.1 22
            have a18_22 : 0 ≤ τ66.2.1 18 (τ66.1 22) ∧ τ66.2.1 18 (τ66.1 22) ≤ 90000 := hT.2 18 _
            have a19_22 : 0 ≤ τ66.2.1 19 (τ66.1 22) ∧ τ66.2.1 19 (τ66.1 22) ≤ 60 := hT.2 19 _
            have a21_22 : 0 ≤ τ66.2.1 21 (τ66.1 22) ∧ τ66.2.1 21 (τ66.1 22) ≤ 20000 := hT.2 21 _
            have a22_22 : 0 ≤ τ66.2.1 22 (τ66.1 22) ∧ τ66.2.1 22 (τ66.1 22) ≤ 20000 := hT.2 22 _
            have av7 : σ.1 7 ≤ τ66.1 7 := ag.1 7 (by decide)
            have av8 : σ.1 8 ≤ τ66.1 8 := ag.1 8 (by decide)
            exact ⟨hT, (show ¬ (σ.1 20) = 0 → (τ66.1 20) = (σ.1 20) from by (first | omega | (simp only [st_s] <;> omega) | assumption | omega)), (show (τ66.1 7) ≤ 60 * (τ66.1 22) + τ66.2.1 19 (τ66.1 22) from by (first | omega | (simp only [st_s] <;> omega) | assumption | omega)), (show τ66.2.1 18 (τ66.1 22) + τ66.2.1 19 (τ66.1 22) = (τ66.1 7) from Z2), (show τ66.2.1 21 (τ66.1 22) + τ66.2.1 22 (τ66.1 22) = (τ66.1 8) from by (first | omega | (simp only [st_s] <;> omega) | assumption | omega)), ag⟩
        ·
          intro x25 r_x25 e_x25
          have b_x25 : 0 ≤ x25 ∧ x25 ≤ 30000 := by rw [e_x25]; exact hT.2 14 _
          refine ⟨(show 0 ≤ (x25 + 1) ∧ (x25 + 1) < 30400 from by (first | omega | (simp only [st_s] <;> omega) | assumption | omega)), ?_⟩
          intro x27 r_x27 e_x27
          have b_x27 : 0 ≤ x27 ∧ x27 ≤ 999 := by rw [e_x27]; exact hT.2 16 _
          refine ⟨(show 0 ≤ x27 ∧ x27 < 1001 from by (first | omega | (simp only [st_s] <;> omega) | assumption | omega)), ?_⟩
          intro x29 r_x29 e_x29
          have b_x29 : 0 ≤ x29 ∧ x29 ≤ 1 := by rw [e_x29]; exact hT.2 38 _
          refine ⟨fun c30 => ?_, fun c30 => ?_⟩
          ·
            refine ⟨(⟨by (first | omega | (simp only [st_s] <;> omega) | assumption | omega), by (first | omega | (simp only [st_s] <;> omega) | assumption | omega)⟩ : rg (u1_74 + 1)), ?_⟩
            exact ih_74 _ _ (show (1502 - (u1_74 + 1) : Int) < ((m_74 : Nat) : Int) from by ((first | omega | (simp only [st_s] <;> omega) | assumption | omega))) hT ag (show τ_74.1 3 = σ.1 3 from by omega) (show τ_74.1 5 = σ.1 5 from by omega) (show τ_74.1 6 = σ.1 6 from by omega) (show τ_74.1 9 = σ.1 9 from by omega) (show τ_74.1 13 = σ.1 13 from by omega) (show τ_74.1 14 = σ.1 14 from by omega) (show τ_74.1 22 = σ.1 22 from by omega) G18 G21 (show 0 ≤ (u1_74 + 1) from by (first | omega | (simp only [st_s] <;> omega) | assumption | omega)) (show (u1_74 + 1) ≤ 1501 from by (first | omega | (simp only [st_s] <;> omega) | assumption | omega)) (show (τ_74.1 20) = (σ.1 20) from by (first | omega | (simp only [st_s] <;> omega) | assumption | omega)) (show (τ_74.1 8) = (σ.1 8) from by (first | omega | (simp only [st_s] <;> omega) | assumption | omega)) (show τ_74.2.1 22 (τ_74.1 22) = σ.2.1 22 (σ.1 22) from by (first | omega | (simp only [st_s] <;> omega) | assumption | omega)) (show (τ_74.1 7) ≤ 60 * (τ_74.1 22) + τ_74.2.1 19 (τ_74.1 22) from by (first | omega | (simp only [st_s] <;> omega) | assumption | omega)) (show τ_74.2.1 18 (τ_74.1 22) + τ_74.2.1 19 (τ_74.1 22) = (τ_74.1 7) from Z2)
          ·
            refine h120 _ _ _ ?_
            refine ⟨(show 0 ≤ τ_74.1 22 ∧ τ_74.1 22 < 1501 from by (first | omega | (simp only [st_s] <;> omega) | assumption | omega)), ?_⟩
            intro x57 r_x57 e_x57
            have b_x57 : 0 ≤ x57 ∧ x57 ≤ 60 := by rw [e_x57]; exact hT.2 19 _
            refine ⟨fun c58 => ?_, fun c58 => ?_⟩
            ·
              refine ⟨(show 0 ≤ τ_74.1 7 ∧ τ_74.1 7 < 90100 from by (first | omega | (simp only [st_s] <;> omega) | assumption | omega)), ?_⟩
              replace ag := ag_w (k := 20) (x := x21) 7 0 ag rfl (show σ.1 7 + 0 ≤ (τ_74.1 7) from by (first | omega | (simp only [st_s] <;> omega) | assumption | omega))
              replace hT := mT_a (k := 20) (j := (τ_74.1 7)) hT (show (0 : Int) ≤ x21 ∧ x21 ≤ 1499 from by (first | omega | (simp only [st_s] <;> omega) | assumption | omega))
              refine ⟨(⟨by (first | omega | (simp only [st_s] <;> omega) | assumption | omega), by (first | omega | (simp only [st_s] <;> omega) | assumption | omega)⟩ : rg (τ_74.1 7 + 1)), ?_⟩
              replace ag := ag_v (i := 7) (x := (τ_74.1 7 + 1)) ag (Or.inr (show σ.1 7 ≤ (τ_74.1 7 + 1) from by (first | omega | (simp only [st_s] <;> omega) | assumption | omega)))
              replace hT := mT_v (i := 7) hT (show 0 ≤ (τ_74.1 7 + 1) ∧ (τ_74.1 7 + 1) ≤ 90000 from by (first | omega | (simp only [st_s] <;> omega) | assumption | omega))
              intro x61 r_x61 e_x61
              have b_x61 : 0 ≤ x61 ∧ x61 ≤ 60 := by rw [e_x61]; exact hT.2 19 _
              refine ⟨(⟨by (first | omega | (simp only [st_s] <;> omega) | assumption | omega), by (first | omega | (simp only [st_s] <;> omega) | assumption | omega)⟩ : rg (x61 + 1)), ?_⟩
              replace ag := ag_w (k := 19) (x := (x61 + 1)) 5 0 ag rfl (show σ.1 5 + 0 ≤ (τ_74.1 22) from by (first | omega | (simp only [st_s] <;> omega) | assumption | omega))
              replace hT := mT_a (k := 19) (j := (τ_74.1 22)) hT (show (0 : Int) ≤ (x61 + 1) ∧ (x61 + 1) ≤ 60 from by (first | omega | (simp only [st_s] <;> omega) | assumption | omega))
              refine ⟨(⟨by (first | omega | (simp only [st_s] <;> omega) | assumption | omega), by (first | omega | (simp only [st_s] <;> omega) | assumption | omega)⟩ : rg (u1_74 + 1)), ?_⟩
              exact ih_74 _ _ (show (1502 - (u1_74 + 1) : Int) < ((m_74 : Nat) : Int) from by ((first | omega | (simp only [st_s] <;> omega) | assumption | omega))) hT ag (show τ_74.1 3 = σ.1 3 from by omega) (show τ_74.1 5 = σ.1 5 from by omega) (show τ_74.1 6 = σ.1 6 from by omega) (show τ_74.1 9 = σ.1 9 from by omega) (show τ_74.1 13 = σ.1 13 from by omega) (show τ_74.1 14 = σ.1 14 from by omega) (show τ_74.1 22 = σ.1 22 from by omega) G18 G21 (show 0 ≤ (u1_74 + 1) from by (first | omega | (simp only [st_s] <;> omega) | assumption | omega)) (show (u1_74 + 1) ≤ 1501 from by (first | omega | (simp only [st_s] <;> omega) | assumption | omega)) (show (τ_74.1 20) = (σ.1 20) from by (first | omega | (simp only [st_s] <;> omega) | assumption | omega)) (show (τ_74.1 8) = (σ.1 8) from by (first | omega | (simp only [st_s] <;> omega) | assumption | omega)) (show τ_74.2.1 22 (τ_74.1 22) = σ.2.1 22 (σ.1 22) from by (first | omega | (simp only [st_s] <;> omega) | assumption | omega)) (show ((τ_74.1 7 + 1)) ≤ 60 * (τ_74.1 22) + (st (τ_74.2.1 19) (τ_74.1 22) (x61 + 1)) (τ_74.1 22) from by (first | omega | (simp only [st_s] <;> omega) | assumption | omega)) (show τ_74.2.1 18 (τ_74.1 22) + (st (τ_74.2.1 19) (τ_74.1 22) (x61 + 1)) (τ_74.1 22) = ((τ_74.1 7 + 1)) from by (first | omega | (simp only [st_s] <;> omega) | assumption | omega))
            ·
              refine ⟨_, K_X13_failHere hT (show 0 ≤ 5 from by (first | omega | (simp only [st_s] <;> omega) | assumption | omega)) (show 5 ≤ 19 from by (first | omega | (simp only [st_s] <;> omega) | assumption | omega)), ?_⟩
              intro τ66 hn_τ66 hf_τ66 hq
              obtain ⟨hT, q64_1, q64_2⟩ := hq
              replace q64_1 : ¬ (τ_74.1 20) = 0 → (τ66.1 20) = (τ_74.1 20) := q64_1
              replace q64_2 : (τ_74.1 20) = 0 → (τ66.1 20) = 5 := q64_2
              replace ag : m_ag σ τ66 := ag_r ag hf_τ66 rfl rfl
              have w3_τ66 : τ66.1 3 = τ_74.1 3 := hf_τ66.1 3 (by decide)
              have w5_τ66 : τ66.1 5 = τ_74.1 5 := hf_τ66.1 5 (by decide)
              have w6_τ66 : τ66.1 6 = τ_74.1 6 := hf_τ66.1 6 (by decide)
              have w7_τ66 : τ66.1 7 = τ_74.1 7 := hf_τ66.1 7 (by decide)
              have w8_τ66 : τ66.1 8 = τ_74.1 8 := hf_τ66.1 8 (by decide)
              have w9_τ66 : τ66.1 9 = τ_74.1 9 := hf_τ66.1 9 (by decide)
              have w13_τ66 : τ66.1 13 = τ_74.1 13 := hf_τ66.1 13 (by decide)
              have w14_τ66 : τ66.1 14 = τ_74.1 14 := hf_τ66.1 14 (by decide)
              have w22_τ66 : τ66.1 22 = τ_74.1 22 := hf_τ66.1 22 (by decide)
              have g18_τ66 : τ66.2.1 18 = τ_74.2.1 18 := hf_τ66.2.1 18 (by decide)
              have g19_τ66 : τ66.2.1 19 = τ_74.2.1 19 := hf_τ66.2.1 19 (by decide)
              have g21_τ66 : τ66.2.1 21 = τ_74.2.1 21 := hf_τ66.2.1 21 (by decide)
              have g22_τ66 : τ66.2.1 22 = τ_74.2.1 22 := hf_τ66.2.1 22 (by decide)
              have W3 : τ66.1 3 = σ.1 3 := by omega
              have W5 : τ66.1 5 = σ.1 5 := by omega
              have W6 : τ66.1 6 = σ.1 6 := by omega
              have W9 : τ66.1 9 = σ.1 9 := by omega
              have W13 : τ66.1 13 = σ.1 13 := by omega
              have W14 : τ66.1 14 = σ.1 14 := by omega
              have W22 : τ66.1 22 = σ.1 22 := by omega
              have G18 : τ66.2.1 18 = σ.2.1 18 := (g18_τ66).trans G18
              have G21 : τ66.2.1 21 = σ.2.1 21 := (g21_τ66).trans G21
              have y18_22_τ66 : τ66.2.1 18 (τ66.1 22) = (τ_74.2.1 18) (τ_74.1 22) := by rw [g18_τ66, w22_τ66]
              have y19_22_τ66 : τ66.2.1 19 (τ66.1 22) = (τ_74.2.1 19) (τ_74.1 22) := by rw [g19_τ66, w22_τ66]
              have y21_22_τ66 : τ66.2.1 21 (τ66.1 22) = (τ_74.2.1 21) (τ_74.1 22) := by rw [g21_τ66, w22_τ66]
              have y22_22_τ66 : τ66.2.1 22 (τ66.1 22) = (τ_74.2.1 22) (τ_74.1 22) := by rw [g22_τ66, w22_τ66]
              have Z2 : τ66.2.1 18 (τ66.1 22) + τ66.2.1 19 (τ66.1 22) = (τ66.1 7) := by rw [show (τ66.2.1 18 (τ66.1 22) + τ66.2.1 19 (τ66.1 22) = (τ66.1 7)) = (τ_74.2.1 18 (τ_74.1 22) + τ_74.2.1 19 (τ_74.1 22) = (τ_74.1 7)) from by rw [w7_τ66, w22_τ66, g18_τ66, g19_τ66]]; exact Z2
              have A18 : ∀ j, 0 ≤ τ66.2.1 18 j ∧ τ66.2.1 18 j ≤ 90000 := fun j => hT.2 18 j
              have A19 : ∀ j, 0 ≤ τ66.2.1 19 j ∧ τ66.2.1 19 j ≤ 60 := fun j => hT.2 19 j
              have A21 : ∀ j, 0 ≤ τ66.2.1 21 j ∧ τ66.2.1 21 j ≤ 20000 := fun j => hT.2 21 j
              have A22 : ∀ j, 0 ≤ τ66.2.1 22 j ∧ τ66.2.1 22 j ≤ 20000 := fun j => hT.2 22 j
              have v3 : 0 ≤ τ66.1 3 ∧ τ66.1 3 ≤ 1000 := hT.1 3
              have v5 : 0 ≤ τ66.1 5 ∧ τ66.1 5 ≤ 1500 := hT.1 5
              have v6 : 0 ≤ τ66.1 6 ∧ τ66.1 6 ≤ 30000 := hT.1 6
              have v7 : 0 ≤ τ66.1 7 ∧ τ66.1 7 ≤ 90000 := hT.1 7
              have v8 : 0 ≤ τ66.1 8 ∧ τ66.1 8 ≤ 20000 := hT.1 8
              have v9 : 0 ≤ τ66.1 9 ∧ τ66.1 9 ≤ 20000 := hT.1 9
              have v13 : 0 ≤ τ66.1 13 ∧ τ66.1 13 ≤ 1500 := hT.1 13
              have v14 : 0 ≤ τ66.1 14 ∧ τ66.1 14 ≤ 1000 := hT.1 14
              have v20 : 0 ≤ τ66.1 20 ∧ τ66.1 20 ≤ 19 := hT.1 20
              have v22 : 0 ≤ τ66.1 22 ∧ τ66.1 22 ≤ 1499 := hT.1 22
              have a18_22 : 0 ≤ τ66.2.1 18 (τ66.1 22) ∧ τ66.2.1 18 (τ66.1 22) ≤ 90000 := hT.2 18 _
              have a19_22 : 0 ≤ τ66.2.1 19 (τ66.1 22) ∧ τ66.2.1 19 (τ66.1 22) ≤ 60 := hT.2 19 _
              have a21_22 : 0 ≤ τ66.2.1 21 (τ66.1 22) ∧ τ66.2.1 21 (τ66.1 22) ≤ 20000 := hT.2 21 _
              have a22_22 : 0 ≤ τ66.2.1 22 (τ66.1 22) ∧ τ66.2.1 22 (τ66.1 22) ≤ 20000 := hT.2 22 _
              have av7 : σ.1 7 ≤ τ66.1 7 := ag.1 7 (by decide)
              have av8 : σ.1 8 ≤ τ66.1 8 := ag.1 8 (by decide)
              exact ⟨hT, (show ¬ (σ.1 20) = 0 → (τ66.1 20) = (σ.1 20) from by (first | omega | (simp only [st_s] <;> omega) | assumption | omega)), (show (τ66.1 7) ≤ 60 * (τ66.1 22) + τ66.2.1 19 (τ66.1 22) from by (first | omega | (simp only [st_s] <;> omega) | assumption | omega)), (show τ66.2.1 18 (τ66.1 22) + τ66.2.1 19 (τ66.1 22) = (τ66.1 7) from Z2), (show τ66.2.1 21 (τ66.1 22) + τ66.2.1 22 (τ66.1 22) = (τ66.1 8) from by (first | omega | (simp only [st_s] <;> omega) | assumption | omega)), ag⟩
  have l_33 : ∀ (m_33 : Nat) (u1_33 : Int) (τ_33 : S0), 1502 - u1_33 < (m_33 : Int) → (m_T τ_33) → (m_ag σ τ_33) → (τ_33.1 3 = σ.1 3) → (τ_33.1 5 = σ.1 5) → (τ_33.1 6 = σ.1 6) → (τ_33.1 9 = σ.1 9) → (τ_33.1 13 = σ.1 13) → (τ_33.1 14 = σ.1 14) → (τ_33.1 22 = σ.1 22) → (τ_33.2.1 18 = σ.2.1 18) → (τ_33.2.1 21 = σ.2.1 21) → (0 ≤ u1_33) → (u1_33 ≤ 1501) → ((τ_33.1 20) = (σ.1 20)) → ((τ_33.1 7) = (σ.1 7)) → ((τ_33.1 8) = (σ.1 8)) → (τ_33.2.1 19 (τ_33.1 22) = σ.2.1 19 (σ.1 22)) → (τ_33.2.1 22 (τ_33.1 22) = σ.2.1 22 (σ.1 22)) → P33 u1_33 τ_33 := by
    intro m_33
    induction m_33 with
    | zero =>
      intro u1_33 τ_33 hm hT ag W3 W5 W6 W9 W13 W14 W22 G18 G21 i33_1 i33_2 i33_3 i33_4 i33_5 i33_6 i33_7
      have A18 : ∀ j, 0 ≤ τ_33.2.1 18 j ∧ τ_33.2.1 18 j ≤ 90000 := fun j => hT.2 18 j
      have A19 : ∀ j, 0 ≤ τ_33.2.1 19 j ∧ τ_33.2.1 19 j ≤ 60 := fun j => hT.2 19 j
      have A21 : ∀ j, 0 ≤ τ_33.2.1 21 j ∧ τ_33.2.1 21 j ≤ 20000 := fun j => hT.2 21 j
      have A22 : ∀ j, 0 ≤ τ_33.2.1 22 j ∧ τ_33.2.1 22 j ≤ 20000 := fun j => hT.2 22 j
      have v3 : 0 ≤ τ_33.1 3 ∧ τ_33.1 3 ≤ 1000 := hT.1 3
      have v5 : 0 ≤ τ_33.1 5 ∧ τ_33.1 5 ≤ 1500 := hT.1 5
      have v6 : 0 ≤ τ_33.1 6 ∧ τ_33.1 6 ≤ 30000 := hT.1 6
      have v7 : 0 ≤ τ_33.1 7 ∧ τ_33.1 7 ≤ 90000 := hT.1 7
      have v8 : 0 ≤ τ_33.1 8 ∧ τ_33.1 8 ≤ 20000 := hT.1 8
      have v9 : 0 ≤ τ_33.1 9 ∧ τ_33.1 9 ≤ 20000 := hT.1 9
      have v13 : 0 ≤ τ_33.1 13 ∧ τ_33.1 13 ≤ 1500 := hT.1 13
      have v14 : 0 ≤ τ_33.1 14 ∧ τ_33.1 14 ≤ 1000 := hT.1 14
      have v20 : 0 ≤ τ_33.1 20 ∧ τ_33.1 20 ≤ 19 := hT.1 20
      have v22 : 0 ≤ τ_33.1 22 ∧ τ_33.1 22 ≤ 1499 := hT.1 22
      have a18_22 : 0 ≤ τ_33.2.1 18 (τ_33.1 22) ∧ τ_33.2.1 18 (τ_33.1 22) ≤ 90000 := hT.2 18 _
      have a19_22 : 0 ≤ τ_33.2.1 19 (τ_33.1 22) ∧ τ_33.2.1 19 (τ_33.1 22) ≤ 60 := hT.2 19 _
      have a21_22 : 0 ≤ τ_33.2.1 21 (τ_33.1 22) ∧ τ_33.2.1 21 (τ_33.1 22) ≤ 20000 := hT.2 21 _
      have a22_22 : 0 ≤ τ_33.2.1 22 (τ_33.1 22) ∧ τ_33.2.1 22 (τ_33.1 22) ≤ 20000 := hT.2 22 _
      have av7 : σ.1 7 ≤ τ_33.1 7 := ag.1 7 (by decide)
      have av8 : σ.1 8 ≤ τ_33.1 8 := ag.1 8 (by decide)
      exfalso; (first | omega | (simp only [st_s] <;> omega) | assumption | omega)
    | succ m_33 ih_33 =>
      intro u1_33 τ_33 hm_33 hT ag W3 W5 W6 W9 W13 W14 W22 G18 G21 i33_1 i33_2 i33_3 i33_4 i33_5 i33_6 i33_7
      have A18 : ∀ j, 0 ≤ τ_33.2.1 18 j ∧ τ_33.2.1 18 j ≤ 90000 := fun j => hT.2 18 j
      have A19 : ∀ j, 0 ≤ τ_33.2.1 19 j ∧ τ_33.2.1 19 j ≤ 60 := fun j => hT.2 19 j
      have A21 : ∀ j, 0 ≤ τ_33.2.1 21 j ∧ τ_33.2.1 21 j ≤ 20000 := fun j => hT.2 21 j
      have A22 : ∀ j, 0 ≤ τ_33.2.1 22 j ∧ τ_33.2.1 22 j ≤ 20000 := fun j => hT.2 22 j
      have v3 : 0 ≤ τ_33.1 3 ∧ τ_33.1 3 ≤ 1000 := hT.1 3
      have v5 : 0 ≤ τ_33.1 5 ∧ τ_33.1 5 ≤ 1500 := hT.1 5
      have v6 : 0 ≤ τ_33.1 6 ∧ τ_33.1 6 ≤ 30000 := hT.1 6
      have v7 : 0 ≤ τ_33.1 7 ∧ τ_33.1 7 ≤ 90000 := hT.1 7
      have v8 : 0 ≤ τ_33.1 8 ∧ τ_33.1 8 ≤ 20000 := hT.1 8
      have v9 : 0 ≤ τ_33.1 9 ∧ τ_33.1 9 ≤ 20000 := hT.1 9
      have v13 : 0 ≤ τ_33.1 13 ∧ τ_33.1 13 ≤ 1500 := hT.1 13
      have v14 : 0 ≤ τ_33.1 14 ∧ τ_33.1 14 ≤ 1000 := hT.1 14
      have v20 : 0 ≤ τ_33.1 20 ∧ τ_33.1 20 ≤ 19 := hT.1 20
      have v22 : 0 ≤ τ_33.1 22 ∧ τ_33.1 22 ≤ 1499 := hT.1 22
      have a18_22 : 0 ≤ τ_33.2.1 18 (τ_33.1 22) ∧ τ_33.2.1 18 (τ_33.1 22) ≤ 90000 := hT.2 18 _
      have a19_22 : 0 ≤ τ_33.2.1 19 (τ_33.1 22) ∧ τ_33.2.1 19 (τ_33.1 22) ≤ 60 := hT.2 19 _
      have a21_22 : 0 ≤ τ_33.2.1 21 (τ_33.1 22) ∧ τ_33.2.1 21 (τ_33.1 22) ≤ 20000 := hT.2 21 _
      have a22_22 : 0 ≤ τ_33.2.1 22 (τ_33.1 22) ∧ τ_33.2.1 22 (τ_33.1 22) ≤ 20000 := hT.2 22 _
      have av7 : σ.1 7 ≤ τ_33.1 7 := ag.1 7 (by decide)
      have av8 : σ.1 8 ≤ τ_33.1 8 := ag.1 8 (by decide)
      have y18_22_τ_33 : τ_33.2.1 18 (τ_33.1 22) = σ.2.1 18 (σ.1 22) := by rw [G18, W22]
      have y21_22_τ_33 : τ_33.2.1 21 (τ_33.1 22) = σ.2.1 21 (σ.1 22) := by rw [G21, W22]
      refine h33 u1_33 τ_33 ?_
      refine ⟨fun c7 => ?_, fun c7 => ?_⟩
      ·
        exact l_74 ((1502 - 0 : Int).toNat + 1) _ _ (show (1502 - 0 : Int) < (((1502 - 0 : Int).toNat + 1 : Nat) : Int) from by ((first | omega | (simp only [st_s] <;> omega) | assumption | omega))) hT ag (show τ_33.1 3 = σ.1 3 from by omega) (show τ_33.1 5 = σ.1 5 from by omega) (show τ_33.1 6 = σ.1 6 from by omega) (show τ_33.1 9 = σ.1 9 from by omega) (show τ_33.1 13 = σ.1 13 from by omega) (show τ_33.1 14 = σ.1 14 from by omega) (show τ_33.1 22 = σ.1 22 from by omega) G18 G21 (show 0 ≤ 0 from by (first | omega | (simp only [st_s] <;> omega) | assumption | omega)) (show 0 ≤ 1501 from by (first | omega | (simp only [st_s] <;> omega) | assumption | omega)) (show (τ_33.1 20) = (σ.1 20) from by (first | omega | (simp only [st_s] <;> omega) | assumption | omega)) (show (τ_33.1 8) = (σ.1 8) from by (first | omega | (simp only [st_s] <;> omega) | assumption | omega)) (show τ_33.2.1 22 (τ_33.1 22) = σ.2.1 22 (σ.1 22) from by (first | omega | (simp only [st_s] <;> omega) | assumption | omega)) (show (τ_33.1 7) ≤ 60 * (τ_33.1 22) + τ_33.2.1 19 (τ_33.1 22) from by (first | omega | (simp only [st_s] <;> omega) | assumption | omega)) (show τ_33.2.1 18 (τ_33.1 22) + τ_33.2.1 19 (τ_33.1 22) = (τ_33.1 7) from by (first | omega | (simp only [st_s] <;> omega) | assumption | omega))
      ·
        refine ⟨(show 0 ≤ u1_33 ∧ u1_33 < 1501 from by (first | omega | (simp only [st_s] <;> omega) | assumption | omega)), ?_⟩
        intro x9 r_x9 e_x9
        have b_x9 : 0 ≤ x9 ∧ x9 ≤ 1499 := by rw [e_x9]; exact hT.2 31 _
        refine ⟨(show 0 ≤ x9 ∧ x9 < 1501 from by (first | omega | (simp only [st_s] <;> omega) | assumption | omega)), ?_⟩
        intro x11 r_x11 e_x11
        have b_x11 : 0 ≤ x11 ∧ x11 ≤ 4 := by rw [e_x11]; exact hT.2 13 _
        refine ⟨fun c12 => ?_, fun c12 => ?_⟩
        ·
          refine ⟨(⟨by (first | omega | (simp only [st_s] <;> omega) | assumption | omega), by (first | omega | (simp only [st_s] <;> omega) | assumption | omega)⟩ : rg (u1_33 + 1)), ?_⟩
          exact ih_33 _ _ (show (1502 - (u1_33 + 1) : Int) < ((m_33 : Nat) : Int) from by ((first | omega | (simp only [st_s] <;> omega) | assumption | omega))) hT ag (show τ_33.1 3 = σ.1 3 from by omega) (show τ_33.1 5 = σ.1 5 from by omega) (show τ_33.1 6 = σ.1 6 from by omega) (show τ_33.1 9 = σ.1 9 from by omega) (show τ_33.1 13 = σ.1 13 from by omega) (show τ_33.1 14 = σ.1 14 from by omega) (show τ_33.1 22 = σ.1 22 from by omega) G18 G21 (show 0 ≤ (u1_33 + 1) from by (first | omega | (simp only [st_s] <;> omega) | assumption | omega)) (show (u1_33 + 1) ≤ 1501 from by (first | omega | (simp only [st_s] <;> omega) | assumption | omega)) (show (τ_33.1 20) = (σ.1 20) from by (first | omega | (simp only [st_s] <;> omega) | assumption | omega)) (show (τ_33.1 7) = (σ.1 7) from by (first | omega | (simp only [st_s] <;> omega) | assumption | omega)) (show (τ_33.1 8) = (σ.1 8) from by (first | omega | (simp only [st_s] <;> omega) | assumption | omega)) (show τ_33.2.1 19 (τ_33.1 22) = σ.2.1 19 (σ.1 22) from by (first | omega | (simp only [st_s] <;> omega) | assumption | omega)) (show τ_33.2.1 22 (τ_33.1 22) = σ.2.1 22 (σ.1 22) from by (first | omega | (simp only [st_s] <;> omega) | assumption | omega))
        ·
          intro x14 r_x14 e_x14
          have b_x14 : 0 ≤ x14 ∧ x14 ≤ 1499 := by rw [e_x14]; exact hT.2 31 _
          refine ⟨_, K_X13_markOf hT (show 0 ≤ x14 from by (first | omega | (simp only [st_s] <;> omega) | assumption | omega)) (show x14 < 1500 from by (first | omega | (simp only [st_s] <;> omega) | assumption | omega)), ?_⟩
          intro τ17 hn_τ17 hf_τ17 hq
          replace hT := hq
          replace ag : m_ag σ τ17 := ag_r ag hf_τ17 rfl rfl
          have w3_τ17 : τ17.1 3 = τ_33.1 3 := hf_τ17.1 3 (by decide)
          have w5_τ17 : τ17.1 5 = τ_33.1 5 := hf_τ17.1 5 (by decide)
          have w6_τ17 : τ17.1 6 = τ_33.1 6 := hf_τ17.1 6 (by decide)
          have w7_τ17 : τ17.1 7 = τ_33.1 7 := hf_τ17.1 7 (by decide)
          have w8_τ17 : τ17.1 8 = τ_33.1 8 := hf_τ17.1 8 (by decide)
          have w9_τ17 : τ17.1 9 = τ_33.1 9 := hf_τ17.1 9 (by decide)
          have w13_τ17 : τ17.1 13 = τ_33.1 13 := hf_τ17.1 13 (by decide)
          have w14_τ17 : τ17.1 14 = τ_33.1 14 := hf_τ17.1 14 (by decide)
          have w20_τ17 : τ17.1 20 = τ_33.1 20 := hf_τ17.1 20 (by decide)
          have w22_τ17 : τ17.1 22 = τ_33.1 22 := hf_τ17.1 22 (by decide)
          have g18_τ17 : τ17.2.1 18 = τ_33.2.1 18 := hf_τ17.2.1 18 (by decide)
          have g19_τ17 : τ17.2.1 19 = τ_33.2.1 19 := hf_τ17.2.1 19 (by decide)
          have g21_τ17 : τ17.2.1 21 = τ_33.2.1 21 := hf_τ17.2.1 21 (by decide)
          have g22_τ17 : τ17.2.1 22 = τ_33.2.1 22 := hf_τ17.2.1 22 (by decide)
          have W3 : τ17.1 3 = σ.1 3 := by omega
          have W5 : τ17.1 5 = σ.1 5 := by omega
          have W6 : τ17.1 6 = σ.1 6 := by omega
          have W9 : τ17.1 9 = σ.1 9 := by omega
          have W13 : τ17.1 13 = σ.1 13 := by omega
          have W14 : τ17.1 14 = σ.1 14 := by omega
          have W22 : τ17.1 22 = σ.1 22 := by omega
          have G18 : τ17.2.1 18 = σ.2.1 18 := (g18_τ17).trans G18
          have G21 : τ17.2.1 21 = σ.2.1 21 := (g21_τ17).trans G21
          have y18_22_τ17 : τ17.2.1 18 (τ17.1 22) = (τ_33.2.1 18) (τ_33.1 22) := by rw [g18_τ17, w22_τ17]
          have y19_22_τ17 : τ17.2.1 19 (τ17.1 22) = (τ_33.2.1 19) (τ_33.1 22) := by rw [g19_τ17, w22_τ17]
          have y21_22_τ17 : τ17.2.1 21 (τ17.1 22) = (τ_33.2.1 21) (τ_33.1 22) := by rw [g21_τ17, w22_τ17]
          have y22_22_τ17 : τ17.2.1 22 (τ17.1 22) = (τ_33.2.1 22) (τ_33.1 22) := by rw [g22_τ17, w22_τ17]
          have A18 : ∀ j, 0 ≤ τ17.2.1 18 j ∧ τ17.2.1 18 j ≤ 90000 := fun j => hT.2 18 j
          have A19 : ∀ j, 0 ≤ τ17.2.1 19 j ∧ τ17.2.1 19 j ≤ 60 := fun j => hT.2 19 j
          have A21 : ∀ j, 0 ≤ τ17.2.1 21 j ∧ τ17.2.1 21 j ≤ 20000 := fun j => hT.2 21 j
          have A22 : ∀ j, 0 ≤ τ17.2.1 22 j ∧ τ17.2.1 22 j ≤ 20000 := fun j => hT.2 22 j
          have v3 : 0 ≤ τ17.1 3 ∧ τ17.1 3 ≤ 1000 := hT.1 3
          have v5 : 0 ≤ τ17.1 5 ∧ τ17.1 5 ≤ 1500 := hT.1 5
          have v6 : 0 ≤ τ17.1 6 ∧ τ17.1 6 ≤ 30000 := hT.1 6
          have v7 : 0 ≤ τ17.1 7 ∧ τ17.1 7 ≤ 90000 := hT.1 7
          have v8 : 0 ≤ τ17.1 8 ∧ τ17.1 8 ≤ 20000 := hT.1 8
          have v9 : 0 ≤ τ17.1 9 ∧ τ17.1 9 ≤ 20000 := hT.1 9
          have v13 : 0 ≤ τ17.1 13 ∧ τ17.1 13 ≤ 1500 := hT.1 13
          have v14 : 0 ≤ τ17.1 14 ∧ τ17.1 14 ≤ 1000 := hT.1 14
          have v20 : 0 ≤ τ17.1 20 ∧ τ17.1 20 ≤ 19 := hT.1 20
          have v22 : 0 ≤ τ17.1 22 ∧ τ17.1 22 ≤ 1499 := hT.1 22
          have a18_22 : 0 ≤ τ17.2.1 18 (τ17.1 22) ∧ τ17.2.1 18 (τ17.1 22) ≤ 90000 := hT.2 18 _
          have a19_22 : 0 ≤ τ17.2.1 19 (τ17.1 22) ∧ τ17.2.1 19 (τ17.1 22) ≤ 60 := hT.2 19 _
          have a21_22 : 0 ≤ τ17.2.1 21 (τ17.1 22) ∧ τ17.2.1 21 (τ17.1 22) ≤ 20000 := hT.2 21 _
          have a22_22 : 0 ≤ τ17.2.1 22 (τ17.1 22) ∧ τ17.2.1 22 (τ17.1 22) ≤ 20000 := hT.2 22 _
          have av7 : σ.1 7 ≤ τ17.1 7 := ag.1 7 (by decide)
          have av8 : σ.1 8 ≤ τ17.1 8 := ag.1 8 (by decide)
          refine ⟨(⟨by (first | omega | (simp only [st_s] <;> omega) | assumption | omega), by (first | omega | (simp only [st_s] <;> omega) | assumption | omega)⟩ : rg (u1_33 + 1)), ?_⟩
          exact ih_33 _ _ (show (1502 - (u1_33 + 1) : Int) < ((m_33 : Nat) : Int) from by ((first | omega | (simp only [st_s] <;> omega) | assumption | omega))) hT ag (show τ17.1 3 = σ.1 3 from by omega) (show τ17.1 5 = σ.1 5 from by omega) (show τ17.1 6 = σ.1 6 from by omega) (show τ17.1 9 = σ.1 9 from by omega) (show τ17.1 13 = σ.1 13 from by omega) (show τ17.1 14 = σ.1 14 from by omega) (show τ17.1 22 = σ.1 22 from by omega) G18 G21 (show 0 ≤ (u1_33 + 1) from by (first | omega | (simp only [st_s] <;> omega) | assumption | omega)) (show (u1_33 + 1) ≤ 1501 from by (first | omega | (simp only [st_s] <;> omega) | assumption | omega)) (show (τ17.1 20) = (σ.1 20) from by (first | omega | (simp only [st_s] <;> omega) | assumption | omega)) (show (τ17.1 7) = (σ.1 7) from by (first | omega | (simp only [st_s] <;> omega) | assumption | omega)) (show (τ17.1 8) = (σ.1 8) from by (first | omega | (simp only [st_s] <;> omega) | assumption | omega)) (show τ17.2.1 19 (τ17.1 22) = σ.2.1 19 (σ.1 22) from by (first | omega | (simp only [st_s] <;> omega) | assumption | omega)) (show τ17.2.1 22 (τ17.1 22) = σ.2.1 22 (σ.1 22) from by (first | omega | (simp only [st_s] <;> omega) | assumption | omega))
  have l_2 : ∀ (m_2 : Nat) (u1_2 : Int) (τ_2 : S0), 1502 - u1_2 < (m_2 : Int) → (m_T τ_2) → (m_ag σ τ_2) → (τ_2.1 3 = σ.1 3) → (τ_2.1 5 = σ.1 5) → (τ_2.1 6 = σ.1 6) → (τ_2.1 9 = σ.1 9) → (τ_2.1 13 = σ.1 13) → (τ_2.1 14 = σ.1 14) → (τ_2.1 22 = σ.1 22) → (τ_2.2.1 18 = σ.2.1 18) → (τ_2.2.1 21 = σ.2.1 21) → (0 ≤ u1_2) → (u1_2 ≤ 1501) → ((τ_2.1 20) = (σ.1 20)) → ((τ_2.1 7) = (σ.1 7)) → ((τ_2.1 8) = (σ.1 8)) → (τ_2.2.1 19 (τ_2.1 22) = σ.2.1 19 (σ.1 22)) → (τ_2.2.1 22 (τ_2.1 22) = σ.2.1 22 (σ.1 22)) → P2 u1_2 τ_2 := by
    intro m_2
    induction m_2 with
    | zero =>
      intro u1_2 τ_2 hm hT ag W3 W5 W6 W9 W13 W14 W22 G18 G21 i2_1 i2_2 i2_3 i2_4 i2_5 i2_6 i2_7
      have A18 : ∀ j, 0 ≤ τ_2.2.1 18 j ∧ τ_2.2.1 18 j ≤ 90000 := fun j => hT.2 18 j
      have A19 : ∀ j, 0 ≤ τ_2.2.1 19 j ∧ τ_2.2.1 19 j ≤ 60 := fun j => hT.2 19 j
      have A21 : ∀ j, 0 ≤ τ_2.2.1 21 j ∧ τ_2.2.1 21 j ≤ 20000 := fun j => hT.2 21 j
      have A22 : ∀ j, 0 ≤ τ_2.2.1 22 j ∧ τ_2.2.1 22 j ≤ 20000 := fun j => hT.2 22 j
      have v3 : 0 ≤ τ_2.1 3 ∧ τ_2.1 3 ≤ 1000 := hT.1 3
      have v5 : 0 ≤ τ_2.1 5 ∧ τ_2.1 5 ≤ 1500 := hT.1 5
      have v6 : 0 ≤ τ_2.1 6 ∧ τ_2.1 6 ≤ 30000 := hT.1 6
      have v7 : 0 ≤ τ_2.1 7 ∧ τ_2.1 7 ≤ 90000 := hT.1 7
      have v8 : 0 ≤ τ_2.1 8 ∧ τ_2.1 8 ≤ 20000 := hT.1 8
      have v9 : 0 ≤ τ_2.1 9 ∧ τ_2.1 9 ≤ 20000 := hT.1 9
      have v13 : 0 ≤ τ_2.1 13 ∧ τ_2.1 13 ≤ 1500 := hT.1 13
      have v14 : 0 ≤ τ_2.1 14 ∧ τ_2.1 14 ≤ 1000 := hT.1 14
      have v20 : 0 ≤ τ_2.1 20 ∧ τ_2.1 20 ≤ 19 := hT.1 20
      have v22 : 0 ≤ τ_2.1 22 ∧ τ_2.1 22 ≤ 1499 := hT.1 22
      have a18_22 : 0 ≤ τ_2.2.1 18 (τ_2.1 22) ∧ τ_2.2.1 18 (τ_2.1 22) ≤ 90000 := hT.2 18 _
      have a19_22 : 0 ≤ τ_2.2.1 19 (τ_2.1 22) ∧ τ_2.2.1 19 (τ_2.1 22) ≤ 60 := hT.2 19 _
      have a21_22 : 0 ≤ τ_2.2.1 21 (τ_2.1 22) ∧ τ_2.2.1 21 (τ_2.1 22) ≤ 20000 := hT.2 21 _
      have a22_22 : 0 ≤ τ_2.2.1 22 (τ_2.1 22) ∧ τ_2.2.1 22 (τ_2.1 22) ≤ 20000 := hT.2 22 _
      have av7 : σ.1 7 ≤ τ_2.1 7 := ag.1 7 (by decide)
      have av8 : σ.1 8 ≤ τ_2.1 8 := ag.1 8 (by decide)
      exfalso; (first | omega | (simp only [st_s] <;> omega) | assumption | omega)
    | succ m_2 ih_2 =>
      intro u1_2 τ_2 hm_2 hT ag W3 W5 W6 W9 W13 W14 W22 G18 G21 i2_1 i2_2 i2_3 i2_4 i2_5 i2_6 i2_7
      have A18 : ∀ j, 0 ≤ τ_2.2.1 18 j ∧ τ_2.2.1 18 j ≤ 90000 := fun j => hT.2 18 j
      have A19 : ∀ j, 0 ≤ τ_2.2.1 19 j ∧ τ_2.2.1 19 j ≤ 60 := fun j => hT.2 19 j
      have A21 : ∀ j, 0 ≤ τ_2.2.1 21 j ∧ τ_2.2.1 21 j ≤ 20000 := fun j => hT.2 21 j
      have A22 : ∀ j, 0 ≤ τ_2.2.1 22 j ∧ τ_2.2.1 22 j ≤ 20000 := fun j => hT.2 22 j
      have v3 : 0 ≤ τ_2.1 3 ∧ τ_2.1 3 ≤ 1000 := hT.1 3
      have v5 : 0 ≤ τ_2.1 5 ∧ τ_2.1 5 ≤ 1500 := hT.1 5
      have v6 : 0 ≤ τ_2.1 6 ∧ τ_2.1 6 ≤ 30000 := hT.1 6
      have v7 : 0 ≤ τ_2.1 7 ∧ τ_2.1 7 ≤ 90000 := hT.1 7
      have v8 : 0 ≤ τ_2.1 8 ∧ τ_2.1 8 ≤ 20000 := hT.1 8
      have v9 : 0 ≤ τ_2.1 9 ∧ τ_2.1 9 ≤ 20000 := hT.1 9
      have v13 : 0 ≤ τ_2.1 13 ∧ τ_2.1 13 ≤ 1500 := hT.1 13
      have v14 : 0 ≤ τ_2.1 14 ∧ τ_2.1 14 ≤ 1000 := hT.1 14
      have v20 : 0 ≤ τ_2.1 20 ∧ τ_2.1 20 ≤ 19 := hT.1 20
      have v22 : 0 ≤ τ_2.1 22 ∧ τ_2.1 22 ≤ 1499 := hT.1 22
      have a18_22 : 0 ≤ τ_2.2.1 18 (τ_2.1 22) ∧ τ_2.2.1 18 (τ_2.1 22) ≤ 90000 := hT.2 18 _
      have a19_22 : 0 ≤ τ_2.2.1 19 (τ_2.1 22) ∧ τ_2.2.1 19 (τ_2.1 22) ≤ 60 := hT.2 19 _
      have a21_22 : 0 ≤ τ_2.2.1 21 (τ_2.1 22) ∧ τ_2.2.1 21 (τ_2.1 22) ≤ 20000 := hT.2 21 _
      have a22_22 : 0 ≤ τ_2.2.1 22 (τ_2.1 22) ∧ τ_2.2.1 22 (τ_2.1 22) ≤ 20000 := hT.2 22 _
      have av7 : σ.1 7 ≤ τ_2.1 7 := ag.1 7 (by decide)
      have av8 : σ.1 8 ≤ τ_2.1 8 := ag.1 8 (by decide)
      have y18_22_τ_2 : τ_2.2.1 18 (τ_2.1 22) = σ.2.1 18 (σ.1 22) := by rw [G18, W22]
      have y21_22_τ_2 : τ_2.2.1 21 (τ_2.1 22) = σ.2.1 21 (σ.1 22) := by rw [G21, W22]
      refine h2 u1_2 τ_2 ?_
      refine ⟨fun c1 => ?_, fun c1 => ?_⟩
      ·
        refine ⟨_, K_X13_markOf hT (show 0 ≤ (τ_2.1 22) from by (first | omega | (simp only [st_s] <;> omega) | assumption | omega)) (show (τ_2.1 22) < 1500 from by (first | omega | (simp only [st_s] <;> omega) | assumption | omega)), ?_⟩
        intro τ4 hn_τ4 hf_τ4 hq
        replace hT := hq
        replace ag : m_ag σ τ4 := ag_r ag hf_τ4 rfl rfl
        have w3_τ4 : τ4.1 3 = τ_2.1 3 := hf_τ4.1 3 (by decide)
        have w5_τ4 : τ4.1 5 = τ_2.1 5 := hf_τ4.1 5 (by decide)
        have w6_τ4 : τ4.1 6 = τ_2.1 6 := hf_τ4.1 6 (by decide)
        have w7_τ4 : τ4.1 7 = τ_2.1 7 := hf_τ4.1 7 (by decide)
        have w8_τ4 : τ4.1 8 = τ_2.1 8 := hf_τ4.1 8 (by decide)
        have w9_τ4 : τ4.1 9 = τ_2.1 9 := hf_τ4.1 9 (by decide)
        have w13_τ4 : τ4.1 13 = τ_2.1 13 := hf_τ4.1 13 (by decide)
        have w14_τ4 : τ4.1 14 = τ_2.1 14 := hf_τ4.1 14 (by decide)
        have w20_τ4 : τ4.1 20 = τ_2.1 20 := hf_τ4.1 20 (by decide)
        have w22_τ4 : τ4.1 22 = τ_2.1 22 := hf_τ4.1 22 (by decide)
        have g18_τ4 : τ4.2.1 18 = τ_2.2.1 18 := hf_τ4.2.1 18 (by decide)
        have g19_τ4 : τ4.2.1 19 = τ_2.2.1 19 := hf_τ4.2.1 19 (by decide)
        have g21_τ4 : τ4.2.1 21 = τ_2.2.1 21 := hf_τ4.2.1 21 (by decide)
        have g22_τ4 : τ4.2.1 22 = τ_2.2.1 22 := hf_τ4.2.1 22 (by decide)
        have W3 : τ4.1 3 = σ.1 3 := by omega
        have W5 : τ4.1 5 = σ.1 5 := by omega
        have W6 : τ4.1 6 = σ.1 6 := by omega
        have W9 : τ4.1 9 = σ.1 9 := by omega
        have W13 : τ4.1 13 = σ.1 13 := by omega
        have W14 : τ4.1 14 = σ.1 14 := by omega
        have W22 : τ4.1 22 = σ.1 22 := by omega
        have G18 : τ4.2.1 18 = σ.2.1 18 := (g18_τ4).trans G18
        have G21 : τ4.2.1 21 = σ.2.1 21 := (g21_τ4).trans G21
        have y18_22_τ4 : τ4.2.1 18 (τ4.1 22) = (τ_2.2.1 18) (τ_2.1 22) := by rw [g18_τ4, w22_τ4]
        have y19_22_τ4 : τ4.2.1 19 (τ4.1 22) = (τ_2.2.1 19) (τ_2.1 22) := by rw [g19_τ4, w22_τ4]
        have y21_22_τ4 : τ4.2.1 21 (τ4.1 22) = (τ_2.2.1 21) (τ_2.1 22) := by rw [g21_τ4, w22_τ4]
        have y22_22_τ4 : τ4.2.1 22 (τ4.1 22) = (τ_2.2.1 22) (τ_2.1 22) := by rw [g22_τ4, w22_τ4]
        have A18 : ∀ j, 0 ≤ τ4.2.1 18 j ∧ τ4.2.1 18 j ≤ 90000 := fun j => hT.2 18 j
        have A19 : ∀ j, 0 ≤ τ4.2.1 19 j ∧ τ4.2.1 19 j ≤ 60 := fun j => hT.2 19 j
        have A21 : ∀ j, 0 ≤ τ4.2.1 21 j ∧ τ4.2.1 21 j ≤ 20000 := fun j => hT.2 21 j
        have A22 : ∀ j, 0 ≤ τ4.2.1 22 j ∧ τ4.2.1 22 j ≤ 20000 := fun j => hT.2 22 j
        have v3 : 0 ≤ τ4.1 3 ∧ τ4.1 3 ≤ 1000 := hT.1 3
        have v5 : 0 ≤ τ4.1 5 ∧ τ4.1 5 ≤ 1500 := hT.1 5
        have v6 : 0 ≤ τ4.1 6 ∧ τ4.1 6 ≤ 30000 := hT.1 6
        have v7 : 0 ≤ τ4.1 7 ∧ τ4.1 7 ≤ 90000 := hT.1 7
        have v8 : 0 ≤ τ4.1 8 ∧ τ4.1 8 ≤ 20000 := hT.1 8
        have v9 : 0 ≤ τ4.1 9 ∧ τ4.1 9 ≤ 20000 := hT.1 9
        have v13 : 0 ≤ τ4.1 13 ∧ τ4.1 13 ≤ 1500 := hT.1 13
        have v14 : 0 ≤ τ4.1 14 ∧ τ4.1 14 ≤ 1000 := hT.1 14
        have v20 : 0 ≤ τ4.1 20 ∧ τ4.1 20 ≤ 19 := hT.1 20
        have v22 : 0 ≤ τ4.1 22 ∧ τ4.1 22 ≤ 1499 := hT.1 22
        have a18_22 : 0 ≤ τ4.2.1 18 (τ4.1 22) ∧ τ4.2.1 18 (τ4.1 22) ≤ 90000 := hT.2 18 _
        have a19_22 : 0 ≤ τ4.2.1 19 (τ4.1 22) ∧ τ4.2.1 19 (τ4.1 22) ≤ 60 := hT.2 19 _
        have a21_22 : 0 ≤ τ4.2.1 21 (τ4.1 22) ∧ τ4.2.1 21 (τ4.1 22) ≤ 20000 := hT.2 21 _
        have a22_22 : 0 ≤ τ4.2.1 22 (τ4.1 22) ∧ τ4.2.1 22 (τ4.1 22) ≤ 20000 := hT.2 22 _
        have av7 : σ.1 7 ≤ τ4.1 7 := ag.1 7 (by decide)
        have av8 : σ.1 8 ≤ τ4.1 8 := ag.1 8 (by decide)
        exact l_33 ((1502 - 0 : Int).toNat + 1) _ _ (show (1502 - 0 : Int) < (((1502 - 0 : Int).toNat + 1 : Nat) : Int) from by ((first | omega | (simp only [st_s] <;> omega) | assumption | omega))) hT ag (show τ4.1 3 = σ.1 3 from by omega) (show τ4.1 5 = σ.1 5 from by omega) (show τ4.1 6 = σ.1 6 from by omega) (show τ4.1 9 = σ.1 9 from by omega) (show τ4.1 13 = σ.1 13 from by omega) (show τ4.1 14 = σ.1 14 from by omega) (show τ4.1 22 = σ.1 22 from by omega) G18 G21 (show 0 ≤ 0 from by (first | omega | (simp only [st_s] <;> omega) | assumption | omega)) (show 0 ≤ 1501 from by (first | omega | (simp only [st_s] <;> omega) | assumption | omega)) (show (τ4.1 20) = (σ.1 20) from by (first | omega | (simp only [st_s] <;> omega) | assumption | omega)) (show (τ4.1 7) = (σ.1 7) from by (first | omega | (simp only [st_s] <;> omega) | assumption | omega)) (show (τ4.1 8) = (σ.1 8) from by (first | omega | (simp only [st_s] <;> omega) | assumption | omega)) (show τ4.2.1 19 (τ4.1 22) = σ.2.1 19 (σ.1 22) from by (first | omega | (simp only [st_s] <;> omega) | assumption | omega)) (show τ4.2.1 22 (τ4.1 22) = σ.2.1 22 (σ.1 22) from by (first | omega | (simp only [st_s] <;> omega) | assumption | omega))
      ·
        refine ⟨(show 0 ≤ u1_2 ∧ u1_2 < 1001 from by (first | omega | (simp only [st_s] <;> omega) | assumption | omega)), ?_⟩
        replace ag := ag_a (k := 38) (e := u1_2) (x := 0) ag rfl
        replace hT := mT_a (k := 38) (j := u1_2) hT (show (0 : Int) ≤ 0 ∧ 0 ≤ 1 from by (first | omega | (simp only [st_s] <;> omega) | assumption | omega))
        refine ⟨(⟨by (first | omega | (simp only [st_s] <;> omega) | assumption | omega), by (first | omega | (simp only [st_s] <;> omega) | assumption | omega)⟩ : rg (u1_2 + 1)), ?_⟩
        exact ih_2 _ _ (show (1502 - (u1_2 + 1) : Int) < ((m_2 : Nat) : Int) from by ((first | omega | (simp only [st_s] <;> omega) | assumption | omega))) hT ag (show τ_2.1 3 = σ.1 3 from by omega) (show τ_2.1 5 = σ.1 5 from by omega) (show τ_2.1 6 = σ.1 6 from by omega) (show τ_2.1 9 = σ.1 9 from by omega) (show τ_2.1 13 = σ.1 13 from by omega) (show τ_2.1 14 = σ.1 14 from by omega) (show τ_2.1 22 = σ.1 22 from by omega) G18 G21 (show 0 ≤ (u1_2 + 1) from by (first | omega | (simp only [st_s] <;> omega) | assumption | omega)) (show (u1_2 + 1) ≤ 1501 from by (first | omega | (simp only [st_s] <;> omega) | assumption | omega)) (show (τ_2.1 20) = (σ.1 20) from by (first | omega | (simp only [st_s] <;> omega) | assumption | omega)) (show (τ_2.1 7) = (σ.1 7) from by (first | omega | (simp only [st_s] <;> omega) | assumption | omega)) (show (τ_2.1 8) = (σ.1 8) from by (first | omega | (simp only [st_s] <;> omega) | assumption | omega)) (show τ_2.2.1 19 (τ_2.1 22) = σ.2.1 19 (σ.1 22) from by (first | omega | (simp only [st_s] <;> omega) | assumption | omega)) (show τ_2.2.1 22 (τ_2.1 22) = σ.2.1 22 (σ.1 22) from by (first | omega | (simp only [st_s] <;> omega) | assumption | omega))
  exact l_2 ((1502 - 0 : Int).toNat + 1) _ _ (show (1502 - 0 : Int) < (((1502 - 0 : Int).toNat + 1 : Nat) : Int) from by ((first | omega | (simp only [st_s] <;> omega) | assumption | omega))) hT ag (show σ.1 3 = σ.1 3 from by omega) (show σ.1 5 = σ.1 5 from by omega) (show σ.1 6 = σ.1 6 from by omega) (show σ.1 9 = σ.1 9 from by omega) (show σ.1 13 = σ.1 13 from by omega) (show σ.1 14 = σ.1 14 from by omega) (show σ.1 22 = σ.1 22 from by omega) G18 G21 (show 0 ≤ 0 from by (first | omega | (simp only [st_s] <;> omega) | assumption | omega)) (show 0 ≤ 1501 from by (first | omega | (simp only [st_s] <;> omega) | assumption | omega)) (show (σ.1 20) = (σ.1 20) from by (first | omega | (simp only [st_s] <;> omega) | assumption | omega)) (show (σ.1 7) = (σ.1 7) from by (first | omega | (simp only [st_s] <;> omega) | assumption | omega)) (show (σ.1 8) = (σ.1 8) from by (first | omega | (simp only [st_s] <;> omega) | assumption | omega)) (show σ.2.1 19 (σ.1 22) = σ.2.1 19 (σ.1 22) from by (first | omega | (simp only [st_s] <;> omega) | assumption | omega)) (show σ.2.1 22 (σ.1 22) = σ.2.1 22 (σ.1 22) from by (first | omega | (simp only [st_s] <;> omega) | assumption | omega))
set_option maxHeartbeats 1000000 in
theorem K_X13_readPlain {σ : S0} (hT : m_T σ) (p1 : (σ.1 16) ≤ (σ.1 0)) (p2 : (σ.1 17) + (σ.1 18) ≤ (σ.1 0)) (p3 : oc (σ.2.1 6) < 4096) (p4 : oc (σ.2.1 7) < 4096) (p5 : (σ.1 22) = (σ.1 5)) (p6 : σ.2.1 25 (σ.1 22) + σ.2.1 26 (σ.1 22) = (σ.1 9)) : W_X13_readPlain σ (fun (τ : S0) => (m_T τ) ∧ ((τ.1 16) ≤ (τ.1 0)) ∧ ((τ.1 17) + (τ.1 18) ≤ (τ.1 0)) ∧ (¬ (σ.1 20) = 0 → (τ.1 20) = (σ.1 20)) ∧ (τ.2.1 25 (τ.1 22) + τ.2.1 26 (τ.1 22) = (τ.1 9)) ∧ (j_eq ((σ.1 9)) (σ.2.1 28) (τ.2.1 28)) ∧ (ca (τ.2.1 28) ((τ.1 9)) = ca (σ.2.1 28) ((σ.1 9))) ∧ ((σ.1 16) ≤ (τ.1 16)) ∧ (m_ag σ τ)) := by
  have A0 : ∀ j, 0 ≤ σ.2.1 0 j ∧ σ.2.1 0 j ≤ 255 := fun j => hT.2 0 j
  have A6 : ∀ j, (-1) ≤ σ.2.1 6 j ∧ σ.2.1 6 j ≤ 999 := fun j => hT.2 6 j
  have A7 : ∀ j, (-1) ≤ σ.2.1 7 j ∧ σ.2.1 7 j ≤ 1499 := fun j => hT.2 7 j
  have A25 : ∀ j, 0 ≤ σ.2.1 25 j ∧ σ.2.1 25 j ≤ 20000 := fun j => hT.2 25 j
  have A26 : ∀ j, 0 ≤ σ.2.1 26 j ∧ σ.2.1 26 j ≤ 20000 := fun j => hT.2 26 j
  have A28 : ∀ j, 0 ≤ σ.2.1 28 j ∧ σ.2.1 28 j ≤ 1 := fun j => hT.2 28 j
  have v0 : 0 ≤ σ.1 0 ∧ σ.1 0 ≤ 60000 := hT.1 0
  have v3 : 0 ≤ σ.1 3 ∧ σ.1 3 ≤ 1000 := hT.1 3
  have v5 : 0 ≤ σ.1 5 ∧ σ.1 5 ≤ 1500 := hT.1 5
  have v6 : 0 ≤ σ.1 6 ∧ σ.1 6 ≤ 30000 := hT.1 6
  have v7 : 0 ≤ σ.1 7 ∧ σ.1 7 ≤ 90000 := hT.1 7
  have v8 : 0 ≤ σ.1 8 ∧ σ.1 8 ≤ 20000 := hT.1 8
  have v9 : 0 ≤ σ.1 9 ∧ σ.1 9 ≤ 20000 := hT.1 9
  have v16 : 0 ≤ σ.1 16 ∧ σ.1 16 ≤ 60000 := hT.1 16
  have v17 : 0 ≤ σ.1 17 ∧ σ.1 17 ≤ 60000 := hT.1 17
  have v18 : 0 ≤ σ.1 18 ∧ σ.1 18 ≤ 60000 := hT.1 18
  have v19 : (-1) ≤ σ.1 19 ∧ σ.1 19 ≤ 125 := hT.1 19
  have v20 : 0 ≤ σ.1 20 ∧ σ.1 20 ≤ 19 := hT.1 20
  have v22 : 0 ≤ σ.1 22 ∧ σ.1 22 ≤ 1499 := hT.1 22
  have a0_17 : 0 ≤ σ.2.1 0 (σ.1 17) ∧ σ.2.1 0 (σ.1 17) ≤ 255 := hT.2 0 _
  have a25_22 : 0 ≤ σ.2.1 25 (σ.1 22) ∧ σ.2.1 25 (σ.1 22) ≤ 20000 := hT.2 25 _
  have a26_22 : 0 ≤ σ.2.1 26 (σ.1 22) ∧ σ.2.1 26 (σ.1 22) ≤ 20000 := hT.2 26 _
  have a28_9 : 0 ≤ σ.2.1 28 (σ.1 9) ∧ σ.2.1 28 (σ.1 9) ≤ 1 := hT.2 28 _
  have W0 : σ.1 0 = σ.1 0 := rfl
  have W3 : σ.1 3 = σ.1 3 := rfl
  have W5 : σ.1 5 = σ.1 5 := rfl
  have W6 : σ.1 6 = σ.1 6 := rfl
  have W7 : σ.1 7 = σ.1 7 := rfl
  have W8 : σ.1 8 = σ.1 8 := rfl
  have W22 : σ.1 22 = σ.1 22 := rfl
  have G0 : σ.2.1 0 = σ.2.1 0 := rfl
  have G6 : σ.2.1 6 = σ.2.1 6 := rfl
  have G7 : σ.2.1 7 = σ.2.1 7 := rfl
  have G25 : σ.2.1 25 = σ.2.1 25 := rfl
  have ag : m_ag σ σ := ag_0 σ
  intro P0 P60 P88 P111 h0 h60 h88 h111
  have Y8 := j_eq0 (σ.1 9) (σ.2.1 28)
  have Y9 : ca (σ.2.1 28) (σ.1 9) = ca (σ.2.1 28) (σ.1 9) := rfl
  have Z4 : σ.2.1 25 (σ.1 22) + σ.2.1 26 (σ.1 22) = (σ.1 9) := p6
  have l_0 : ∀ (m_0 : Nat) (τ_0 : S0), 3 * ((τ_0.1 0) - (τ_0.1 16)) + z_0 ((τ_0.1 20)) + 1 - z_0 ((τ_0.1 19)) < (m_0 : Int) → (m_T τ_0) → (m_ag σ τ_0) → (τ_0.1 0 = σ.1 0) → (τ_0.1 3 = σ.1 3) → (τ_0.1 5 = σ.1 5) → (τ_0.1 6 = σ.1 6) → (τ_0.1 7 = σ.1 7) → (τ_0.1 8 = σ.1 8) → (τ_0.1 22 = σ.1 22) → (τ_0.2.1 0 = σ.2.1 0) → (τ_0.2.1 6 = σ.2.1 6) → (τ_0.2.1 7 = σ.2.1 7) → (τ_0.2.1 25 = σ.2.1 25) → ((τ_0.1 16) ≤ (τ_0.1 0)) → ((τ_0.1 17) + (τ_0.1 18) ≤ (τ_0.1 0)) → (oc (τ_0.2.1 6) < 4096) → (oc (τ_0.2.1 7) < 4096) → (τ_0.2.1 25 (τ_0.1 22) + τ_0.2.1 26 (τ_0.1 22) = (τ_0.1 9)) → (¬ (σ.1 20) = 0 → (τ_0.1 20) = (σ.1 20)) → (j_eq ((σ.1 9)) (σ.2.1 28) (τ_0.2.1 28)) → (ca (τ_0.2.1 28) ((τ_0.1 9)) = ca (σ.2.1 28) ((σ.1 9))) → ((σ.1 16) ≤ (τ_0.1 16)) → P0 τ_0 := by
    intro m_0
    induction m_0 with
    | zero =>
      intro τ_0 hm hT ag W0 W3 W5 W6 W7 W8 W22 G0 G6 G7 G25 i0_1 i0_2 i0_3 i0_4 i0_5 i0_6 i0_7 i0_8 i0_9
      have A0 : ∀ j, 0 ≤ τ_0.2.1 0 j ∧ τ_0.2.1 0 j ≤ 255 := fun j => hT.2 0 j
      have A6 : ∀ j, (-1) ≤ τ_0.2.1 6 j ∧ τ_0.2.1 6 j ≤ 999 := fun j => hT.2 6 j
      have A7 : ∀ j, (-1) ≤ τ_0.2.1 7 j ∧ τ_0.2.1 7 j ≤ 1499 := fun j => hT.2 7 j
      have A25 : ∀ j, 0 ≤ τ_0.2.1 25 j ∧ τ_0.2.1 25 j ≤ 20000 := fun j => hT.2 25 j
      have A26 : ∀ j, 0 ≤ τ_0.2.1 26 j ∧ τ_0.2.1 26 j ≤ 20000 := fun j => hT.2 26 j
      have A28 : ∀ j, 0 ≤ τ_0.2.1 28 j ∧ τ_0.2.1 28 j ≤ 1 := fun j => hT.2 28 j
      have v0 : 0 ≤ τ_0.1 0 ∧ τ_0.1 0 ≤ 60000 := hT.1 0
      have v3 : 0 ≤ τ_0.1 3 ∧ τ_0.1 3 ≤ 1000 := hT.1 3
      have v5 : 0 ≤ τ_0.1 5 ∧ τ_0.1 5 ≤ 1500 := hT.1 5
      have v6 : 0 ≤ τ_0.1 6 ∧ τ_0.1 6 ≤ 30000 := hT.1 6
      have v7 : 0 ≤ τ_0.1 7 ∧ τ_0.1 7 ≤ 90000 := hT.1 7
      have v8 : 0 ≤ τ_0.1 8 ∧ τ_0.1 8 ≤ 20000 := hT.1 8
      have v9 : 0 ≤ τ_0.1 9 ∧ τ_0.1 9 ≤ 20000 := hT.1 9
      have v16 : 0 ≤ τ_0.1 16 ∧ τ_0.1 16 ≤ 60000 := hT.1 16
      have v17 : 0 ≤ τ_0.1 17 ∧ τ_0.1 17 ≤ 60000 := hT.1 17
      have v18 : 0 ≤ τ_0.1 18 ∧ τ_0.1 18 ≤ 60000 := hT.1 18
      have v19 : (-1) ≤ τ_0.1 19 ∧ τ_0.1 19 ≤ 125 := hT.1 19
      have v20 : 0 ≤ τ_0.1 20 ∧ τ_0.1 20 ≤ 19 := hT.1 20
      have v22 : 0 ≤ τ_0.1 22 ∧ τ_0.1 22 ≤ 1499 := hT.1 22
      have a0_17 : 0 ≤ τ_0.2.1 0 (τ_0.1 17) ∧ τ_0.2.1 0 (τ_0.1 17) ≤ 255 := hT.2 0 _
      have a25_22 : 0 ≤ τ_0.2.1 25 (τ_0.1 22) ∧ τ_0.2.1 25 (τ_0.1 22) ≤ 20000 := hT.2 25 _
      have a26_22 : 0 ≤ τ_0.2.1 26 (τ_0.1 22) ∧ τ_0.2.1 26 (τ_0.1 22) ≤ 20000 := hT.2 26 _
      have a28_9 : 0 ≤ τ_0.2.1 28 (τ_0.1 9) ∧ τ_0.2.1 28 (τ_0.1 9) ≤ 1 := hT.2 28 _
      have av9 : σ.1 9 ≤ τ_0.1 9 := ag.1 9 (by decide)
      have zz0 := z_e ((τ_0.1 20))
      have zz1 := z_e ((τ_0.1 19))
      exfalso; (first | omega | (simp only [st_s] <;> omega) | assumption | omega)
    | succ m_0 ih_0 =>
      intro τ_0 hm_0 hT ag W0 W3 W5 W6 W7 W8 W22 G0 G6 G7 G25 i0_1 i0_2 i0_3 i0_4 i0_5 i0_6 i0_7 i0_8 i0_9
      have A0 : ∀ j, 0 ≤ τ_0.2.1 0 j ∧ τ_0.2.1 0 j ≤ 255 := fun j => hT.2 0 j
      have A6 : ∀ j, (-1) ≤ τ_0.2.1 6 j ∧ τ_0.2.1 6 j ≤ 999 := fun j => hT.2 6 j
      have A7 : ∀ j, (-1) ≤ τ_0.2.1 7 j ∧ τ_0.2.1 7 j ≤ 1499 := fun j => hT.2 7 j
      have A25 : ∀ j, 0 ≤ τ_0.2.1 25 j ∧ τ_0.2.1 25 j ≤ 20000 := fun j => hT.2 25 j
      have A26 : ∀ j, 0 ≤ τ_0.2.1 26 j ∧ τ_0.2.1 26 j ≤ 20000 := fun j => hT.2 26 j
      have A28 : ∀ j, 0 ≤ τ_0.2.1 28 j ∧ τ_0.2.1 28 j ≤ 1 := fun j => hT.2 28 j
      have v0 : 0 ≤ τ_0.1 0 ∧ τ_0.1 0 ≤ 60000 := hT.1 0
      have v3 : 0 ≤ τ_0.1 3 ∧ τ_0.1 3 ≤ 1000 := hT.1 3
      have v5 : 0 ≤ τ_0.1 5 ∧ τ_0.1 5 ≤ 1500 := hT.1 5
      have v6 : 0 ≤ τ_0.1 6 ∧ τ_0.1 6 ≤ 30000 := hT.1 6
      have v7 : 0 ≤ τ_0.1 7 ∧ τ_0.1 7 ≤ 90000 := hT.1 7
      have v8 : 0 ≤ τ_0.1 8 ∧ τ_0.1 8 ≤ 20000 := hT.1 8
      have v9 : 0 ≤ τ_0.1 9 ∧ τ_0.1 9 ≤ 20000 := hT.1 9
      have v16 : 0 ≤ τ_0.1 16 ∧ τ_0.1 16 ≤ 60000 := hT.1 16
      have v17 : 0 ≤ τ_0.1 17 ∧ τ_0.1 17 ≤ 60000 := hT.1 17
      have v18 : 0 ≤ τ_0.1 18 ∧ τ_0.1 18 ≤ 60000 := hT.1 18
      have v19 : (-1) ≤ τ_0.1 19 ∧ τ_0.1 19 ≤ 125 := hT.1 19
      have v20 : 0 ≤ τ_0.1 20 ∧ τ_0.1 20 ≤ 19 := hT.1 20
      have v22 : 0 ≤ τ_0.1 22 ∧ τ_0.1 22 ≤ 1499 := hT.1 22
      have a0_17 : 0 ≤ τ_0.2.1 0 (τ_0.1 17) ∧ τ_0.2.1 0 (τ_0.1 17) ≤ 255 := hT.2 0 _
      have a25_22 : 0 ≤ τ_0.2.1 25 (τ_0.1 22) ∧ τ_0.2.1 25 (τ_0.1 22) ≤ 20000 := hT.2 25 _
      have a26_22 : 0 ≤ τ_0.2.1 26 (τ_0.1 22) ∧ τ_0.2.1 26 (τ_0.1 22) ≤ 20000 := hT.2 26 _
      have a28_9 : 0 ≤ τ_0.2.1 28 (τ_0.1 9) ∧ τ_0.2.1 28 (τ_0.1 9) ≤ 1 := hT.2 28 _
      have av9 : σ.1 9 ≤ τ_0.1 9 := ag.1 9 (by decide)
      have zy0_0 := z_e ((τ_0.1 20))
      have zy0_1 := z_e ((τ_0.1 19))
      have y25_22_τ_0 : τ_0.2.1 25 (τ_0.1 22) = σ.2.1 25 (σ.1 22) := by rw [G25, W22]
      have o6_τ_0 := congrArg oc G6
      have o7_τ_0 := congrArg oc G7
      have Z4 : τ_0.2.1 25 (τ_0.1 22) + τ_0.2.1 26 (τ_0.1 22) = (τ_0.1 9) := i0_5
      have Y8 : j_eq ((σ.1 9)) (σ.2.1 28) (τ_0.2.1 28) := i0_7
      have Y9 : ca (τ_0.2.1 28) ((τ_0.1 9)) = ca (σ.2.1 28) ((σ.1 9)) := i0_8
      refine h0 τ_0 ?_
      refine ⟨fun c1 => ?_, fun c1 => ?_⟩
      ·
        exact ⟨hT, (show (τ_0.1 16) ≤ (τ_0.1 0) from by (first | omega | (simp only [st_s] <;> omega) | assumption | omega)), (show (τ_0.1 17) + (τ_0.1 18) ≤ (τ_0.1 0) from by (first | omega | (simp only [st_s] <;> omega) | assumption | omega)), (show ¬ (σ.1 20) = 0 → (τ_0.1 20) = (σ.1 20) from by (first | omega | (simp only [st_s] <;> omega) | assumption | omega)), (show τ_0.2.1 25 (τ_0.1 22) + τ_0.2.1 26 (τ_0.1 22) = (τ_0.1 9) from Z4), (show j_eq ((σ.1 9)) (σ.2.1 28) (τ_0.2.1 28) from Y8), (show ca (τ_0.2.1 28) ((τ_0.1 9)) = ca (σ.2.1 28) ((σ.1 9)) from Y9), (show (σ.1 16) ≤ (τ_0.1 16) from by (first | omega | (simp only [st_s] <;> omega) | assumption | omega)), ag⟩
      ·
        refine ⟨fun c2 => ?_, fun c2 => ?_⟩
        ·
          exact ⟨hT, (show (τ_0.1 16) ≤ (τ_0.1 0) from by (first | omega | (simp only [st_s] <;> omega) | assumption | omega)), (show (τ_0.1 17) + (τ_0.1 18) ≤ (τ_0.1 0) from by (first | omega | (simp only [st_s] <;> omega) | assumption | omega)), (show ¬ (σ.1 20) = 0 → (τ_0.1 20) = (σ.1 20) from by (first | omega | (simp only [st_s] <;> omega) | assumption | omega)), (show τ_0.2.1 25 (τ_0.1 22) + τ_0.2.1 26 (τ_0.1 22) = (τ_0.1 9) from Z4), (show j_eq ((σ.1 9)) (σ.2.1 28) (τ_0.2.1 28) from Y8), (show ca (τ_0.2.1 28) ((τ_0.1 9)) = ca (σ.2.1 28) ((σ.1 9)) from Y9), (show (σ.1 16) ≤ (τ_0.1 16) from by (first | omega | (simp only [st_s] <;> omega) | assumption | omega)), ag⟩
        ·
          refine ⟨fun c3 => ?_, fun c3 => ?_⟩
          ·
            refine ⟨fun c4 => ?_, fun c4 => ?_⟩
            ·
              refine h60 _ ?_
              refine ⟨_, K_X13_stepHere hT (show (τ_0.1 17) + (τ_0.1 18) ≤ (τ_0.1 0) from by (first | omega | (simp only [st_s] <;> omega) | assumption | omega)) (show oc (τ_0.2.1 7) < 4096 from by (first | omega | (simp only [st_s] <;> omega) | assumption | omega)), ?_⟩
              intro x12 r_x12 hq
              obtain ⟨q11_1, q11_2⟩ := hq
              replace q11_1 : -1 ≤ x12 ∧ x12 < (τ_0.1 22) ∨ x12 = -1 := q11_1
              replace q11_2 : -1 ≤ x12 ∧ x12 ≤ 1499 := q11_2
              refine ⟨fun c14 => ?_, fun c14 => ?_⟩
              ·
                refine h88 _ _ ?_
                refine ⟨fun c23 => ?_, fun c23 => ?_⟩
                ·
                  refine ⟨_, K_X13_addStep hT (show -300 ≤ x12 from by (first | omega | (simp only [st_s] <;> omega) | assumption | omega)) (show x12 ≤ 1499 from by (first | omega | (simp only [st_s] <;> omega) | assumption | omega)) (show 0 ≤ (τ_0.1 17) from by (first | omega | (simp only [st_s] <;> omega) | assumption | omega)) (show (τ_0.1 17) ≤ 60000 from by (first | omega | (simp only [st_s] <;> omega) | assumption | omega)) (show (τ_0.1 9) < 20000 from by (first | omega | (simp only [st_s] <;> omega) | assumption | omega)) (show τ_0.2.1 26 (τ_0.1 22) < 20000 from by (first | omega | (simp only [st_s] <;> omega) | assumption | omega)) (show (τ_0.1 22) = (τ_0.1 5) from by (first | omega | (simp only [st_s] <;> omega) | assumption | omega)), ?_⟩
                  intro τ26 hn_τ26 hf_τ26 hq
                  obtain ⟨hT, q24_1, q24_2, q24_3, q24_4, q24_5, q24_6, q24_7⟩ := hq
                  replace q24_1 : (τ26.1 9) = (τ_0.1 9) + 1 := q24_1
                  replace q24_2 : τ26.2.1 26 (τ26.1 22) = τ_0.2.1 26 (τ_0.1 22) + 1 := q24_2
                  replace q24_3 : τ26.2.1 27 = st (τ_0.2.1 27) (τ_0.1 9) x12 := q24_3
                  replace q24_4 : j_eq ((τ_0.1 9)) (τ_0.2.1 28) (τ26.2.1 28) := q24_4
                  replace q24_5 : ca (τ26.2.1 28) ((τ26.1 9)) = ca (τ_0.2.1 28) ((τ_0.1 9)) := q24_5
                  replace q24_6 : τ26.2.1 28 (τ_0.1 9) = 0 := q24_6
                  replace q24_7 : m_ag τ_0 τ26 := q24_7
                  replace ag : m_ag σ τ26 := ag_t ag q24_7 rfl
                  have w0_τ26 : τ26.1 0 = τ_0.1 0 := hf_τ26.1 0 (by decide)
                  have w3_τ26 : τ26.1 3 = τ_0.1 3 := hf_τ26.1 3 (by decide)
                  have w5_τ26 : τ26.1 5 = τ_0.1 5 := hf_τ26.1 5 (by decide)
                  have w6_τ26 : τ26.1 6 = τ_0.1 6 := hf_τ26.1 6 (by decide)
                  have w7_τ26 : τ26.1 7 = τ_0.1 7 := hf_τ26.1 7 (by decide)
                  have w8_τ26 : τ26.1 8 = τ_0.1 8 := hf_τ26.1 8 (by decide)
                  have w16_τ26 : τ26.1 16 = τ_0.1 16 := hf_τ26.1 16 (by decide)
                  have w17_τ26 : τ26.1 17 = τ_0.1 17 := hf_τ26.1 17 (by decide)
                  have w18_τ26 : τ26.1 18 = τ_0.1 18 := hf_τ26.1 18 (by decide)
                  have w19_τ26 : τ26.1 19 = τ_0.1 19 := hf_τ26.1 19 (by decide)
                  have w20_τ26 : τ26.1 20 = τ_0.1 20 := hf_τ26.1 20 (by decide)
                  have w22_τ26 : τ26.1 22 = τ_0.1 22 := hf_τ26.1 22 (by decide)
                  have g0_τ26 : τ26.2.1 0 = τ_0.2.1 0 := hf_τ26.2.1 0 (by decide)
                  have g6_τ26 : τ26.2.1 6 = τ_0.2.1 6 := hf_τ26.2.1 6 (by decide)
                  have g7_τ26 : τ26.2.1 7 = τ_0.2.1 7 := hf_τ26.2.1 7 (by decide)
                  have g25_τ26 : τ26.2.1 25 = τ_0.2.1 25 := hf_τ26.2.1 25 (by decide)
                  first | (have o6_τ26 := congrArg oc g6_τ26) | skip
                  first | (have o7_τ26 := congrArg oc g7_τ26) | skip
                  have W0 : τ26.1 0 = σ.1 0 := by omega
                  have W3 : τ26.1 3 = σ.1 3 := by omega
                  have W5 : τ26.1 5 = σ.1 5 := by omega
                  have W6 : τ26.1 6 = σ.1 6 := by omega
                  have W7 : τ26.1 7 = σ.1 7 := by omega
                  have W8 : τ26.1 8 = σ.1 8 := by omega
                  have W22 : τ26.1 22 = σ.1 22 := by omega
                  have G0 : τ26.2.1 0 = σ.2.1 0 := (g0_τ26).trans G0
                  have G6 : τ26.2.1 6 = σ.2.1 6 := (g6_τ26).trans G6
                  have G7 : τ26.2.1 7 = σ.2.1 7 := (g7_τ26).trans G7
                  have G25 : τ26.2.1 25 = σ.2.1 25 := (g25_τ26).trans G25
                  have y0_17_τ26 : τ26.2.1 0 (τ26.1 17) = (τ_0.2.1 0) (τ_0.1 17) := by rw [g0_τ26, w17_τ26]
                  have y25_22_τ26 : τ26.2.1 25 (τ26.1 22) = (τ_0.2.1 25) (τ_0.1 22) := by rw [g25_τ26, w22_τ26]
                  have A0 : ∀ j, 0 ≤ τ26.2.1 0 j ∧ τ26.2.1 0 j ≤ 255 := fun j => hT.2 0 j
                  have A6 : ∀ j, (-1) ≤ τ26.2.1 6 j ∧ τ26.2.1 6 j ≤ 999 := fun j => hT.2 6 j
                  have A7 : ∀ j, (-1) ≤ τ26.2.1 7 j ∧ τ26.2.1 7 j ≤ 1499 := fun j => hT.2 7 j
                  have A25 : ∀ j, 0 ≤ τ26.2.1 25 j ∧ τ26.2.1 25 j ≤ 20000 := fun j => hT.2 25 j
                  have A26 : ∀ j, 0 ≤ τ26.2.1 26 j ∧ τ26.2.1 26 j ≤ 20000 := fun j => hT.2 26 j
                  have A28 : ∀ j, 0 ≤ τ26.2.1 28 j ∧ τ26.2.1 28 j ≤ 1 := fun j => hT.2 28 j
                  have v0 : 0 ≤ τ26.1 0 ∧ τ26.1 0 ≤ 60000 := hT.1 0
                  have v3 : 0 ≤ τ26.1 3 ∧ τ26.1 3 ≤ 1000 := hT.1 3
                  have v5 : 0 ≤ τ26.1 5 ∧ τ26.1 5 ≤ 1500 := hT.1 5
                  have v6 : 0 ≤ τ26.1 6 ∧ τ26.1 6 ≤ 30000 := hT.1 6
                  have v7 : 0 ≤ τ26.1 7 ∧ τ26.1 7 ≤ 90000 := hT.1 7
                  have v8 : 0 ≤ τ26.1 8 ∧ τ26.1 8 ≤ 20000 := hT.1 8
                  have v9 : 0 ≤ τ26.1 9 ∧ τ26.1 9 ≤ 20000 := hT.1 9
                  have v16 : 0 ≤ τ26.1 16 ∧ τ26.1 16 ≤ 60000 := hT.1 16
                  have v17 : 0 ≤ τ26.1 17 ∧ τ26.1 17 ≤ 60000 := hT.1 17
                  have v18 : 0 ≤ τ26.1 18 ∧ τ26.1 18 ≤ 60000 := hT.1 18
                  have v19 : (-1) ≤ τ26.1 19 ∧ τ26.1 19 ≤ 125 := hT.1 19
                  have v20 : 0 ≤ τ26.1 20 ∧ τ26.1 20 ≤ 19 := hT.1 20
                  have v22 : 0 ≤ τ26.1 22 ∧ τ26.1 22 ≤ 1499 := hT.1 22
                  have a0_17 : 0 ≤ τ26.2.1 0 (τ26.1 17) ∧ τ26.2.1 0 (τ26.1 17) ≤ 255 := hT.2 0 _
                  have a25_22 : 0 ≤ τ26.2.1 25 (τ26.1 22) ∧ τ26.2.1 25 (τ26.1 22) ≤ 20000 := hT.2 25 _
                  have a26_22 : 0 ≤ τ26.2.1 26 (τ26.1 22) ∧ τ26.2.1 26 (τ26.1 22) ≤ 20000 := hT.2 26 _
                  have a28_9 : 0 ≤ τ26.2.1 28 (τ26.1 9) ∧ τ26.2.1 28 (τ26.1 9) ≤ 1 := hT.2 28 _
                  have av9 : σ.1 9 ≤ τ26.1 9 := ag.1 9 (by decide)
                  have Z4 : τ26.2.1 25 (τ26.1 22) + τ26.2.1 26 (τ26.1 22) = τ26.1 9 := by omega
                  have Y8 := j_eqt Y8 (j_eqw q24_4 (show σ.1 9 ≤ τ_0.1 9 from by omega))
                  have Y9 := q24_5.trans Y9
                  refine h111 _ ?_
                  refine ⟨fun c19 => ?_, fun c19 => ?_⟩
                  ·
                    exact ih_0 _ (show (3 * ((τ26.1 0) - (τ26.1 16)) + z_0 ((τ26.1 20)) + 1 - z_0 ((τ26.1 19)) : Int) < ((m_0 : Nat) : Int) from by (have zz0 := z_e ((τ26.1 20)); have zz1 := z_e ((τ26.1 19)); (first | omega | (simp only [st_s] <;> omega) | assumption | omega))) hT ag (show τ26.1 0 = σ.1 0 from by omega) (show τ26.1 3 = σ.1 3 from by omega) (show τ26.1 5 = σ.1 5 from by omega) (show τ26.1 6 = σ.1 6 from by omega) (show τ26.1 7 = σ.1 7 from by omega) (show τ26.1 8 = σ.1 8 from by omega) (show τ26.1 22 = σ.1 22 from by omega) G0 G6 G7 G25 (show (τ26.1 16) ≤ (τ26.1 0) from by (first | omega | (simp only [st_s] <;> omega) | assumption | omega)) (show (τ26.1 17) + (τ26.1 18) ≤ (τ26.1 0) from by (first | omega | (simp only [st_s] <;> omega) | assumption | omega)) (show oc (τ26.2.1 6) < 4096 from by (first | omega | (simp only [st_s] <;> omega) | assumption | omega)) (show oc (τ26.2.1 7) < 4096 from by (first | omega | (simp only [st_s] <;> omega) | assumption | omega)) (show τ26.2.1 25 (τ26.1 22) + τ26.2.1 26 (τ26.1 22) = (τ26.1 9) from Z4) (show ¬ (σ.1 20) = 0 → (τ26.1 20) = (σ.1 20) from by (first | omega | (simp only [st_s] <;> omega) | assumption | omega)) (show j_eq ((σ.1 9)) (σ.2.1 28) (τ26.2.1 28) from Y8) (show ca (τ26.2.1 28) ((τ26.1 9)) = ca (σ.2.1 28) ((σ.1 9)) from Y9) (show (σ.1 16) ≤ (τ26.1 16) from by (first | omega | (simp only [st_s] <;> omega) | assumption | omega))
                  ·
                    refine ⟨_, K_X13_next hT (show (τ26.1 16) ≤ (τ26.1 0) from by (first | omega | (simp only [st_s] <;> omega) | assumption | omega)), ?_⟩
                    intro τ22 hn_τ22 hf_τ22 hq
                    obtain ⟨hT, q20_1, q20_2, q20_3, q20_4, q20_5⟩ := hq
                    replace q20_1 : (τ22.1 16) ≤ (τ22.1 0) := q20_1
                    replace q20_2 : (τ22.1 17) + (τ22.1 18) ≤ (τ22.1 0) := q20_2
                    replace q20_3 : (τ26.1 16) ≤ (τ22.1 16) := q20_3
                    replace q20_4 : ¬ (τ26.1 20) = 0 → (τ22.1 20) = (τ26.1 20) := q20_4
                    replace q20_5 : (τ22.1 20) = 0 → ¬ (τ22.1 19) = 0 → (τ26.1 16) < (τ22.1 16) ∧ 0 < (τ22.1 18) := q20_5
                    replace ag : m_ag σ τ22 := ag_r ag hf_τ22 rfl rfl
                    have w0_τ22 : τ22.1 0 = τ26.1 0 := hf_τ22.1 0 (by decide)
                    have w3_τ22 : τ22.1 3 = τ26.1 3 := hf_τ22.1 3 (by decide)
                    have w5_τ22 : τ22.1 5 = τ26.1 5 := hf_τ22.1 5 (by decide)
                    have w6_τ22 : τ22.1 6 = τ26.1 6 := hf_τ22.1 6 (by decide)
                    have w7_τ22 : τ22.1 7 = τ26.1 7 := hf_τ22.1 7 (by decide)
                    have w8_τ22 : τ22.1 8 = τ26.1 8 := hf_τ22.1 8 (by decide)
                    have w9_τ22 : τ22.1 9 = τ26.1 9 := hf_τ22.1 9 (by decide)
                    have w22_τ22 : τ22.1 22 = τ26.1 22 := hf_τ22.1 22 (by decide)
                    have g0_τ22 : τ22.2.1 0 = τ26.2.1 0 := hf_τ22.2.1 0 (by decide)
                    have g6_τ22 : τ22.2.1 6 = τ26.2.1 6 := hf_τ22.2.1 6 (by decide)
                    have g7_τ22 : τ22.2.1 7 = τ26.2.1 7 := hf_τ22.2.1 7 (by decide)
                    have g25_τ22 : τ22.2.1 25 = τ26.2.1 25 := hf_τ22.2.1 25 (by decide)
                    have g26_τ22 : τ22.2.1 26 = τ26.2.1 26 := hf_τ22.2.1 26 (by decide)
                    have g28_τ22 : τ22.2.1 28 = τ26.2.1 28 := hf_τ22.2.1 28 (by decide)
                    first | (have o6_τ22 := congrArg oc g6_τ22) | skip
                    first | (have o7_τ22 := congrArg oc g7_τ22) | skip
                    have W0 : τ22.1 0 = σ.1 0 := by omega
                    have W3 : τ22.1 3 = σ.1 3 := by omega
                    have W5 : τ22.1 5 = σ.1 5 := by omega
                    have W6 : τ22.1 6 = σ.1 6 := by omega
                    have W7 : τ22.1 7 = σ.1 7 := by omega
                    have W8 : τ22.1 8 = σ.1 8 := by omega
                    have W22 : τ22.1 22 = σ.1 22 := by omega
                    have G0 : τ22.2.1 0 = σ.2.1 0 := (g0_τ22).trans G0
                    have G6 : τ22.2.1 6 = σ.2.1 6 := (g6_τ22).trans G6
                    have G7 : τ22.2.1 7 = σ.2.1 7 := (g7_τ22).trans G7
                    have G25 : τ22.2.1 25 = σ.2.1 25 := (g25_τ22).trans G25
                    have y25_22_τ22 : τ22.2.1 25 (τ22.1 22) = (τ26.2.1 25) (τ26.1 22) := by rw [g25_τ22, w22_τ22]
                    have y26_22_τ22 : τ22.2.1 26 (τ22.1 22) = (τ26.2.1 26) (τ26.1 22) := by rw [g26_τ22, w22_τ22]
                    have y28_9_τ22 : τ22.2.1 28 (τ22.1 9) = (τ26.2.1 28) (τ26.1 9) := by rw [g28_τ22, w9_τ22]
                    have Z4 : τ22.2.1 25 (τ22.1 22) + τ22.2.1 26 (τ22.1 22) = (τ22.1 9) := by rw [show (τ22.2.1 25 (τ22.1 22) + τ22.2.1 26 (τ22.1 22) = (τ22.1 9)) = (τ26.2.1 25 (τ26.1 22) + τ26.2.1 26 (τ26.1 22) = (τ26.1 9)) from by rw [w9_τ22, w22_τ22, g25_τ22, g26_τ22]]; exact Z4
                    have Y8 : j_eq ((σ.1 9)) (σ.2.1 28) (τ22.2.1 28) := by rw [show (j_eq ((σ.1 9)) (σ.2.1 28) (τ22.2.1 28)) = (j_eq ((σ.1 9)) (σ.2.1 28) (τ26.2.1 28)) from by rw [g28_τ22]]; exact Y8
                    have Y9 : ca (τ22.2.1 28) ((τ22.1 9)) = ca (σ.2.1 28) ((σ.1 9)) := by rw [show (ca (τ22.2.1 28) ((τ22.1 9)) = ca (σ.2.1 28) ((σ.1 9))) = (ca (τ26.2.1 28) ((τ26.1 9)) = ca (σ.2.1 28) ((σ.1 9))) from by rw [w9_τ22, g28_τ22]]; exact Y9
                    have A0 : ∀ j, 0 ≤ τ22.2.1 0 j ∧ τ22.2.1 0 j ≤ 255 := fun j => hT.2 0 j
                    have A6 : ∀ j, (-1) ≤ τ22.2.1 6 j ∧ τ22.2.1 6 j ≤ 999 := fun j => hT.2 6 j
                    have A7 : ∀ j, (-1) ≤ τ22.2.1 7 j ∧ τ22.2.1 7 j ≤ 1499 := fun j => hT.2 7 j
                    have A25 : ∀ j, 0 ≤ τ22.2.1 25 j ∧ τ22.2.1 25 j ≤ 20000 := fun j => hT.2 25 j
                    have A26 : ∀ j, 0 ≤ τ22.2.1 26 j ∧ τ22.2.1 26 j ≤ 20000 := fun j => hT.2 26 j
                    have A28 : ∀ j, 0 ≤ τ22.2.1 28 j ∧ τ22.2.1 28 j ≤ 1 := fun j => hT.2 28 j
                    have v0 : 0 ≤ τ22.1 0 ∧ τ22.1 0 ≤ 60000 := hT.1 0
                    have v3 : 0 ≤ τ22.1 3 ∧ τ22.1 3 ≤ 1000 := hT.1 3
                    have v5 : 0 ≤ τ22.1 5 ∧ τ22.1 5 ≤ 1500 := hT.1 5
                    have v6 : 0 ≤ τ22.1 6 ∧ τ22.1 6 ≤ 30000 := hT.1 6
                    have v7 : 0 ≤ τ22.1 7 ∧ τ22.1 7 ≤ 90000 := hT.1 7
                    have v8 : 0 ≤ τ22.1 8 ∧ τ22.1 8 ≤ 20000 := hT.1 8
                    have v9 : 0 ≤ τ22.1 9 ∧ τ22.1 9 ≤ 20000 := hT.1 9
                    have v16 : 0 ≤ τ22.1 16 ∧ τ22.1 16 ≤ 60000 := hT.1 16
                    have v17 : 0 ≤ τ22.1 17 ∧ τ22.1 17 ≤ 60000 := hT.1 17
                    have v18 : 0 ≤ τ22.1 18 ∧ τ22.1 18 ≤ 60000 := hT.1 18
                    have v19 : (-1) ≤ τ22.1 19 ∧ τ22.1 19 ≤ 125 := hT.1 19
                    have v20 : 0 ≤ τ22.1 20 ∧ τ22.1 20 ≤ 19 := hT.1 20
                    have v22 : 0 ≤ τ22.1 22 ∧ τ22.1 22 ≤ 1499 := hT.1 22
                    have a0_17 : 0 ≤ τ22.2.1 0 (τ22.1 17) ∧ τ22.2.1 0 (τ22.1 17) ≤ 255 := hT.2 0 _
                    have a25_22 : 0 ≤ τ22.2.1 25 (τ22.1 22) ∧ τ22.2.1 25 (τ22.1 22) ≤ 20000 := hT.2 25 _
                    have a26_22 : 0 ≤ τ22.2.1 26 (τ22.1 22) ∧ τ22.2.1 26 (τ22.1 22) ≤ 20000 := hT.2 26 _
                    have a28_9 : 0 ≤ τ22.2.1 28 (τ22.1 9) ∧ τ22.2.1 28 (τ22.1 9) ≤ 1 := hT.2 28 _
                    have av9 : σ.1 9 ≤ τ22.1 9 := ag.1 9 (by decide)
                    exact ih_0 _ (show (3 * ((τ22.1 0) - (τ22.1 16)) + z_0 ((τ22.1 20)) + 1 - z_0 ((τ22.1 19)) : Int) < ((m_0 : Nat) : Int) from by (have zz0 := z_e ((τ22.1 20)); have zz1 := z_e ((τ22.1 19)); (first | omega | (simp only [st_s] <;> omega) | assumption | omega))) hT ag (show τ22.1 0 = σ.1 0 from by omega) (show τ22.1 3 = σ.1 3 from by omega) (show τ22.1 5 = σ.1 5 from by omega) (show τ22.1 6 = σ.1 6 from by omega) (show τ22.1 7 = σ.1 7 from by omega) (show τ22.1 8 = σ.1 8 from by omega) (show τ22.1 22 = σ.1 22 from by omega) G0 G6 G7 G25 (show (τ22.1 16) ≤ (τ22.1 0) from by (first | omega | (simp only [st_s] <;> omega) | assumption | omega)) (show (τ22.1 17) + (τ22.1 18) ≤ (τ22.1 0) from by (first | omega | (simp only [st_s] <;> omega) | assumption | omega)) (show oc (τ22.2.1 6) < 4096 from by (first | omega | (simp only [st_s] <;> omega) | assumption | omega)) (show oc (τ22.2.1 7) < 4096 from by (first | omega | (simp only [st_s] <;> omega) | assumption | omega)) (show τ22.2.1 25 (τ22.1 22) + τ22.2.1 26 (τ22.1 22) = (τ22.1 9) from Z4) (show ¬ (σ.1 20) = 0 → (τ22.1 20) = (σ.1 20) from by (first | omega | (simp only [st_s] <;> omega) | assumption | omega)) (show j_eq ((σ.1 9)) (σ.2.1 28) (τ22.2.1 28) from Y8) (show ca (τ22.2.1 28) ((τ22.1 9)) = ca (σ.2.1 28) ((σ.1 9)) from Y9) (show (σ.1 16) ≤ (τ22.1 16) from by (first | omega | (simp only [st_s] <;> omega) | assumption | omega))
                ·
                  refine ⟨_, K_X13_failHere hT (show 0 ≤ 13 from by (first | omega | (simp only [st_s] <;> omega) | assumption | omega)) (show 13 ≤ 19 from by (first | omega | (simp only [st_s] <;> omega) | assumption | omega)), ?_⟩
                  intro τ29 hn_τ29 hf_τ29 hq
                  obtain ⟨hT, q27_1, q27_2⟩ := hq
                  replace q27_1 : ¬ (τ_0.1 20) = 0 → (τ29.1 20) = (τ_0.1 20) := q27_1
                  replace q27_2 : (τ_0.1 20) = 0 → (τ29.1 20) = 13 := q27_2
                  replace ag : m_ag σ τ29 := ag_r ag hf_τ29 rfl rfl
                  have w0_τ29 : τ29.1 0 = τ_0.1 0 := hf_τ29.1 0 (by decide)
                  have w3_τ29 : τ29.1 3 = τ_0.1 3 := hf_τ29.1 3 (by decide)
                  have w5_τ29 : τ29.1 5 = τ_0.1 5 := hf_τ29.1 5 (by decide)
                  have w6_τ29 : τ29.1 6 = τ_0.1 6 := hf_τ29.1 6 (by decide)
                  have w7_τ29 : τ29.1 7 = τ_0.1 7 := hf_τ29.1 7 (by decide)
                  have w8_τ29 : τ29.1 8 = τ_0.1 8 := hf_τ29.1 8 (by decide)
                  have w9_τ29 : τ29.1 9 = τ_0.1 9 := hf_τ29.1 9 (by decide)
                  have w16_τ29 : τ29.1 16 = τ_0.1 16 := hf_τ29.1 16 (by decide)
                  have w17_τ29 : τ29.1 17 = τ_0.1 17 := hf_τ29.1 17 (by decide)
                  have w18_τ29 : τ29.1 18 = τ_0.1 18 := hf_τ29.1 18 (by decide)
                  have w19_τ29 : τ29.1 19 = τ_0.1 19 := hf_τ29.1 19 (by decide)
                  have w22_τ29 : τ29.1 22 = τ_0.1 22 := hf_τ29.1 22 (by decide)
                  have g0_τ29 : τ29.2.1 0 = τ_0.2.1 0 := hf_τ29.2.1 0 (by decide)
                  have g6_τ29 : τ29.2.1 6 = τ_0.2.1 6 := hf_τ29.2.1 6 (by decide)
                  have g7_τ29 : τ29.2.1 7 = τ_0.2.1 7 := hf_τ29.2.1 7 (by decide)
                  have g25_τ29 : τ29.2.1 25 = τ_0.2.1 25 := hf_τ29.2.1 25 (by decide)
                  have g26_τ29 : τ29.2.1 26 = τ_0.2.1 26 := hf_τ29.2.1 26 (by decide)
                  have g28_τ29 : τ29.2.1 28 = τ_0.2.1 28 := hf_τ29.2.1 28 (by decide)
                  first | (have o6_τ29 := congrArg oc g6_τ29) | skip
                  first | (have o7_τ29 := congrArg oc g7_τ29) | skip
                  have W0 : τ29.1 0 = σ.1 0 := by omega
                  have W3 : τ29.1 3 = σ.1 3 := by omega
                  have W5 : τ29.1 5 = σ.1 5 := by omega
                  have W6 : τ29.1 6 = σ.1 6 := by omega
                  have W7 : τ29.1 7 = σ.1 7 := by omega
                  have W8 : τ29.1 8 = σ.1 8 := by omega
                  have W22 : τ29.1 22 = σ.1 22 := by omega
                  have G0 : τ29.2.1 0 = σ.2.1 0 := (g0_τ29).trans G0
                  have G6 : τ29.2.1 6 = σ.2.1 6 := (g6_τ29).trans G6
                  have G7 : τ29.2.1 7 = σ.2.1 7 := (g7_τ29).trans G7
                  have G25 : τ29.2.1 25 = σ.2.1 25 := (g25_τ29).trans G25
                  have y0_17_τ29 : τ29.2.1 0 (τ29.1 17) = (τ_0.2.1 0) (τ_0.1 17) := by rw [g0_τ29, w17_τ29]
                  have y25_22_τ29 : τ29.2.1 25 (τ29.1 22) = (τ_0.2.1 25) (τ_0.1 22) := by rw [g25_τ29, w22_τ29]
                  have y26_22_τ29 : τ29.2.1 26 (τ29.1 22) = (τ_0.2.1 26) (τ_0.1 22) := by rw [g26_τ29, w22_τ29]
                  have y28_9_τ29 : τ29.2.1 28 (τ29.1 9) = (τ_0.2.1 28) (τ_0.1 9) := by rw [g28_τ29, w9_τ29]
                  have Z4 : τ29.2.1 25 (τ29.1 22) + τ29.2.1 26 (τ29.1 22) = (τ29.1 9) := by rw [show (τ29.2.1 25 (τ29.1 22) + τ29.2.1 26 (τ29.1 22) = (τ29.1 9)) = (τ_0.2.1 25 (τ_0.1 22) + τ_0.2.1 26 (τ_0.1 22) = (τ_0.1 9)) from by rw [w9_τ29, w22_τ29, g25_τ29, g26_τ29]]; exact Z4
                  have Y8 : j_eq ((σ.1 9)) (σ.2.1 28) (τ29.2.1 28) := by rw [show (j_eq ((σ.1 9)) (σ.2.1 28) (τ29.2.1 28)) = (j_eq ((σ.1 9)) (σ.2.1 28) (τ_0.2.1 28)) from by rw [g28_τ29]]; exact Y8
                  have Y9 : ca (τ29.2.1 28) ((τ29.1 9)) = ca (σ.2.1 28) ((σ.1 9)) := by rw [show (ca (τ29.2.1 28) ((τ29.1 9)) = ca (σ.2.1 28) ((σ.1 9))) = (ca (τ_0.2.1 28) ((τ_0.1 9)) = ca (σ.2.1 28) ((σ.1 9))) from by rw [w9_τ29, g28_τ29]]; exact Y9
                  have A0 : ∀ j, 0 ≤ τ29.2.1 0 j ∧ τ29.2.1 0 j ≤ 255 := fun j => hT.2 0 j
                  have A6 : ∀ j, (-1) ≤ τ29.2.1 6 j ∧ τ29.2.1 6 j ≤ 999 := fun j => hT.2 6 j
                  have A7 : ∀ j, (-1) ≤ τ29.2.1 7 j ∧ τ29.2.1 7 j ≤ 1499 := fun j => hT.2 7 j
                  have A25 : ∀ j, 0 ≤ τ29.2.1 25 j ∧ τ29.2.1 25 j ≤ 20000 := fun j => hT.2 25 j
                  have A26 : ∀ j, 0 ≤ τ29.2.1 26 j ∧ τ29.2.1 26 j ≤ 20000 := fun j => hT.2 26 j
                  have A28 : ∀ j, 0 ≤ τ29.2.1 28 j ∧ τ29.2.1 28 j ≤ 1 := fun j => hT.2 28 j
                  have v0 : 0 ≤ τ29.1 0 ∧ τ29.1 0 ≤ 60000 := hT.1 0
                  have v3 : 0 ≤ τ29.1 3 ∧ τ29.1 3 ≤ 1000 := hT.1 3
                  have v5 : 0 ≤ τ29.1 5 ∧ τ29.1 5 ≤ 1500 := hT.1 5
                  have v6 : 0 ≤ τ29.1 6 ∧ τ29.1 6 ≤ 30000 := hT.1 6
                  have v7 : 0 ≤ τ29.1 7 ∧ τ29.1 7 ≤ 90000 := hT.1 7
                  have v8 : 0 ≤ τ29.1 8 ∧ τ29.1 8 ≤ 20000 := hT.1 8
                  have v9 : 0 ≤ τ29.1 9 ∧ τ29.1 9 ≤ 20000 := hT.1 9
                  have v16 : 0 ≤ τ29.1 16 ∧ τ29.1 16 ≤ 60000 := hT.1 16
                  have v17 : 0 ≤ τ29.1 17 ∧ τ29.1 17 ≤ 60000 := hT.1 17
                  have v18 : 0 ≤ τ29.1 18 ∧ τ29.1 18 ≤ 60000 := hT.1 18
                  have v19 : (-1) ≤ τ29.1 19 ∧ τ29.1 19 ≤ 125 := hT.1 19
                  have v20 : 0 ≤ τ29.1 20 ∧ τ29.1 20 ≤ 19 := hT.1 20
                  have v22 : 0 ≤ τ29.1 22 ∧ τ29.1 22 ≤ 1499 := hT.1 22
                  have a0_17 : 0 ≤ τ29.2.1 0 (τ29.1 17) ∧ τ29.2.1 0 (τ29.1 17) ≤ 255 := hT.2 0 _
                  have a25_22 : 0 ≤ τ29.2.1 25 (τ29.1 22) ∧ τ29.2.1 25 (τ29.1 22) ≤ 20000 := hT.2 25 _
                  have a26_22 : 0 ≤ τ29.2.1 26 (τ29.1 22) ∧ τ29.2.1 26 (τ29.1 22) ≤ 20000 := hT.2 26 _
                  have a28_9 : 0 ≤ τ29.2.1 28 (τ29.1 9) ∧ τ29.2.1 28 (τ29.1 9) ≤ 1 := hT.2 28 _
                  have av9 : σ.1 9 ≤ τ29.1 9 := ag.1 9 (by decide)
                  refine h111 _ ?_
                  refine ⟨fun c19 => ?_, fun c19 => ?_⟩
                  ·
                    exact ih_0 _ (show (3 * ((τ29.1 0) - (τ29.1 16)) + z_0 ((τ29.1 20)) + 1 - z_0 ((τ29.1 19)) : Int) < ((m_0 : Nat) : Int) from by (have zz0 := z_e ((τ29.1 20)); have zz1 := z_e ((τ29.1 19)); (first | omega | (simp only [st_s] <;> omega) | assumption | omega))) hT ag (show τ29.1 0 = σ.1 0 from by omega) (show τ29.1 3 = σ.1 3 from by omega) (show τ29.1 5 = σ.1 5 from by omega) (show τ29.1 6 = σ.1 6 from by omega) (show τ29.1 7 = σ.1 7 from by omega) (show τ29.1 8 = σ.1 8 from by omega) (show τ29.1 22 = σ.1 22 from by omega) G0 G6 G7 G25 (show (τ29.1 16) ≤ (τ29.1 0) from by (first | omega | (simp only [st_s] <;> omega) | assumption | omega)) (show (τ29.1 17) + (τ29.1 18) ≤ (τ29.1 0) from by (first | omega | (simp only [st_s] <;> omega) | assumption | omega)) (show oc (τ29.2.1 6) < 4096 from by (first | omega | (simp only [st_s] <;> omega) | assumption | omega)) (show oc (τ29.2.1 7) < 4096 from by (first | omega | (simp only [st_s] <;> omega) | assumption | omega)) (show τ29.2.1 25 (τ29.1 22) + τ29.2.1 26 (τ29.1 22) = (τ29.1 9) from Z4) (show ¬ (σ.1 20) = 0 → (τ29.1 20) = (σ.1 20) from by (first | omega | (simp only [st_s] <;> omega) | assumption | omega)) (show j_eq ((σ.1 9)) (σ.2.1 28) (τ29.2.1 28) from Y8) (show ca (τ29.2.1 28) ((τ29.1 9)) = ca (σ.2.1 28) ((σ.1 9)) from Y9) (show (σ.1 16) ≤ (τ29.1 16) from by (first | omega | (simp only [st_s] <;> omega) | assumption | omega))
                  ·
                    refine ⟨_, K_X13_next hT (show (τ29.1 16) ≤ (τ29.1 0) from by (first | omega | (simp only [st_s] <;> omega) | assumption | omega)), ?_⟩
                    intro τ22 hn_τ22 hf_τ22 hq
                    obtain ⟨hT, q20_1, q20_2, q20_3, q20_4, q20_5⟩ := hq
                    replace q20_1 : (τ22.1 16) ≤ (τ22.1 0) := q20_1
                    replace q20_2 : (τ22.1 17) + (τ22.1 18) ≤ (τ22.1 0) := q20_2
                    replace q20_3 : (τ29.1 16) ≤ (τ22.1 16) := q20_3
                    replace q20_4 : ¬ (τ29.1 20) = 0 → (τ22.1 20) = (τ29.1 20) := q20_4
                    replace q20_5 : (τ22.1 20) = 0 → ¬ (τ22.1 19) = 0 → (τ29.1 16) < (τ22.1 16) ∧ 0 < (τ22.1 18) := q20_5
                    replace ag : m_ag σ τ22 := ag_r ag hf_τ22 rfl rfl
                    have w0_τ22 : τ22.1 0 = τ29.1 0 := hf_τ22.1 0 (by decide)
                    have w3_τ22 : τ22.1 3 = τ29.1 3 := hf_τ22.1 3 (by decide)
                    have w5_τ22 : τ22.1 5 = τ29.1 5 := hf_τ22.1 5 (by decide)
                    have w6_τ22 : τ22.1 6 = τ29.1 6 := hf_τ22.1 6 (by decide)
                    have w7_τ22 : τ22.1 7 = τ29.1 7 := hf_τ22.1 7 (by decide)
                    have w8_τ22 : τ22.1 8 = τ29.1 8 := hf_τ22.1 8 (by decide)
                    have w9_τ22 : τ22.1 9 = τ29.1 9 := hf_τ22.1 9 (by decide)
                    have w22_τ22 : τ22.1 22 = τ29.1 22 := hf_τ22.1 22 (by decide)
                    have g0_τ22 : τ22.2.1 0 = τ29.2.1 0 := hf_τ22.2.1 0 (by decide)
                    have g6_τ22 : τ22.2.1 6 = τ29.2.1 6 := hf_τ22.2.1 6 (by decide)
                    have g7_τ22 : τ22.2.1 7 = τ29.2.1 7 := hf_τ22.2.1 7 (by decide)
                    have g25_τ22 : τ22.2.1 25 = τ29.2.1 25 := hf_τ22.2.1 25 (by decide)
                    have g26_τ22 : τ22.2.1 26 = τ29.2.1 26 := hf_τ22.2.1 26 (by decide)
                    have g28_τ22 : τ22.2.1 28 = τ29.2.1 28 := hf_τ22.2.1 28 (by decide)
                    first | (have o6_τ22 := congrArg oc g6_τ22) | skip
                    first | (have o7_τ22 := congrArg oc g7_τ22) | skip
                    have W0 : τ22.1 0 = σ.1 0 := by omega
                    have W3 : τ22.1 3 = σ.1 3 := by omega
                    have W5 : τ22.1 5 = σ.1 5 := by omega
                    have W6 : τ22.1 6 = σ.1 6 := by omega
                    have W7 : τ22.1 7 = σ.1 7 := by omega
                    have W8 : τ22.1 8 = σ.1 8 := by omega
                    have W22 : τ22.1 22 = σ.1 22 := by omega
                    have G0 : τ22.2.1 0 = σ.2.1 0 := (g0_τ22).trans G0
                    have G6 : τ22.2.1 6 = σ.2.1 6 := (g6_τ22).trans G6
                    have G7 : τ22.2.1 7 = σ.2.1 7 := (g7_τ22).trans G7
                    have G25 : τ22.2.1 25 = σ.2.1 25 := (g25_τ22).trans G25
                    have y25_22_τ22 : τ22.2.1 25 (τ22.1 22) = (τ29.2.1 25) (τ29.1 22) := by rw [g25_τ22, w22_τ22]
                    have y26_22_τ22 : τ22.2.1 26 (τ22.1 22) = (τ29.2.1 26) (τ29.1 22) := by rw [g26_τ22, w22_τ22]
                    have y28_9_τ22 : τ22.2.1 28 (τ22.1 9) = (τ29.2.1 28) (τ29.1 9) := by rw [g28_τ22, w9_τ22]
                    have Z4 : τ22.2.1 25 (τ22.1 22) + τ22.2.1 26 (τ22.1 22) = (τ22.1 9) := by rw [show (τ22.2.1 25 (τ22.1 22) + τ22.2.1 26 (τ22.1 22) = (τ22.1 9)) = (τ29.2.1 25 (τ29.1 22) + τ29.2.1 26 (τ29.1 22) = (τ29.1 9)) from by rw [w9_τ22, w22_τ22, g25_τ22, g26_τ22]]; exact Z4
                    have Y8 : j_eq ((σ.1 9)) (σ.2.1 28) (τ22.2.1 28) := by rw [show (j_eq ((σ.1 9)) (σ.2.1 28) (τ22.2.1 28)) = (j_eq ((σ.1 9)) (σ.2.1 28) (τ29.2.1 28)) from by rw [g28_τ22]]; exact Y8
                    have Y9 : ca (τ22.2.1 28) ((τ22.1 9)) = ca (σ.2.1 28) ((σ.1 9)) := by rw [show (ca (τ22.2.1 28) ((τ22.1 9)) = ca (σ.2.1 28) ((σ.1 9))) = (ca (τ29.2.1 28) ((τ29.1 9)) = ca (σ.2.1 28) ((σ.1 9))) from by rw [w9_τ22, g28_τ22]]; exact Y9
                    have A0 : ∀ j, 0 ≤ τ22.2.1 0 j ∧ τ22.2.1 0 j ≤ 255 := fun j => hT.2 0 j
                    have A6 : ∀ j, (-1) ≤ τ22.2.1 6 j ∧ τ22.2.1 6 j ≤ 999 := fun j => hT.2 6 j
                    have A7 : ∀ j, (-1) ≤ τ22.2.1 7 j ∧ τ22.2.1 7 j ≤ 1499 := fun j => hT.2 7 j
                    have A25 : ∀ j, 0 ≤ τ22.2.1 25 j ∧ τ22.2.1 25 j ≤ 20000 := fun j => hT.2 25 j
                    have A26 : ∀ j, 0 ≤ τ22.2.1 26 j ∧ τ22.2.1 26 j ≤ 20000 := fun j => hT.2 26 j
                    have A28 : ∀ j, 0 ≤ τ22.2.1 28 j ∧ τ22.2.1 28 j ≤ 1 := fun j => hT.2 28 j
                    have v0 : 0 ≤ τ22.1 0 ∧ τ22.1 0 ≤ 60000 := hT.1 0
                    have v3 : 0 ≤ τ22.1 3 ∧ τ22.1 3 ≤ 1000 := hT.1 3
                    have v5 : 0 ≤ τ22.1 5 ∧ τ22.1 5 ≤ 1500 := hT.1 5
                    have v6 : 0 ≤ τ22.1 6 ∧ τ22.1 6 ≤ 30000 := hT.1 6
                    have v7 : 0 ≤ τ22.1 7 ∧ τ22.1 7 ≤ 90000 := hT.1 7
                    have v8 : 0 ≤ τ22.1 8 ∧ τ22.1 8 ≤ 20000 := hT.1 8
                    have v9 : 0 ≤ τ22.1 9 ∧ τ22.1 9 ≤ 20000 := hT.1 9
                    have v16 : 0 ≤ τ22.1 16 ∧ τ22.1 16 ≤ 60000 := hT.1 16
                    have v17 : 0 ≤ τ22.1 17 ∧ τ22.1 17 ≤ 60000 := hT.1 17
                    have v18 : 0 ≤ τ22.1 18 ∧ τ22.1 18 ≤ 60000 := hT.1 18
                    have v19 : (-1) ≤ τ22.1 19 ∧ τ22.1 19 ≤ 125 := hT.1 19
                    have v20 : 0 ≤ τ22.1 20 ∧ τ22.1 20 ≤ 19 := hT.1 20
                    have v22 : 0 ≤ τ22.1 22 ∧ τ22.1 22 ≤ 1499 := hT.1 22
                    have a0_17 : 0 ≤ τ22.2.1 0 (τ22.1 17) ∧ τ22.2.1 0 (τ22.1 17) ≤ 255 := hT.2 0 _
                    have a25_22 : 0 ≤ τ22.2.1 25 (τ22.1 22) ∧ τ22.2.1 25 (τ22.1 22) ≤ 20000 := hT.2 25 _
                    have a26_22 : 0 ≤ τ22.2.1 26 (τ22.1 22) ∧ τ22.2.1 26 (τ22.1 22) ≤ 20000 := hT.2 26 _
                    have a28_9 : 0 ≤ τ22.2.1 28 (τ22.1 9) ∧ τ22.2.1 28 (τ22.1 9) ≤ 1 := hT.2 28 _
                    have av9 : σ.1 9 ≤ τ22.1 9 := ag.1 9 (by decide)
                    exact ih_0 _ (show (3 * ((τ22.1 0) - (τ22.1 16)) + z_0 ((τ22.1 20)) + 1 - z_0 ((τ22.1 19)) : Int) < ((m_0 : Nat) : Int) from by (have zz0 := z_e ((τ22.1 20)); have zz1 := z_e ((τ22.1 19)); (first | omega | (simp only [st_s] <;> omega) | assumption | omega))) hT ag (show τ22.1 0 = σ.1 0 from by omega) (show τ22.1 3 = σ.1 3 from by omega) (show τ22.1 5 = σ.1 5 from by omega) (show τ22.1 6 = σ.1 6 from by omega) (show τ22.1 7 = σ.1 7 from by omega) (show τ22.1 8 = σ.1 8 from by omega) (show τ22.1 22 = σ.1 22 from by omega) G0 G6 G7 G25 (show (τ22.1 16) ≤ (τ22.1 0) from by (first | omega | (simp only [st_s] <;> omega) | assumption | omega)) (show (τ22.1 17) + (τ22.1 18) ≤ (τ22.1 0) from by (first | omega | (simp only [st_s] <;> omega) | assumption | omega)) (show oc (τ22.2.1 6) < 4096 from by (first | omega | (simp only [st_s] <;> omega) | assumption | omega)) (show oc (τ22.2.1 7) < 4096 from by (first | omega | (simp only [st_s] <;> omega) | assumption | omega)) (show τ22.2.1 25 (τ22.1 22) + τ22.2.1 26 (τ22.1 22) = (τ22.1 9) from Z4) (show ¬ (σ.1 20) = 0 → (τ22.1 20) = (σ.1 20) from by (first | omega | (simp only [st_s] <;> omega) | assumption | omega)) (show j_eq ((σ.1 9)) (σ.2.1 28) (τ22.2.1 28) from Y8) (show ca (τ22.2.1 28) ((τ22.1 9)) = ca (σ.2.1 28) ((σ.1 9)) from Y9) (show (σ.1 16) ≤ (τ22.1 16) from by (first | omega | (simp only [st_s] <;> omega) | assumption | omega))
              ·
                refine ⟨fun c15 => ?_, fun c15 => ?_⟩
                ·
                  refine h88 _ _ ?_
                  refine ⟨fun c23 => ?_, fun c23 => ?_⟩
                  ·
                    refine ⟨_, K_X13_addStep hT (show -300 ≤ x12 from by (first | omega | (simp only [st_s] <;> omega) | assumption | omega)) (show x12 ≤ 1499 from by (first | omega | (simp only [st_s] <;> omega) | assumption | omega)) (show 0 ≤ (τ_0.1 17) from by (first | omega | (simp only [st_s] <;> omega) | assumption | omega)) (show (τ_0.1 17) ≤ 60000 from by (first | omega | (simp only [st_s] <;> omega) | assumption | omega)) (show (τ_0.1 9) < 20000 from by (first | omega | (simp only [st_s] <;> omega) | assumption | omega)) (show τ_0.2.1 26 (τ_0.1 22) < 20000 from by (first | omega | (simp only [st_s] <;> omega) | assumption | omega)) (show (τ_0.1 22) = (τ_0.1 5) from by (first | omega | (simp only [st_s] <;> omega) | assumption | omega)), ?_⟩
                    intro τ26 hn_τ26 hf_τ26 hq
                    obtain ⟨hT, q24_1, q24_2, q24_3, q24_4, q24_5, q24_6, q24_7⟩ := hq
                    replace q24_1 : (τ26.1 9) = (τ_0.1 9) + 1 := q24_1
                    replace q24_2 : τ26.2.1 26 (τ26.1 22) = τ_0.2.1 26 (τ_0.1 22) + 1 := q24_2
                    replace q24_3 : τ26.2.1 27 = st (τ_0.2.1 27) (τ_0.1 9) x12 := q24_3
                    replace q24_4 : j_eq ((τ_0.1 9)) (τ_0.2.1 28) (τ26.2.1 28) := q24_4
                    replace q24_5 : ca (τ26.2.1 28) ((τ26.1 9)) = ca (τ_0.2.1 28) ((τ_0.1 9)) := q24_5
                    replace q24_6 : τ26.2.1 28 (τ_0.1 9) = 0 := q24_6
                    replace q24_7 : m_ag τ_0 τ26 := q24_7
                    replace ag : m_ag σ τ26 := ag_t ag q24_7 rfl
                    have w0_τ26 : τ26.1 0 = τ_0.1 0 := hf_τ26.1 0 (by decide)
                    have w3_τ26 : τ26.1 3 = τ_0.1 3 := hf_τ26.1 3 (by decide)
                    have w5_τ26 : τ26.1 5 = τ_0.1 5 := hf_τ26.1 5 (by decide)
                    have w6_τ26 : τ26.1 6 = τ_0.1 6 := hf_τ26.1 6 (by decide)
                    have w7_τ26 : τ26.1 7 = τ_0.1 7 := hf_τ26.1 7 (by decide)
                    have w8_τ26 : τ26.1 8 = τ_0.1 8 := hf_τ26.1 8 (by decide)
                    have w16_τ26 : τ26.1 16 = τ_0.1 16 := hf_τ26.1 16 (by decide)
                    have w17_τ26 : τ26.1 17 = τ_0.1 17 := hf_τ26.1 17 (by decide)
                    have w18_τ26 : τ26.1 18 = τ_0.1 18 := hf_τ26.1 18 (by decide)
                    have w19_τ26 : τ26.1 19 = τ_0.1 19 := hf_τ26.1 19 (by decide)
                    have w20_τ26 : τ26.1 20 = τ_0.1 20 := hf_τ26.1 20 (by decide)
                    have w22_τ26 : τ26.1 22 = τ_0.1 22 := hf_τ26.1 22 (by decide)
                    have g0_τ26 : τ26.2.1 0 = τ_0.2.1 0 := hf_τ26.2.1 0 (by decide)
                    have g6_τ26 : τ26.2.1 6 = τ_0.2.1 6 := hf_τ26.2.1 6 (by decide)
                    have g7_τ26 : τ26.2.1 7 = τ_0.2.1 7 := hf_τ26.2.1 7 (by decide)
                    have g25_τ26 : τ26.2.1 25 = τ_0.2.1 25 := hf_τ26.2.1 25 (by decide)
                    first | (have o6_τ26 := congrArg oc g6_τ26) | skip
                    first | (have o7_τ26 := congrArg oc g7_τ26) | skip
                    have W0 : τ26.1 0 = σ.1 0 := by omega
                    have W3 : τ26.1 3 = σ.1 3 := by omega
                    have W5 : τ26.1 5 = σ.1 5 := by omega
                    have W6 : τ26.1 6 = σ.1 6 := by omega
                    have W7 : τ26.1 7 = σ.1 7 := by omega
                    have W8 : τ26.1 8 = σ.1 8 := by omega
                    have W22 : τ26.1 22 = σ.1 22 := by omega
                    have G0 : τ26.2.1 0 = σ.2.1 0 := (g0_τ26).trans G0
                    have G6 : τ26.2.1 6 = σ.2.1 6 := (g6_τ26).trans G6
                    have G7 : τ26.2.1 7 = σ.2.1 7 := (g7_τ26).trans G7
                    have G25 : τ26.2.1 25 = σ.2.1 25 := (g25_τ26).trans G25
                    have y0_17_τ26 : τ26.2.1 0 (τ26.1 17) = (τ_0.2.1 0) (τ_0.1 17) := by rw [g0_τ26, w17_τ26]
                    have y25_22_τ26 : τ26.2.1 25 (τ26.1 22) = (τ_0.2.1 25) (τ_0.1 22) := by rw [g25_τ26, w22_τ26]
                    have A0 : ∀ j, 0 ≤ τ26.2.1 0 j ∧ τ26.2.1 0 j ≤ 255 := fun j => hT.2 0 j
                    have A6 : ∀ j, (-1) ≤ τ26.2.1 6 j ∧ τ26.2.1 6 j ≤ 999 := fun j => hT.2 6 j
                    have A7 : ∀ j, (-1) ≤ τ26.2.1 7 j ∧ τ26.2.1 7 j ≤ 1499 := fun j => hT.2 7 j
                    have A25 : ∀ j, 0 ≤ τ26.2.1 25 j ∧ τ26.2.1 25 j ≤ 20000 := fun j => hT.2 25 j
                    have A26 : ∀ j, 0 ≤ τ26.2.1 26 j ∧ τ26.2.1 26 j ≤ 20000 := fun j => hT.2 26 j
                    have A28 : ∀ j, 0 ≤ τ26.2.1 28 j ∧ τ26.2.1 28 j ≤ 1 := fun j => hT.2 28 j
                    have v0 : 0 ≤ τ26.1 0 ∧ τ26.1 0 ≤ 60000 := hT.1 0
                    have v3 : 0 ≤ τ26.1 3 ∧ τ26.1 3 ≤ 1000 := hT.1 3
                    have v5 : 0 ≤ τ26.1 5 ∧ τ26.1 5 ≤ 1500 := hT.1 5
                    have v6 : 0 ≤ τ26.1 6 ∧ τ26.1 6 ≤ 30000 := hT.1 6
                    have v7 : 0 ≤ τ26.1 7 ∧ τ26.1 7 ≤ 90000 := hT.1 7
                    have v8 : 0 ≤ τ26.1 8 ∧ τ26.1 8 ≤ 20000 := hT.1 8
                    have v9 : 0 ≤ τ26.1 9 ∧ τ26.1 9 ≤ 20000 := hT.1 9
                    have v16 : 0 ≤ τ26.1 16 ∧ τ26.1 16 ≤ 60000 := hT.1 16
                    have v17 : 0 ≤ τ26.1 17 ∧ τ26.1 17 ≤ 60000 := hT.1 17
                    have v18 : 0 ≤ τ26.1 18 ∧ τ26.1 18 ≤ 60000 := hT.1 18
                    have v19 : (-1) ≤ τ26.1 19 ∧ τ26.1 19 ≤ 125 := hT.1 19
                    have v20 : 0 ≤ τ26.1 20 ∧ τ26.1 20 ≤ 19 := hT.1 20
                    have v22 : 0 ≤ τ26.1 22 ∧ τ26.1 22 ≤ 1499 := hT.1 22
                    have a0_17 : 0 ≤ τ26.2.1 0 (τ26.1 17) ∧ τ26.2.1 0 (τ26.1 17) ≤ 255 := hT.2 0 _
                    have a25_22 : 0 ≤ τ26.2.1 25 (τ26.1 22) ∧ τ26.2.1 25 (τ26.1 22) ≤ 20000 := hT.2 25 _
                    have a26_22 : 0 ≤ τ26.2.1 26 (τ26.1 22) ∧ τ26.2.1 26 (τ26.1 22) ≤ 20000 := hT.2 26 _
                    have a28_9 : 0 ≤ τ26.2.1 28 (τ26.1 9) ∧ τ26.2.1 28 (τ26.1 9) ≤ 1 := hT.2 28 _
                    have av9 : σ.1 9 ≤ τ26.1 9 := ag.1 9 (by decide)
                    have Z4 : τ26.2.1 25 (τ26.1 22) + τ26.2.1 26 (τ26.1 22) = τ26.1 9 := by omega
                    have Y8 := j_eqt Y8 (j_eqw q24_4 (show σ.1 9 ≤ τ_0.1 9 from by omega))
                    have Y9 := q24_5.trans Y9
                    refine h111 _ ?_
                    refine ⟨fun c19 => ?_, fun c19 => ?_⟩
                    ·
                      exact ih_0 _ (show (3 * ((τ26.1 0) - (τ26.1 16)) + z_0 ((τ26.1 20)) + 1 - z_0 ((τ26.1 19)) : Int) < ((m_0 : Nat) : Int) from by (have zz0 := z_e ((τ26.1 20)); have zz1 := z_e ((τ26.1 19)); (first | omega | (simp only [st_s] <;> omega) | assumption | omega))) hT ag (show τ26.1 0 = σ.1 0 from by omega) (show τ26.1 3 = σ.1 3 from by omega) (show τ26.1 5 = σ.1 5 from by omega) (show τ26.1 6 = σ.1 6 from by omega) (show τ26.1 7 = σ.1 7 from by omega) (show τ26.1 8 = σ.1 8 from by omega) (show τ26.1 22 = σ.1 22 from by omega) G0 G6 G7 G25 (show (τ26.1 16) ≤ (τ26.1 0) from by (first | omega | (simp only [st_s] <;> omega) | assumption | omega)) (show (τ26.1 17) + (τ26.1 18) ≤ (τ26.1 0) from by (first | omega | (simp only [st_s] <;> omega) | assumption | omega)) (show oc (τ26.2.1 6) < 4096 from by (first | omega | (simp only [st_s] <;> omega) | assumption | omega)) (show oc (τ26.2.1 7) < 4096 from by (first | omega | (simp only [st_s] <;> omega) | assumption | omega)) (show τ26.2.1 25 (τ26.1 22) + τ26.2.1 26 (τ26.1 22) = (τ26.1 9) from Z4) (show ¬ (σ.1 20) = 0 → (τ26.1 20) = (σ.1 20) from by (first | omega | (simp only [st_s] <;> omega) | assumption | omega)) (show j_eq ((σ.1 9)) (σ.2.1 28) (τ26.2.1 28) from Y8) (show ca (τ26.2.1 28) ((τ26.1 9)) = ca (σ.2.1 28) ((σ.1 9)) from Y9) (show (σ.1 16) ≤ (τ26.1 16) from by (first | omega | (simp only [st_s] <;> omega) | assumption | omega))
                    ·
                      refine ⟨_, K_X13_next hT (show (τ26.1 16) ≤ (τ26.1 0) from by (first | omega | (simp only [st_s] <;> omega) | assumption | omega)), ?_⟩
                      intro τ22 hn_τ22 hf_τ22 hq
                      obtain ⟨hT, q20_1, q20_2, q20_3, q20_4, q20_5⟩ := hq
                      replace q20_1 : (τ22.1 16) ≤ (τ22.1 0) := q20_1
                      replace q20_2 : (τ22.1 17) + (τ22.1 18) ≤ (τ22.1 0) := q20_2
                      replace q20_3 : (τ26.1 16) ≤ (τ22.1 16) := q20_3
                      replace q20_4 : ¬ (τ26.1 20) = 0 → (τ22.1 20) = (τ26.1 20) := q20_4
                      replace q20_5 : (τ22.1 20) = 0 → ¬ (τ22.1 19) = 0 → (τ26.1 16) < (τ22.1 16) ∧ 0 < (τ22.1 18) := q20_5
                      replace ag : m_ag σ τ22 := ag_r ag hf_τ22 rfl rfl
                      have w0_τ22 : τ22.1 0 = τ26.1 0 := hf_τ22.1 0 (by decide)
                      have w3_τ22 : τ22.1 3 = τ26.1 3 := hf_τ22.1 3 (by decide)
                      have w5_τ22 : τ22.1 5 = τ26.1 5 := hf_τ22.1 5 (by decide)
                      have w6_τ22 : τ22.1 6 = τ26.1 6 := hf_τ22.1 6 (by decide)
                      have w7_τ22 : τ22.1 7 = τ26.1 7 := hf_τ22.1 7 (by decide)
                      have w8_τ22 : τ22.1 8 = τ26.1 8 := hf_τ22.1 8 (by decide)
                      have w9_τ22 : τ22.1 9 = τ26.1 9 := hf_τ22.1 9 (by decide)
                      have w22_τ22 : τ22.1 22 = τ26.1 22 := hf_τ22.1 22 (by decide)
                      have g0_τ22 : τ22.2.1 0 = τ26.2.1 0 := hf_τ22.2.1 0 (by decide)
                      have g6_τ22 : τ22.2.1 6 = τ26.2.1 6 := hf_τ22.2.1 6 (by decide)
                      have g7_τ22 : τ22.2.1 7 = τ26.2.1 7 := hf_τ22.2.1 7 (by decide)
                      have g25_τ22 : τ22.2.1 25 = τ26.2.1 25 := hf_τ22.2.1 25 (by decide)
                      have g26_τ22 : τ22.2.1 26 = τ26.2.1 26 := hf_τ22.2.1 26 (by decide)
                      have g28_τ22 : τ22.2.1 28 = τ26.2.1 28 := hf_τ22.2.1 28 (by decide)
                      first | (have o6_τ22 := congrArg oc g6_τ22) | skip
                      first | (have o7_τ22 := congrArg oc g7_τ22) | skip
                      have W0 : τ22.1 0 = σ.1 0 := by omega
                      have W3 : τ22.1 3 = σ.1 3 := by omega
                      have W5 : τ22.1 5 = σ.1 5 := by omega
                      have W6 : τ22.1 6 = σ.1 6 := by omega
                      have W7 : τ22.1 7 = σ.1 7 := by omega
                      have W8 : τ22.1 8 = σ.1 8 := by omega
                      have W22 : τ22.1 22 = σ.1 22 := by omega
                      have G0 : τ22.2.1 0 = σ.2.1 0 := (g0_τ22).trans G0
                      have G6 : τ22.2.1 6 = σ.2.1 6 := (g6_τ22).trans G6
                      have G7 : τ22.2.1 7 = σ.2.1 7 := (g7_τ22).trans G7
                      have G25 : τ22.2.1 25 = σ.2.1 25 := (g25_τ22).trans G25
                      have y25_22_τ22 : τ22.2.1 25 (τ22.1 22) = (τ26.2.1 25) (τ26.1 22) := by rw [g25_τ22, w22_τ22]
                      have y26_22_τ22 : τ22.2.1 26 (τ22.1 22) = (τ26.2.1 26) (τ26.1 22) := by rw [g26_τ22, w22_τ22]
                      have y28_9_τ22 : τ22.2.1 28 (τ22.1 9) = (τ26.2.1 28) (τ26.1 9) := by rw [g28_τ22, w9_τ22]
                      have Z4 : τ22.2.1 25 (τ22.1 22) + τ22.2.1 26 (τ22.1 22) = (τ22.1 9) := by rw [show (τ22.2.1 25 (τ22.1 22) + τ22.2.1 26 (τ22.1 22) = (τ22.1 9)) = (τ26.2.1 25 (τ26.1 22) + τ26.2.1 26 (τ26.1 22) = (τ26.1 9)) from by rw [w9_τ22, w22_τ22, g25_τ22, g26_τ22]]; exact Z4
                      have Y8 : j_eq ((σ.1 9)) (σ.2.1 28) (τ22.2.1 28) := by rw [show (j_eq ((σ.1 9)) (σ.2.1 28) (τ22.2.1 28)) = (j_eq ((σ.1 9)) (σ.2.1 28) (τ26.2.1 28)) from by rw [g28_τ22]]; exact Y8
                      have Y9 : ca (τ22.2.1 28) ((τ22.1 9)) = ca (σ.2.1 28) ((σ.1 9)) := by rw [show (ca (τ22.2.1 28) ((τ22.1 9)) = ca (σ.2.1 28) ((σ.1 9))) = (ca (τ26.2.1 28) ((τ26.1 9)) = ca (σ.2.1 28) ((σ.1 9))) from by rw [w9_τ22, g28_τ22]]; exact Y9
                      have A0 : ∀ j, 0 ≤ τ22.2.1 0 j ∧ τ22.2.1 0 j ≤ 255 := fun j => hT.2 0 j
                      have A6 : ∀ j, (-1) ≤ τ22.2.1 6 j ∧ τ22.2.1 6 j ≤ 999 := fun j => hT.2 6 j
                      have A7 : ∀ j, (-1) ≤ τ22.2.1 7 j ∧ τ22.2.1 7 j ≤ 1499 := fun j => hT.2 7 j
                      have A25 : ∀ j, 0 ≤ τ22.2.1 25 j ∧ τ22.2.1 25 j ≤ 20000 := fun j => hT.2 25 j
                      have A26 : ∀ j, 0 ≤ τ22.2.1 26 j ∧ τ22.2.1 26 j ≤ 20000 := fun j => hT.2 26 j
                      have A28 : ∀ j, 0 ≤ τ22.2.1 28 j ∧ τ22.2.1 28 j ≤ 1 := fun j => hT.2 28 j
                      have v0 : 0 ≤ τ22.1 0 ∧ τ22.1 0 ≤ 60000 := hT.1 0
                      have v3 : 0 ≤ τ22.1 3 ∧ τ22.1 3 ≤ 1000 := hT.1 3
                      have v5 : 0 ≤ τ22.1 5 ∧ τ22.1 5 ≤ 1500 := hT.1 5
                      have v6 : 0 ≤ τ22.1 6 ∧ τ22.1 6 ≤ 30000 := hT.1 6
                      have v7 : 0 ≤ τ22.1 7 ∧ τ22.1 7 ≤ 90000 := hT.1 7
                      have v8 : 0 ≤ τ22.1 8 ∧ τ22.1 8 ≤ 20000 := hT.1 8
                      have v9 : 0 ≤ τ22.1 9 ∧ τ22.1 9 ≤ 20000 := hT.1 9
                      have v16 : 0 ≤ τ22.1 16 ∧ τ22.1 16 ≤ 60000 := hT.1 16
                      have v17 : 0 ≤ τ22.1 17 ∧ τ22.1 17 ≤ 60000 := hT.1 17
                      have v18 : 0 ≤ τ22.1 18 ∧ τ22.1 18 ≤ 60000 := hT.1 18
                      have v19 : (-1) ≤ τ22.1 19 ∧ τ22.1 19 ≤ 125 := hT.1 19
                      have v20 : 0 ≤ τ22.1 20 ∧ τ22.1 20 ≤ 19 := hT.1 20
                      have v22 : 0 ≤ τ22.1 22 ∧ τ22.1 22 ≤ 1499 := hT.1 22
                      have a0_17 : 0 ≤ τ22.2.1 0 (τ22.1 17) ∧ τ22.2.1 0 (τ22.1 17) ≤ 255 := hT.2 0 _
                      have a25_22 : 0 ≤ τ22.2.1 25 (τ22.1 22) ∧ τ22.2.1 25 (τ22.1 22) ≤ 20000 := hT.2 25 _
                      have a26_22 : 0 ≤ τ22.2.1 26 (τ22.1 22) ∧ τ22.2.1 26 (τ22.1 22) ≤ 20000 := hT.2 26 _
                      have a28_9 : 0 ≤ τ22.2.1 28 (τ22.1 9) ∧ τ22.2.1 28 (τ22.1 9) ≤ 1 := hT.2 28 _
                      have av9 : σ.1 9 ≤ τ22.1 9 := ag.1 9 (by decide)
                      exact ih_0 _ (show (3 * ((τ22.1 0) - (τ22.1 16)) + z_0 ((τ22.1 20)) + 1 - z_0 ((τ22.1 19)) : Int) < ((m_0 : Nat) : Int) from by (have zz0 := z_e ((τ22.1 20)); have zz1 := z_e ((τ22.1 19)); (first | omega | (simp only [st_s] <;> omega) | assumption | omega))) hT ag (show τ22.1 0 = σ.1 0 from by omega) (show τ22.1 3 = σ.1 3 from by omega) (show τ22.1 5 = σ.1 5 from by omega) (show τ22.1 6 = σ.1 6 from by omega) (show τ22.1 7 = σ.1 7 from by omega) (show τ22.1 8 = σ.1 8 from by omega) (show τ22.1 22 = σ.1 22 from by omega) G0 G6 G7 G25 (show (τ22.1 16) ≤ (τ22.1 0) from by (first | omega | (simp only [st_s] <;> omega) | assumption | omega)) (show (τ22.1 17) + (τ22.1 18) ≤ (τ22.1 0) from by (first | omega | (simp only [st_s] <;> omega) | assumption | omega)) (show oc (τ22.2.1 6) < 4096 from by (first | omega | (simp only [st_s] <;> omega) | assumption | omega)) (show oc (τ22.2.1 7) < 4096 from by (first | omega | (simp only [st_s] <;> omega) | assumption | omega)) (show τ22.2.1 25 (τ22.1 22) + τ22.2.1 26 (τ22.1 22) = (τ22.1 9) from Z4) (show ¬ (σ.1 20) = 0 → (τ22.1 20) = (σ.1 20) from by (first | omega | (simp only [st_s] <;> omega) | assumption | omega)) (show j_eq ((σ.1 9)) (σ.2.1 28) (τ22.2.1 28) from Y8) (show ca (τ22.2.1 28) ((τ22.1 9)) = ca (σ.2.1 28) ((σ.1 9)) from Y9) (show (σ.1 16) ≤ (τ22.1 16) from by (first | omega | (simp only [st_s] <;> omega) | assumption | omega))
                  ·
                    refine ⟨_, K_X13_failHere hT (show 0 ≤ 13 from by (first | omega | (simp only [st_s] <;> omega) | assumption | omega)) (show 13 ≤ 19 from by (first | omega | (simp only [st_s] <;> omega) | assumption | omega)), ?_⟩
                    intro τ29 hn_τ29 hf_τ29 hq
                    obtain ⟨hT, q27_1, q27_2⟩ := hq
                    replace q27_1 : ¬ (τ_0.1 20) = 0 → (τ29.1 20) = (τ_0.1 20) := q27_1
                    replace q27_2 : (τ_0.1 20) = 0 → (τ29.1 20) = 13 := q27_2
                    replace ag : m_ag σ τ29 := ag_r ag hf_τ29 rfl rfl
                    have w0_τ29 : τ29.1 0 = τ_0.1 0 := hf_τ29.1 0 (by decide)
                    have w3_τ29 : τ29.1 3 = τ_0.1 3 := hf_τ29.1 3 (by decide)
                    have w5_τ29 : τ29.1 5 = τ_0.1 5 := hf_τ29.1 5 (by decide)
                    have w6_τ29 : τ29.1 6 = τ_0.1 6 := hf_τ29.1 6 (by decide)
                    have w7_τ29 : τ29.1 7 = τ_0.1 7 := hf_τ29.1 7 (by decide)
                    have w8_τ29 : τ29.1 8 = τ_0.1 8 := hf_τ29.1 8 (by decide)
                    have w9_τ29 : τ29.1 9 = τ_0.1 9 := hf_τ29.1 9 (by decide)
                    have w16_τ29 : τ29.1 16 = τ_0.1 16 := hf_τ29.1 16 (by decide)
                    have w17_τ29 : τ29.1 17 = τ_0.1 17 := hf_τ29.1 17 (by decide)
                    have w18_τ29 : τ29.1 18 = τ_0.1 18 := hf_τ29.1 18 (by decide)
                    have w19_τ29 : τ29.1 19 = τ_0.1 19 := hf_τ29.1 19 (by decide)
                    have w22_τ29 : τ29.1 22 = τ_0.1 22 := hf_τ29.1 22 (by decide)
                    have g0_τ29 : τ29.2.1 0 = τ_0.2.1 0 := hf_τ29.2.1 0 (by decide)
                    have g6_τ29 : τ29.2.1 6 = τ_0.2.1 6 := hf_τ29.2.1 6 (by decide)
                    have g7_τ29 : τ29.2.1 7 = τ_0.2.1 7 := hf_τ29.2.1 7 (by decide)
                    have g25_τ29 : τ29.2.1 25 = τ_0.2.1 25 := hf_τ29.2.1 25 (by decide)
                    have g26_τ29 : τ29.2.1 26 = τ_0.2.1 26 := hf_τ29.2.1 26 (by decide)
                    have g28_τ29 : τ29.2.1 28 = τ_0.2.1 28 := hf_τ29.2.1 28 (by decide)
                    first | (have o6_τ29 := congrArg oc g6_τ29) | skip
                    first | (have o7_τ29 := congrArg oc g7_τ29) | skip
                    have W0 : τ29.1 0 = σ.1 0 := by omega
                    have W3 : τ29.1 3 = σ.1 3 := by omega
                    have W5 : τ29.1 5 = σ.1 5 := by omega
                    have W6 : τ29.1 6 = σ.1 6 := by omega
                    have W7 : τ29.1 7 = σ.1 7 := by omega
                    have W8 : τ29.1 8 = σ.1 8 := by omega
                    have W22 : τ29.1 22 = σ.1 22 := by omega
                    have G0 : τ29.2.1 0 = σ.2.1 0 := (g0_τ29).trans G0
                    have G6 : τ29.2.1 6 = σ.2.1 6 := (g6_τ29).trans G6
                    have G7 : τ29.2.1 7 = σ.2.1 7 := (g7_τ29).trans G7
                    have G25 : τ29.2.1 25 = σ.2.1 25 := (g25_τ29).trans G25
                    have y0_17_τ29 : τ29.2.1 0 (τ29.1 17) = (τ_0.2.1 0) (τ_0.1 17) := by rw [g0_τ29, w17_τ29]
                    have y25_22_τ29 : τ29.2.1 25 (τ29.1 22) = (τ_0.2.1 25) (τ_0.1 22) := by rw [g25_τ29, w22_τ29]
                    have y26_22_τ29 : τ29.2.1 26 (τ29.1 22) = (τ_0.2.1 26) (τ_0.1 22) := by rw [g26_τ29, w22_τ29]
                    have y28_9_τ29 : τ29.2.1 28 (τ29.1 9) = (τ_0.2.1 28) (τ_0.1 9) := by rw [g28_τ29, w9_τ29]
                    have Z4 : τ29.2.1 25 (τ29.1 22) + τ29.2.1 26 (τ29.1 22) = (τ29.1 9) := by rw [show (τ29.2.1 25 (τ29.1 22) + τ29.2.1 26 (τ29.1 22) = (τ29.1 9)) = (τ_0.2.1 25 (τ_0.1 22) + τ_0.2.1 26 (τ_0.1 22) = (τ_0.1 9)) from by rw [w9_τ29, w22_τ29, g25_τ29, g26_τ29]]; exact Z4
                    have Y8 : j_eq ((σ.1 9)) (σ.2.1 28) (τ29.2.1 28) := by rw [show (j_eq ((σ.1 9)) (σ.2.1 28) (τ29.2.1 28)) = (j_eq ((σ.1 9)) (σ.2.1 28) (τ_0.2.1 28)) from by rw [g28_τ29]]; exact Y8
                    have Y9 : ca (τ29.2.1 28) ((τ29.1 9)) = ca (σ.2.1 28) ((σ.1 9)) := by rw [show (ca (τ29.2.1 28) ((τ29.1 9)) = ca (σ.2.1 28) ((σ.1 9))) = (ca (τ_0.2.1 28) ((τ_0.1 9)) = ca (σ.2.1 28) ((σ.1 9))) from by rw [w9_τ29, g28_τ29]]; exact Y9
                    have A0 : ∀ j, 0 ≤ τ29.2.1 0 j ∧ τ29.2.1 0 j ≤ 255 := fun j => hT.2 0 j
                    have A6 : ∀ j, (-1) ≤ τ29.2.1 6 j ∧ τ29.2.1 6 j ≤ 999 := fun j => hT.2 6 j
                    have A7 : ∀ j, (-1) ≤ τ29.2.1 7 j ∧ τ29.2.1 7 j ≤ 1499 := fun j => hT.2 7 j
                    have A25 : ∀ j, 0 ≤ τ29.2.1 25 j ∧ τ29.2.1 25 j ≤ 20000 := fun j => hT.2 25 j
                    have A26 : ∀ j, 0 ≤ τ29.2.1 26 j ∧ τ29.2.1 26 j ≤ 20000 := fun j => hT.2 26 j
                    have A28 : ∀ j, 0 ≤ τ29.2.1 28 j ∧ τ29.2.1 28 j ≤ 1 := fun j => hT.2 28 j
                    have v0 : 0 ≤ τ29.1 0 ∧ τ29.1 0 ≤ 60000 := hT.1 0
                    have v3 : 0 ≤ τ29.1 3 ∧ τ29.1 3 ≤ 1000 := hT.1 3
                    have v5 : 0 ≤ τ29.1 5 ∧ τ29.1 5 ≤ 1500 := hT.1 5
                    have v6 : 0 ≤ τ29.1 6 ∧ τ29.1 6 ≤ 30000 := hT.1 6
                    have v7 : 0 ≤ τ29.1 7 ∧ τ29.1 7 ≤ 90000 := hT.1 7
                    have v8 : 0 ≤ τ29.1 8 ∧ τ29.1 8 ≤ 20000 := hT.1 8
                    have v9 : 0 ≤ τ29.1 9 ∧ τ29.1 9 ≤ 20000 := hT.1 9
                    have v16 : 0 ≤ τ29.1 16 ∧ τ29.1 16 ≤ 60000 := hT.1 16
                    have v17 : 0 ≤ τ29.1 17 ∧ τ29.1 17 ≤ 60000 := hT.1 17
                    have v18 : 0 ≤ τ29.1 18 ∧ τ29.1 18 ≤ 60000 := hT.1 18
                    have v19 : (-1) ≤ τ29.1 19 ∧ τ29.1 19 ≤ 125 := hT.1 19
                    have v20 : 0 ≤ τ29.1 20 ∧ τ29.1 20 ≤ 19 := hT.1 20
                    have v22 : 0 ≤ τ29.1 22 ∧ τ29.1 22 ≤ 1499 := hT.1 22
                    have a0_17 : 0 ≤ τ29.2.1 0 (τ29.1 17) ∧ τ29.2.1 0 (τ29.1 17) ≤ 255 := hT.2 0 _
                    have a25_22 : 0 ≤ τ29.2.1 25 (τ29.1 22) ∧ τ29.2.1 25 (τ29.1 22) ≤ 20000 := hT.2 25 _
                    have a26_22 : 0 ≤ τ29.2.1 26 (τ29.1 22) ∧ τ29.2.1 26 (τ29.1 22) ≤ 20000 := hT.2 26 _
                    have a28_9 : 0 ≤ τ29.2.1 28 (τ29.1 9) ∧ τ29.2.1 28 (τ29.1 9) ≤ 1 := hT.2 28 _
                    have av9 : σ.1 9 ≤ τ29.1 9 := ag.1 9 (by decide)
                    refine h111 _ ?_
                    refine ⟨fun c19 => ?_, fun c19 => ?_⟩
                    ·
                      exact ih_0 _ (show (3 * ((τ29.1 0) - (τ29.1 16)) + z_0 ((τ29.1 20)) + 1 - z_0 ((τ29.1 19)) : Int) < ((m_0 : Nat) : Int) from by (have zz0 := z_e ((τ29.1 20)); have zz1 := z_e ((τ29.1 19)); (first | omega | (simp only [st_s] <;> omega) | assumption | omega))) hT ag (show τ29.1 0 = σ.1 0 from by omega) (show τ29.1 3 = σ.1 3 from by omega) (show τ29.1 5 = σ.1 5 from by omega) (show τ29.1 6 = σ.1 6 from by omega) (show τ29.1 7 = σ.1 7 from by omega) (show τ29.1 8 = σ.1 8 from by omega) (show τ29.1 22 = σ.1 22 from by omega) G0 G6 G7 G25 (show (τ29.1 16) ≤ (τ29.1 0) from by (first | omega | (simp only [st_s] <;> omega) | assumption | omega)) (show (τ29.1 17) + (τ29.1 18) ≤ (τ29.1 0) from by (first | omega | (simp only [st_s] <;> omega) | assumption | omega)) (show oc (τ29.2.1 6) < 4096 from by (first | omega | (simp only [st_s] <;> omega) | assumption | omega)) (show oc (τ29.2.1 7) < 4096 from by (first | omega | (simp only [st_s] <;> omega) | assumption | omega)) (show τ29.2.1 25 (τ29.1 22) + τ29.2.1 26 (τ29.1 22) = (τ29.1 9) from Z4) (show ¬ (σ.1 20) = 0 → (τ29.1 20) = (σ.1 20) from by (first | omega | (simp only [st_s] <;> omega) | assumption | omega)) (show j_eq ((σ.1 9)) (σ.2.1 28) (τ29.2.1 28) from Y8) (show ca (τ29.2.1 28) ((τ29.1 9)) = ca (σ.2.1 28) ((σ.1 9)) from Y9) (show (σ.1 16) ≤ (τ29.1 16) from by (first | omega | (simp only [st_s] <;> omega) | assumption | omega))
                    ·
                      refine ⟨_, K_X13_next hT (show (τ29.1 16) ≤ (τ29.1 0) from by (first | omega | (simp only [st_s] <;> omega) | assumption | omega)), ?_⟩
                      intro τ22 hn_τ22 hf_τ22 hq
                      obtain ⟨hT, q20_1, q20_2, q20_3, q20_4, q20_5⟩ := hq
                      replace q20_1 : (τ22.1 16) ≤ (τ22.1 0) := q20_1
                      replace q20_2 : (τ22.1 17) + (τ22.1 18) ≤ (τ22.1 0) := q20_2
                      replace q20_3 : (τ29.1 16) ≤ (τ22.1 16) := q20_3
                      replace q20_4 : ¬ (τ29.1 20) = 0 → (τ22.1 20) = (τ29.1 20) := q20_4
                      replace q20_5 : (τ22.1 20) = 0 → ¬ (τ22.1 19) = 0 → (τ29.1 16) < (τ22.1 16) ∧ 0 < (τ22.1 18) := q20_5
                      replace ag : m_ag σ τ22 := ag_r ag hf_τ22 rfl rfl
                      have w0_τ22 : τ22.1 0 = τ29.1 0 := hf_τ22.1 0 (by decide)
                      have w3_τ22 : τ22.1 3 = τ29.1 3 := hf_τ22.1 3 (by decide)
                      have w5_τ22 : τ22.1 5 = τ29.1 5 := hf_τ22.1 5 (by decide)
                      have w6_τ22 : τ22.1 6 = τ29.1 6 := hf_τ22.1 6 (by decide)
                      have w7_τ22 : τ22.1 7 = τ29.1 7 := hf_τ22.1 7 (by decide)
                      have w8_τ22 : τ22.1 8 = τ29.1 8 := hf_τ22.1 8 (by decide)
                      have w9_τ22 : τ22.1 9 = τ29.1 9 := hf_τ22.1 9 (by decide)
                      have w22_τ22 : τ22.1 22 = τ29.1 22 := hf_τ22.1 22 (by decide)
                      have g0_τ22 : τ22.2.1 0 = τ29.2.1 0 := hf_τ22.2.1 0 (by decide)
                      have g6_τ22 : τ22.2.1 6 = τ29.2.1 6 := hf_τ22.2.1 6 (by decide)
                      have g7_τ22 : τ22.2.1 7 = τ29.2.1 7 := hf_τ22.2.1 7 (by decide)
                      have g25_τ22 : τ22.2.1 25 = τ29.2.1 25 := hf_τ22.2.1 25 (by decide)
                      have g26_τ22 : τ22.2.1 26 = τ29.2.1 26 := hf_τ22.2.1 26 (by decide)
                      have g28_τ22 : τ22.2.1 28 = τ29.2.1 28 := hf_τ22.2.1 28 (by decide)
                      first | (have o6_τ22 := congrArg oc g6_τ22) | skip
                      first | (have o7_τ22 := congrArg oc g7_τ22) | skip
                      have W0 : τ22.1 0 = σ.1 0 := by omega
                      have W3 : τ22.1 3 = σ.1 3 := by omega
                      have W5 : τ22.1 5 = σ.1 5 := by omega
                      have W6 : τ22.1 6 = σ.1 6 := by omega
                      have W7 : τ22.1 7 = σ.1 7 := by omega
                      have W8 : τ22.1 8 = σ.1 8 := by omega
                      have W22 : τ22.1 22 = σ.1 22 := by omega
                      have G0 : τ22.2.1 0 = σ.2.1 0 := (g0_τ22).trans G0
                      have G6 : τ22.2.1 6 = σ.2.1 6 := (g6_τ22).trans G6
                      have G7 : τ22.2.1 7 = σ.2.1 7 := (g7_τ22).trans G7
                      have G25 : τ22.2.1 25 = σ.2.1 25 := (g25_τ22).trans G25
                      have y25_22_τ22 : τ22.2.1 25 (τ22.1 22) = (τ29.2.1 25) (τ29.1 22) := by rw [g25_τ22, w22_τ22]
                      have y26_22_τ22 : τ22.2.1 26 (τ22.1 22) = (τ29.2.1 26) (τ29.1 22) := by rw [g26_τ22, w22_τ22]
                      have y28_9_τ22 : τ22.2.1 28 (τ22.1 9) = (τ29.2.1 28) (τ29.1 9) := by rw [g28_τ22, w9_τ22]
                      have Z4 : τ22.2.1 25 (τ22.1 22) + τ22.2.1 26 (τ22.1 22) = (τ22.1 9) := by rw [show (τ22.2.1 25 (τ22.1 22) + τ22.2.1 26 (τ22.1 22) = (τ22.1 9)) = (τ29.2.1 25 (τ29.1 22) + τ29.2.1 26 (τ29.1 22) = (τ29.1 9)) from by rw [w9_τ22, w22_τ22, g25_τ22, g26_τ22]]; exact Z4
                      have Y8 : j_eq ((σ.1 9)) (σ.2.1 28) (τ22.2.1 28) := by rw [show (j_eq ((σ.1 9)) (σ.2.1 28) (τ22.2.1 28)) = (j_eq ((σ.1 9)) (σ.2.1 28) (τ29.2.1 28)) from by rw [g28_τ22]]; exact Y8
                      have Y9 : ca (τ22.2.1 28) ((τ22.1 9)) = ca (σ.2.1 28) ((σ.1 9)) := by rw [show (ca (τ22.2.1 28) ((τ22.1 9)) = ca (σ.2.1 28) ((σ.1 9))) = (ca (τ29.2.1 28) ((τ29.1 9)) = ca (σ.2.1 28) ((σ.1 9))) from by rw [w9_τ22, g28_τ22]]; exact Y9
                      have A0 : ∀ j, 0 ≤ τ22.2.1 0 j ∧ τ22.2.1 0 j ≤ 255 := fun j => hT.2 0 j
                      have A6 : ∀ j, (-1) ≤ τ22.2.1 6 j ∧ τ22.2.1 6 j ≤ 999 := fun j => hT.2 6 j
                      have A7 : ∀ j, (-1) ≤ τ22.2.1 7 j ∧ τ22.2.1 7 j ≤ 1499 := fun j => hT.2 7 j
                      have A25 : ∀ j, 0 ≤ τ22.2.1 25 j ∧ τ22.2.1 25 j ≤ 20000 := fun j => hT.2 25 j
                      have A26 : ∀ j, 0 ≤ τ22.2.1 26 j ∧ τ22.2.1 26 j ≤ 20000 := fun j => hT.2 26 j
                      have A28 : ∀ j, 0 ≤ τ22.2.1 28 j ∧ τ22.2.1 28 j ≤ 1 := fun j => hT.2 28 j
                      have v0 : 0 ≤ τ22.1 0 ∧ τ22.1 0 ≤ 60000 := hT.1 0
                      have v3 : 0 ≤ τ22.1 3 ∧ τ22.1 3 ≤ 1000 := hT.1 3
                      have v5 : 0 ≤ τ22.1 5 ∧ τ22.1 5 ≤ 1500 := hT.1 5
                      have v6 : 0 ≤ τ22.1 6 ∧ τ22.1 6 ≤ 30000 := hT.1 6
                      have v7 : 0 ≤ τ22.1 7 ∧ τ22.1 7 ≤ 90000 := hT.1 7
                      have v8 : 0 ≤ τ22.1 8 ∧ τ22.1 8 ≤ 20000 := hT.1 8
                      have v9 : 0 ≤ τ22.1 9 ∧ τ22.1 9 ≤ 20000 := hT.1 9
                      have v16 : 0 ≤ τ22.1 16 ∧ τ22.1 16 ≤ 60000 := hT.1 16
                      have v17 : 0 ≤ τ22.1 17 ∧ τ22.1 17 ≤ 60000 := hT.1 17
                      have v18 : 0 ≤ τ22.1 18 ∧ τ22.1 18 ≤ 60000 := hT.1 18
                      have v19 : (-1) ≤ τ22.1 19 ∧ τ22.1 19 ≤ 125 := hT.1 19
                      have v20 : 0 ≤ τ22.1 20 ∧ τ22.1 20 ≤ 19 := hT.1 20
                      have v22 : 0 ≤ τ22.1 22 ∧ τ22.1 22 ≤ 1499 := hT.1 22
                      have a0_17 : 0 ≤ τ22.2.1 0 (τ22.1 17) ∧ τ22.2.1 0 (τ22.1 17) ≤ 255 := hT.2 0 _
                      have a25_22 : 0 ≤ τ22.2.1 25 (τ22.1 22) ∧ τ22.2.1 25 (τ22.1 22) ≤ 20000 := hT.2 25 _
                      have a26_22 : 0 ≤ τ22.2.1 26 (τ22.1 22) ∧ τ22.2.1 26 (τ22.1 22) ≤ 20000 := hT.2 26 _
                      have a28_9 : 0 ≤ τ22.2.1 28 (τ22.1 9) ∧ τ22.2.1 28 (τ22.1 9) ≤ 1 := hT.2 28 _
                      have av9 : σ.1 9 ≤ τ22.1 9 := ag.1 9 (by decide)
                      exact ih_0 _ (show (3 * ((τ22.1 0) - (τ22.1 16)) + z_0 ((τ22.1 20)) + 1 - z_0 ((τ22.1 19)) : Int) < ((m_0 : Nat) : Int) from by (have zz0 := z_e ((τ22.1 20)); have zz1 := z_e ((τ22.1 19)); (first | omega | (simp only [st_s] <;> omega) | assumption | omega))) hT ag (show τ22.1 0 = σ.1 0 from by omega) (show τ22.1 3 = σ.1 3 from by omega) (show τ22.1 5 = σ.1 5 from by omega) (show τ22.1 6 = σ.1 6 from by omega) (show τ22.1 7 = σ.1 7 from by omega) (show τ22.1 8 = σ.1 8 from by omega) (show τ22.1 22 = σ.1 22 from by omega) G0 G6 G7 G25 (show (τ22.1 16) ≤ (τ22.1 0) from by (first | omega | (simp only [st_s] <;> omega) | assumption | omega)) (show (τ22.1 17) + (τ22.1 18) ≤ (τ22.1 0) from by (first | omega | (simp only [st_s] <;> omega) | assumption | omega)) (show oc (τ22.2.1 6) < 4096 from by (first | omega | (simp only [st_s] <;> omega) | assumption | omega)) (show oc (τ22.2.1 7) < 4096 from by (first | omega | (simp only [st_s] <;> omega) | assumption | omega)) (show τ22.2.1 25 (τ22.1 22) + τ22.2.1 26 (τ22.1 22) = (τ22.1 9) from Z4) (show ¬ (σ.1 20) = 0 → (τ22.1 20) = (σ.1 20) from by (first | omega | (simp only [st_s] <;> omega) | assumption | omega)) (show j_eq ((σ.1 9)) (σ.2.1 28) (τ22.2.1 28) from Y8) (show ca (τ22.2.1 28) ((τ22.1 9)) = ca (σ.2.1 28) ((σ.1 9)) from Y9) (show (σ.1 16) ≤ (τ22.1 16) from by (first | omega | (simp only [st_s] <;> omega) | assumption | omega))
                ·
                  refine ⟨_, K_X13_failHere hT (show 0 ≤ 5 from by (first | omega | (simp only [st_s] <;> omega) | assumption | omega)) (show 5 ≤ 19 from by (first | omega | (simp only [st_s] <;> omega) | assumption | omega)), ?_⟩
                  intro τ18 hn_τ18 hf_τ18 hq
                  obtain ⟨hT, q16_1, q16_2⟩ := hq
                  replace q16_1 : ¬ (τ_0.1 20) = 0 → (τ18.1 20) = (τ_0.1 20) := q16_1
                  replace q16_2 : (τ_0.1 20) = 0 → (τ18.1 20) = 5 := q16_2
                  replace ag : m_ag σ τ18 := ag_r ag hf_τ18 rfl rfl
                  have w0_τ18 : τ18.1 0 = τ_0.1 0 := hf_τ18.1 0 (by decide)
                  have w3_τ18 : τ18.1 3 = τ_0.1 3 := hf_τ18.1 3 (by decide)
                  have w5_τ18 : τ18.1 5 = τ_0.1 5 := hf_τ18.1 5 (by decide)
                  have w6_τ18 : τ18.1 6 = τ_0.1 6 := hf_τ18.1 6 (by decide)
                  have w7_τ18 : τ18.1 7 = τ_0.1 7 := hf_τ18.1 7 (by decide)
                  have w8_τ18 : τ18.1 8 = τ_0.1 8 := hf_τ18.1 8 (by decide)
                  have w9_τ18 : τ18.1 9 = τ_0.1 9 := hf_τ18.1 9 (by decide)
                  have w16_τ18 : τ18.1 16 = τ_0.1 16 := hf_τ18.1 16 (by decide)
                  have w17_τ18 : τ18.1 17 = τ_0.1 17 := hf_τ18.1 17 (by decide)
                  have w18_τ18 : τ18.1 18 = τ_0.1 18 := hf_τ18.1 18 (by decide)
                  have w19_τ18 : τ18.1 19 = τ_0.1 19 := hf_τ18.1 19 (by decide)
                  have w22_τ18 : τ18.1 22 = τ_0.1 22 := hf_τ18.1 22 (by decide)
                  have g0_τ18 : τ18.2.1 0 = τ_0.2.1 0 := hf_τ18.2.1 0 (by decide)
                  have g6_τ18 : τ18.2.1 6 = τ_0.2.1 6 := hf_τ18.2.1 6 (by decide)
                  have g7_τ18 : τ18.2.1 7 = τ_0.2.1 7 := hf_τ18.2.1 7 (by decide)
                  have g25_τ18 : τ18.2.1 25 = τ_0.2.1 25 := hf_τ18.2.1 25 (by decide)
                  have g26_τ18 : τ18.2.1 26 = τ_0.2.1 26 := hf_τ18.2.1 26 (by decide)
                  have g28_τ18 : τ18.2.1 28 = τ_0.2.1 28 := hf_τ18.2.1 28 (by decide)
                  first | (have o6_τ18 := congrArg oc g6_τ18) | skip
                  first | (have o7_τ18 := congrArg oc g7_τ18) | skip
                  have W0 : τ18.1 0 = σ.1 0 := by omega
                  have W3 : τ18.1 3 = σ.1 3 := by omega
                  have W5 : τ18.1 5 = σ.1 5 := by omega
                  have W6 : τ18.1 6 = σ.1 6 := by omega
                  have W7 : τ18.1 7 = σ.1 7 := by omega
                  have W8 : τ18.1 8 = σ.1 8 := by omega
                  have W22 : τ18.1 22 = σ.1 22 := by omega
                  have G0 : τ18.2.1 0 = σ.2.1 0 := (g0_τ18).trans G0
                  have G6 : τ18.2.1 6 = σ.2.1 6 := (g6_τ18).trans G6
                  have G7 : τ18.2.1 7 = σ.2.1 7 := (g7_τ18).trans G7
                  have G25 : τ18.2.1 25 = σ.2.1 25 := (g25_τ18).trans G25
                  have y0_17_τ18 : τ18.2.1 0 (τ18.1 17) = (τ_0.2.1 0) (τ_0.1 17) := by rw [g0_τ18, w17_τ18]
                  have y25_22_τ18 : τ18.2.1 25 (τ18.1 22) = (τ_0.2.1 25) (τ_0.1 22) := by rw [g25_τ18, w22_τ18]
                  have y26_22_τ18 : τ18.2.1 26 (τ18.1 22) = (τ_0.2.1 26) (τ_0.1 22) := by rw [g26_τ18, w22_τ18]
                  have y28_9_τ18 : τ18.2.1 28 (τ18.1 9) = (τ_0.2.1 28) (τ_0.1 9) := by rw [g28_τ18, w9_τ18]
                  have Z4 : τ18.2.1 25 (τ18.1 22) + τ18.2.1 26 (τ18.1 22) = (τ18.1 9) := by rw [show (τ18.2.1 25 (τ18.1 22) + τ18.2.1 26 (τ18.1 22) = (τ18.1 9)) = (τ_0.2.1 25 (τ_0.1 22) + τ_0.2.1 26 (τ_0.1 22) = (τ_0.1 9)) from by rw [w9_τ18, w22_τ18, g25_τ18, g26_τ18]]; exact Z4
                  have Y8 : j_eq ((σ.1 9)) (σ.2.1 28) (τ18.2.1 28) := by rw [show (j_eq ((σ.1 9)) (σ.2.1 28) (τ18.2.1 28)) = (j_eq ((σ.1 9)) (σ.2.1 28) (τ_0.2.1 28)) from by rw [g28_τ18]]; exact Y8
                  have Y9 : ca (τ18.2.1 28) ((τ18.1 9)) = ca (σ.2.1 28) ((σ.1 9)) := by rw [show (ca (τ18.2.1 28) ((τ18.1 9)) = ca (σ.2.1 28) ((σ.1 9))) = (ca (τ_0.2.1 28) ((τ_0.1 9)) = ca (σ.2.1 28) ((σ.1 9))) from by rw [w9_τ18, g28_τ18]]; exact Y9
                  have A0 : ∀ j, 0 ≤ τ18.2.1 0 j ∧ τ18.2.1 0 j ≤ 255 := fun j => hT.2 0 j
                  have A6 : ∀ j, (-1) ≤ τ18.2.1 6 j ∧ τ18.2.1 6 j ≤ 999 := fun j => hT.2 6 j
                  have A7 : ∀ j, (-1) ≤ τ18.2.1 7 j ∧ τ18.2.1 7 j ≤ 1499 := fun j => hT.2 7 j
                  have A25 : ∀ j, 0 ≤ τ18.2.1 25 j ∧ τ18.2.1 25 j ≤ 20000 := fun j => hT.2 25 j
                  have A26 : ∀ j, 0 ≤ τ18.2.1 26 j ∧ τ18.2.1 26 j ≤ 20000 := fun j => hT.2 26 j
                  have A28 : ∀ j, 0 ≤ τ18.2.1 28 j ∧ τ18.2.1 28 j ≤ 1 := fun j => hT.2 28 j
                  have v0 : 0 ≤ τ18.1 0 ∧ τ18.1 0 ≤ 60000 := hT.1 0
                  have v3 : 0 ≤ τ18.1 3 ∧ τ18.1 3 ≤ 1000 := hT.1 3
                  have v5 : 0 ≤ τ18.1 5 ∧ τ18.1 5 ≤ 1500 := hT.1 5
                  have v6 : 0 ≤ τ18.1 6 ∧ τ18.1 6 ≤ 30000 := hT.1 6
                  have v7 : 0 ≤ τ18.1 7 ∧ τ18.1 7 ≤ 90000 := hT.1 7
                  have v8 : 0 ≤ τ18.1 8 ∧ τ18.1 8 ≤ 20000 := hT.1 8
                  have v9 : 0 ≤ τ18.1 9 ∧ τ18.1 9 ≤ 20000 := hT.1 9
                  have v16 : 0 ≤ τ18.1 16 ∧ τ18.1 16 ≤ 60000 := hT.1 16
                  have v17 : 0 ≤ τ18.1 17 ∧ τ18.1 17 ≤ 60000 := hT.1 17
                  have v18 : 0 ≤ τ18.1 18 ∧ τ18.1 18 ≤ 60000 := hT.1 18
                  have v19 : (-1) ≤ τ18.1 19 ∧ τ18.1 19 ≤ 125 := hT.1 19
                  have v20 : 0 ≤ τ18.1 20 ∧ τ18.1 20 ≤ 19 := hT.1 20
                  have v22 : 0 ≤ τ18.1 22 ∧ τ18.1 22 ≤ 1499 := hT.1 22
                  have a0_17 : 0 ≤ τ18.2.1 0 (τ18.1 17) ∧ τ18.2.1 0 (τ18.1 17) ≤ 255 := hT.2 0 _
                  have a25_22 : 0 ≤ τ18.2.1 25 (τ18.1 22) ∧ τ18.2.1 25 (τ18.1 22) ≤ 20000 := hT.2 25 _
                  have a26_22 : 0 ≤ τ18.2.1 26 (τ18.1 22) ∧ τ18.2.1 26 (τ18.1 22) ≤ 20000 := hT.2 26 _
                  have a28_9 : 0 ≤ τ18.2.1 28 (τ18.1 9) ∧ τ18.2.1 28 (τ18.1 9) ≤ 1 := hT.2 28 _
                  have av9 : σ.1 9 ≤ τ18.1 9 := ag.1 9 (by decide)
                  refine h111 _ ?_
                  refine ⟨fun c19 => ?_, fun c19 => ?_⟩
                  ·
                    exact ih_0 _ (show (3 * ((τ18.1 0) - (τ18.1 16)) + z_0 ((τ18.1 20)) + 1 - z_0 ((τ18.1 19)) : Int) < ((m_0 : Nat) : Int) from by (have zz0 := z_e ((τ18.1 20)); have zz1 := z_e ((τ18.1 19)); (first | omega | (simp only [st_s] <;> omega) | assumption | omega))) hT ag (show τ18.1 0 = σ.1 0 from by omega) (show τ18.1 3 = σ.1 3 from by omega) (show τ18.1 5 = σ.1 5 from by omega) (show τ18.1 6 = σ.1 6 from by omega) (show τ18.1 7 = σ.1 7 from by omega) (show τ18.1 8 = σ.1 8 from by omega) (show τ18.1 22 = σ.1 22 from by omega) G0 G6 G7 G25 (show (τ18.1 16) ≤ (τ18.1 0) from by (first | omega | (simp only [st_s] <;> omega) | assumption | omega)) (show (τ18.1 17) + (τ18.1 18) ≤ (τ18.1 0) from by (first | omega | (simp only [st_s] <;> omega) | assumption | omega)) (show oc (τ18.2.1 6) < 4096 from by (first | omega | (simp only [st_s] <;> omega) | assumption | omega)) (show oc (τ18.2.1 7) < 4096 from by (first | omega | (simp only [st_s] <;> omega) | assumption | omega)) (show τ18.2.1 25 (τ18.1 22) + τ18.2.1 26 (τ18.1 22) = (τ18.1 9) from Z4) (show ¬ (σ.1 20) = 0 → (τ18.1 20) = (σ.1 20) from by (first | omega | (simp only [st_s] <;> omega) | assumption | omega)) (show j_eq ((σ.1 9)) (σ.2.1 28) (τ18.2.1 28) from Y8) (show ca (τ18.2.1 28) ((τ18.1 9)) = ca (σ.2.1 28) ((σ.1 9)) from Y9) (show (σ.1 16) ≤ (τ18.1 16) from by (first | omega | (simp only [st_s] <;> omega) | assumption | omega))
                  ·
                    refine ⟨_, K_X13_next hT (show (τ18.1 16) ≤ (τ18.1 0) from by (first | omega | (simp only [st_s] <;> omega) | assumption | omega)), ?_⟩
                    intro τ22 hn_τ22 hf_τ22 hq
                    obtain ⟨hT, q20_1, q20_2, q20_3, q20_4, q20_5⟩ := hq
                    replace q20_1 : (τ22.1 16) ≤ (τ22.1 0) := q20_1
                    replace q20_2 : (τ22.1 17) + (τ22.1 18) ≤ (τ22.1 0) := q20_2
                    replace q20_3 : (τ18.1 16) ≤ (τ22.1 16) := q20_3
                    replace q20_4 : ¬ (τ18.1 20) = 0 → (τ22.1 20) = (τ18.1 20) := q20_4
                    replace q20_5 : (τ22.1 20) = 0 → ¬ (τ22.1 19) = 0 → (τ18.1 16) < (τ22.1 16) ∧ 0 < (τ22.1 18) := q20_5
                    replace ag : m_ag σ τ22 := ag_r ag hf_τ22 rfl rfl
                    have w0_τ22 : τ22.1 0 = τ18.1 0 := hf_τ22.1 0 (by decide)
                    have w3_τ22 : τ22.1 3 = τ18.1 3 := hf_τ22.1 3 (by decide)
                    have w5_τ22 : τ22.1 5 = τ18.1 5 := hf_τ22.1 5 (by decide)
                    have w6_τ22 : τ22.1 6 = τ18.1 6 := hf_τ22.1 6 (by decide)
                    have w7_τ22 : τ22.1 7 = τ18.1 7 := hf_τ22.1 7 (by decide)
                    have w8_τ22 : τ22.1 8 = τ18.1 8 := hf_τ22.1 8 (by decide)
                    have w9_τ22 : τ22.1 9 = τ18.1 9 := hf_τ22.1 9 (by decide)
                    have w22_τ22 : τ22.1 22 = τ18.1 22 := hf_τ22.1 22 (by decide)
                    have g0_τ22 : τ22.2.1 0 = τ18.2.1 0 := hf_τ22.2.1 0 (by decide)
                    have g6_τ22 : τ22.2.1 6 = τ18.2.1 6 := hf_τ22.2.1 6 (by decide)
                    have g7_τ22 : τ22.2.1 7 = τ18.2.1 7 := hf_τ22.2.1 7 (by decide)
                    have g25_τ22 : τ22.2.1 25 = τ18.2.1 25 := hf_τ22.2.1 25 (by decide)
                    have g26_τ22 : τ22.2.1 26 = τ18.2.1 26 := hf_τ22.2.1 26 (by decide)
                    have g28_τ22 : τ22.2.1 28 = τ18.2.1 28 := hf_τ22.2.1 28 (by decide)
                    first | (have o6_τ22 := congrArg oc g6_τ22) | skip
                    first | (have o7_τ22 := congrArg oc g7_τ22) | skip
                    have W0 : τ22.1 0 = σ.1 0 := by omega
                    have W3 : τ22.1 3 = σ.1 3 := by omega
                    have W5 : τ22.1 5 = σ.1 5 := by omega
                    have W6 : τ22.1 6 = σ.1 6 := by omega
                    have W7 : τ22.1 7 = σ.1 7 := by omega
                    have W8 : τ22.1 8 = σ.1 8 := by omega
                    have W22 : τ22.1 22 = σ.1 22 := by omega
                    have G0 : τ22.2.1 0 = σ.2.1 0 := (g0_τ22).trans G0
                    have G6 : τ22.2.1 6 = σ.2.1 6 := (g6_τ22).trans G6
                    have G7 : τ22.2.1 7 = σ.2.1 7 := (g7_τ22).trans G7
                    have G25 : τ22.2.1 25 = σ.2.1 25 := (g25_τ22).trans G25
                    have y25_22_τ22 : τ22.2.1 25 (τ22.1 22) = (τ18.2.1 25) (τ18.1 22) := by rw [g25_τ22, w22_τ22]
                    have y26_22_τ22 : τ22.2.1 26 (τ22.1 22) = (τ18.2.1 26) (τ18.1 22) := by rw [g26_τ22, w22_τ22]
                    have y28_9_τ22 : τ22.2.1 28 (τ22.1 9) = (τ18.2.1 28) (τ18.1 9) := by rw [g28_τ22, w9_τ22]
                    have Z4 : τ22.2.1 25 (τ22.1 22) + τ22.2.1 26 (τ22.1 22) = (τ22.1 9) := by rw [show (τ22.2.1 25 (τ22.1 22) + τ22.2.1 26 (τ22.1 22) = (τ22.1 9)) = (τ18.2.1 25 (τ18.1 22) + τ18.2.1 26 (τ18.1 22) = (τ18.1 9)) from by rw [w9_τ22, w22_τ22, g25_τ22, g26_τ22]]; exact Z4
                    have Y8 : j_eq ((σ.1 9)) (σ.2.1 28) (τ22.2.1 28) := by rw [show (j_eq ((σ.1 9)) (σ.2.1 28) (τ22.2.1 28)) = (j_eq ((σ.1 9)) (σ.2.1 28) (τ18.2.1 28)) from by rw [g28_τ22]]; exact Y8
                    have Y9 : ca (τ22.2.1 28) ((τ22.1 9)) = ca (σ.2.1 28) ((σ.1 9)) := by rw [show (ca (τ22.2.1 28) ((τ22.1 9)) = ca (σ.2.1 28) ((σ.1 9))) = (ca (τ18.2.1 28) ((τ18.1 9)) = ca (σ.2.1 28) ((σ.1 9))) from by rw [w9_τ22, g28_τ22]]; exact Y9
                    have A0 : ∀ j, 0 ≤ τ22.2.1 0 j ∧ τ22.2.1 0 j ≤ 255 := fun j => hT.2 0 j
                    have A6 : ∀ j, (-1) ≤ τ22.2.1 6 j ∧ τ22.2.1 6 j ≤ 999 := fun j => hT.2 6 j
                    have A7 : ∀ j, (-1) ≤ τ22.2.1 7 j ∧ τ22.2.1 7 j ≤ 1499 := fun j => hT.2 7 j
                    have A25 : ∀ j, 0 ≤ τ22.2.1 25 j ∧ τ22.2.1 25 j ≤ 20000 := fun j => hT.2 25 j
                    have A26 : ∀ j, 0 ≤ τ22.2.1 26 j ∧ τ22.2.1 26 j ≤ 20000 := fun j => hT.2 26 j
                    have A28 : ∀ j, 0 ≤ τ22.2.1 28 j ∧ τ22.2.1 28 j ≤ 1 := fun j => hT.2 28 j
                    have v0 : 0 ≤ τ22.1 0 ∧ τ22.1 0 ≤ 60000 := hT.1 0
                    have v3 : 0 ≤ τ22.1 3 ∧ τ22.1 3 ≤ 1000 := hT.1 3
                    have v5 : 0 ≤ τ22.1 5 ∧ τ22.1 5 ≤ 1500 := hT.1 5
                    have v6 : 0 ≤ τ22.1 6 ∧ τ22.1 6 ≤ 30000 := hT.1 6
                    have v7 : 0 ≤ τ22.1 7 ∧ τ22.1 7 ≤ 90000 := hT.1 7
                    have v8 : 0 ≤ τ22.1 8 ∧ τ22.1 8 ≤ 20000 := hT.1 8
                    have v9 : 0 ≤ τ22.1 9 ∧ τ22.1 9 ≤ 20000 := hT.1 9
                    have v16 : 0 ≤ τ22.1 16 ∧ τ22.1 16 ≤ 60000 := hT.1 16
                    have v17 : 0 ≤ τ22.1 17 ∧ τ22.1 17 ≤ 60000 := hT.1 17
                    have v18 : 0 ≤ τ22.1 18 ∧ τ22.1 18 ≤ 60000 := hT.1 18
                    have v19 : (-1) ≤ τ22.1 19 ∧ τ22.1 19 ≤ 125 := hT.1 19
                    have v20 : 0 ≤ τ22.1 20 ∧ τ22.1 20 ≤ 19 := hT.1 20
                    have v22 : 0 ≤ τ22.1 22 ∧ τ22.1 22 ≤ 1499 := hT.1 22
                    have a0_17 : 0 ≤ τ22.2.1 0 (τ22.1 17) ∧ τ22.2.1 0 (τ22.1 17) ≤ 255 := hT.2 0 _
                    have a25_22 : 0 ≤ τ22.2.1 25 (τ22.1 22) ∧ τ22.2.1 25 (τ22.1 22) ≤ 20000 := hT.2 25 _
                    have a26_22 : 0 ≤ τ22.2.1 26 (τ22.1 22) ∧ τ22.2.1 26 (τ22.1 22) ≤ 20000 := hT.2 26 _
                    have a28_9 : 0 ≤ τ22.2.1 28 (τ22.1 9) ∧ τ22.2.1 28 (τ22.1 9) ≤ 1 := hT.2 28 _
                    have av9 : σ.1 9 ≤ τ22.1 9 := ag.1 9 (by decide)
                    exact ih_0 _ (show (3 * ((τ22.1 0) - (τ22.1 16)) + z_0 ((τ22.1 20)) + 1 - z_0 ((τ22.1 19)) : Int) < ((m_0 : Nat) : Int) from by (have zz0 := z_e ((τ22.1 20)); have zz1 := z_e ((τ22.1 19)); (first | omega | (simp only [st_s] <;> omega) | assumption | omega))) hT ag (show τ22.1 0 = σ.1 0 from by omega) (show τ22.1 3 = σ.1 3 from by omega) (show τ22.1 5 = σ.1 5 from by omega) (show τ22.1 6 = σ.1 6 from by omega) (show τ22.1 7 = σ.1 7 from by omega) (show τ22.1 8 = σ.1 8 from by omega) (show τ22.1 22 = σ.1 22 from by omega) G0 G6 G7 G25 (show (τ22.1 16) ≤ (τ22.1 0) from by (first | omega | (simp only [st_s] <;> omega) | assumption | omega)) (show (τ22.1 17) + (τ22.1 18) ≤ (τ22.1 0) from by (first | omega | (simp only [st_s] <;> omega) | assumption | omega)) (show oc (τ22.2.1 6) < 4096 from by (first | omega | (simp only [st_s] <;> omega) | assumption | omega)) (show oc (τ22.2.1 7) < 4096 from by (first | omega | (simp only [st_s] <;> omega) | assumption | omega)) (show τ22.2.1 25 (τ22.1 22) + τ22.2.1 26 (τ22.1 22) = (τ22.1 9) from Z4) (show ¬ (σ.1 20) = 0 → (τ22.1 20) = (σ.1 20) from by (first | omega | (simp only [st_s] <;> omega) | assumption | omega)) (show j_eq ((σ.1 9)) (σ.2.1 28) (τ22.2.1 28) from Y8) (show ca (τ22.2.1 28) ((τ22.1 9)) = ca (σ.2.1 28) ((σ.1 9)) from Y9) (show (σ.1 16) ≤ (τ22.1 16) from by (first | omega | (simp only [st_s] <;> omega) | assumption | omega))
            ·
              refine ⟨(show 0 ≤ τ_0.1 17 ∧ τ_0.1 17 < 60000 from by (first | omega | (simp only [st_s] <;> omega) | assumption | omega)), ?_⟩
              intro x6 r_x6 e_x6
              have b_x6 : 0 ≤ x6 ∧ x6 ≤ 255 := by rw [e_x6]; exact hT.2 0 _
              refine ⟨fun c7 => ?_, fun c7 => ?_⟩
              ·
                refine h60 _ ?_
                refine ⟨_, K_X13_stepHere hT (show (τ_0.1 17) + (τ_0.1 18) ≤ (τ_0.1 0) from by (first | omega | (simp only [st_s] <;> omega) | assumption | omega)) (show oc (τ_0.2.1 7) < 4096 from by (first | omega | (simp only [st_s] <;> omega) | assumption | omega)), ?_⟩
                intro x12 r_x12 hq
                obtain ⟨q11_1, q11_2⟩ := hq
                replace q11_1 : -1 ≤ x12 ∧ x12 < (τ_0.1 22) ∨ x12 = -1 := q11_1
                replace q11_2 : -1 ≤ x12 ∧ x12 ≤ 1499 := q11_2
                refine ⟨fun c14 => ?_, fun c14 => ?_⟩
                ·
                  refine h88 _ _ ?_
                  refine ⟨fun c23 => ?_, fun c23 => ?_⟩
                  ·
                    refine ⟨_, K_X13_addStep hT (show -300 ≤ x12 from by (first | omega | (simp only [st_s] <;> omega) | assumption | omega)) (show x12 ≤ 1499 from by (first | omega | (simp only [st_s] <;> omega) | assumption | omega)) (show 0 ≤ (τ_0.1 17) from by (first | omega | (simp only [st_s] <;> omega) | assumption | omega)) (show (τ_0.1 17) ≤ 60000 from by (first | omega | (simp only [st_s] <;> omega) | assumption | omega)) (show (τ_0.1 9) < 20000 from by (first | omega | (simp only [st_s] <;> omega) | assumption | omega)) (show τ_0.2.1 26 (τ_0.1 22) < 20000 from by (first | omega | (simp only [st_s] <;> omega) | assumption | omega)) (show (τ_0.1 22) = (τ_0.1 5) from by (first | omega | (simp only [st_s] <;> omega) | assumption | omega)), ?_⟩
                    intro τ26 hn_τ26 hf_τ26 hq
                    obtain ⟨hT, q24_1, q24_2, q24_3, q24_4, q24_5, q24_6, q24_7⟩ := hq
                    replace q24_1 : (τ26.1 9) = (τ_0.1 9) + 1 := q24_1
                    replace q24_2 : τ26.2.1 26 (τ26.1 22) = τ_0.2.1 26 (τ_0.1 22) + 1 := q24_2
                    replace q24_3 : τ26.2.1 27 = st (τ_0.2.1 27) (τ_0.1 9) x12 := q24_3
                    replace q24_4 : j_eq ((τ_0.1 9)) (τ_0.2.1 28) (τ26.2.1 28) := q24_4
                    replace q24_5 : ca (τ26.2.1 28) ((τ26.1 9)) = ca (τ_0.2.1 28) ((τ_0.1 9)) := q24_5
                    replace q24_6 : τ26.2.1 28 (τ_0.1 9) = 0 := q24_6
                    replace q24_7 : m_ag τ_0 τ26 := q24_7
                    replace ag : m_ag σ τ26 := ag_t ag q24_7 rfl
                    have w0_τ26 : τ26.1 0 = τ_0.1 0 := hf_τ26.1 0 (by decide)
                    have w3_τ26 : τ26.1 3 = τ_0.1 3 := hf_τ26.1 3 (by decide)
                    have w5_τ26 : τ26.1 5 = τ_0.1 5 := hf_τ26.1 5 (by decide)
                    have w6_τ26 : τ26.1 6 = τ_0.1 6 := hf_τ26.1 6 (by decide)
                    have w7_τ26 : τ26.1 7 = τ_0.1 7 := hf_τ26.1 7 (by decide)
                    have w8_τ26 : τ26.1 8 = τ_0.1 8 := hf_τ26.1 8 (by decide)
                    have w16_τ26 : τ26.1 16 = τ_0.1 16 := hf_τ26.1 16 (by decide)
                    have w17_τ26 : τ26.1 17 = τ_0.1 17 := hf_τ26.1 17 (by decide)
                    have w18_τ26 : τ26.1 18 = τ_0.1 18 := hf_τ26.1 18 (by decide)
                    have w19_τ26 : τ26.1 19 = τ_0.1 19 := hf_τ26.1 19 (by decide)
                    have w20_τ26 : τ26.1 20 = τ_0.1 20 := hf_τ26.1 20 (by decide)
                    have w22_τ26 : τ26.1 22 = τ_0.1 22 := hf_τ26.1 22 (by decide)
                    have g0_τ26 : τ26.2.1 0 = τ_0.2.1 0 := hf_τ26.2.1 0 (by decide)
                    have g6_τ26 : τ26.2.1 6 = τ_0.2.1 6 := hf_τ26.2.1 6 (by decide)
                    have g7_τ26 : τ26.2.1 7 = τ_0.2.1 7 := hf_τ26.2.1 7 (by decide)
                    have g25_τ26 : τ26.2.1 25 = τ_0.2.1 25 := hf_τ26.2.1 25 (by decide)
                    first | (have o6_τ26 := congrArg oc g6_τ26) | skip
                    first | (have o7_τ26 := congrArg oc g7_τ26) | skip
                    have W0 : τ26.1 0 = σ.1 0 := by omega
                    have W3 : τ26.1 3 = σ.1 3 := by omega
                    have W5 : τ26.1 5 = σ.1 5 := by omega
                    have W6 : τ26.1 6 = σ.1 6 := by omega
                    have W7 : τ26.1 7 = σ.1 7 := by omega
                    have W8 : τ26.1 8 = σ.1 8 := by omega
                    have W22 : τ26.1 22 = σ.1 22 := by omega
                    have G0 : τ26.2.1 0 = σ.2.1 0 := (g0_τ26).trans G0
                    have G6 : τ26.2.1 6 = σ.2.1 6 := (g6_τ26).trans G6
                    have G7 : τ26.2.1 7 = σ.2.1 7 := (g7_τ26).trans G7
                    have G25 : τ26.2.1 25 = σ.2.1 25 := (g25_τ26).trans G25
                    have y0_17_τ26 : τ26.2.1 0 (τ26.1 17) = (τ_0.2.1 0) (τ_0.1 17) := by rw [g0_τ26, w17_τ26]
                    have y25_22_τ26 : τ26.2.1 25 (τ26.1 22) = (τ_0.2.1 25) (τ_0.1 22) := by rw [g25_τ26, w22_τ26]
                    have A0 : ∀ j, 0 ≤ τ26.2.1 0 j ∧ τ26.2.1 0 j ≤ 255 := fun j => hT.2 0 j
                    have A6 : ∀ j, (-1) ≤ τ26.2.1 6 j ∧ τ26.2.1 6 j ≤ 999 := fun j => hT.2 6 j
                    have A7 : ∀ j, (-1) ≤ τ26.2.1 7 j ∧ τ26.2.1 7 j ≤ 1499 := fun j => hT.2 7 j
                    have A25 : ∀ j, 0 ≤ τ26.2.1 25 j ∧ τ26.2.1 25 j ≤ 20000 := fun j => hT.2 25 j
                    have A26 : ∀ j, 0 ≤ τ26.2.1 26 j ∧ τ26.2.1 26 j ≤ 20000 := fun j => hT.2 26 j
                    have A28 : ∀ j, 0 ≤ τ26.2.1 28 j ∧ τ26.2.1 28 j ≤ 1 := fun j => hT.2 28 j
                    have v0 : 0 ≤ τ26.1 0 ∧ τ26.1 0 ≤ 60000 := hT.1 0
                    have v3 : 0 ≤ τ26.1 3 ∧ τ26.1 3 ≤ 1000 := hT.1 3
                    have v5 : 0 ≤ τ26.1 5 ∧ τ26.1 5 ≤ 1500 := hT.1 5
                    have v6 : 0 ≤ τ26.1 6 ∧ τ26.1 6 ≤ 30000 := hT.1 6
                    have v7 : 0 ≤ τ26.1 7 ∧ τ26.1 7 ≤ 90000 := hT.1 7
                    have v8 : 0 ≤ τ26.1 8 ∧ τ26.1 8 ≤ 20000 := hT.1 8
                    have v9 : 0 ≤ τ26.1 9 ∧ τ26.1 9 ≤ 20000 := hT.1 9
                    have v16 : 0 ≤ τ26.1 16 ∧ τ26.1 16 ≤ 60000 := hT.1 16
                    have v17 : 0 ≤ τ26.1 17 ∧ τ26.1 17 ≤ 60000 := hT.1 17
                    have v18 : 0 ≤ τ26.1 18 ∧ τ26.1 18 ≤ 60000 := hT.1 18
                    have v19 : (-1) ≤ τ26.1 19 ∧ τ26.1 19 ≤ 125 := hT.1 19
                    have v20 : 0 ≤ τ26.1 20 ∧ τ26.1 20 ≤ 19 := hT.1 20
                    have v22 : 0 ≤ τ26.1 22 ∧ τ26.1 22 ≤ 1499 := hT.1 22
                    have a0_17 : 0 ≤ τ26.2.1 0 (τ26.1 17) ∧ τ26.2.1 0 (τ26.1 17) ≤ 255 := hT.2 0 _
                    have a25_22 : 0 ≤ τ26.2.1 25 (τ26.1 22) ∧ τ26.2.1 25 (τ26.1 22) ≤ 20000 := hT.2 25 _
                    have a26_22 : 0 ≤ τ26.2.1 26 (τ26.1 22) ∧ τ26.2.1 26 (τ26.1 22) ≤ 20000 := hT.2 26 _
                    have a28_9 : 0 ≤ τ26.2.1 28 (τ26.1 9) ∧ τ26.2.1 28 (τ26.1 9) ≤ 1 := hT.2 28 _
                    have av9 : σ.1 9 ≤ τ26.1 9 := ag.1 9 (by decide)
                    have Z4 : τ26.2.1 25 (τ26.1 22) + τ26.2.1 26 (τ26.1 22) = τ26.1 9 := by omega
                    have Y8 := j_eqt Y8 (j_eqw q24_4 (show σ.1 9 ≤ τ_0.1 9 from by omega))
                    have Y9 := q24_5.trans Y9
                    refine h111 _ ?_
                    refine ⟨fun c19 => ?_, fun c19 => ?_⟩
                    ·
                      exact ih_0 _ (show (3 * ((τ26.1 0) - (τ26.1 16)) + z_0 ((τ26.1 20)) + 1 - z_0 ((τ26.1 19)) : Int) < ((m_0 : Nat) : Int) from by (have zz0 := z_e ((τ26.1 20)); have zz1 := z_e ((τ26.1 19)); (first | omega | (simp only [st_s] <;> omega) | assumption | omega))) hT ag (show τ26.1 0 = σ.1 0 from by omega) (show τ26.1 3 = σ.1 3 from by omega) (show τ26.1 5 = σ.1 5 from by omega) (show τ26.1 6 = σ.1 6 from by omega) (show τ26.1 7 = σ.1 7 from by omega) (show τ26.1 8 = σ.1 8 from by omega) (show τ26.1 22 = σ.1 22 from by omega) G0 G6 G7 G25 (show (τ26.1 16) ≤ (τ26.1 0) from by (first | omega | (simp only [st_s] <;> omega) | assumption | omega)) (show (τ26.1 17) + (τ26.1 18) ≤ (τ26.1 0) from by (first | omega | (simp only [st_s] <;> omega) | assumption | omega)) (show oc (τ26.2.1 6) < 4096 from by (first | omega | (simp only [st_s] <;> omega) | assumption | omega)) (show oc (τ26.2.1 7) < 4096 from by (first | omega | (simp only [st_s] <;> omega) | assumption | omega)) (show τ26.2.1 25 (τ26.1 22) + τ26.2.1 26 (τ26.1 22) = (τ26.1 9) from Z4) (show ¬ (σ.1 20) = 0 → (τ26.1 20) = (σ.1 20) from by (first | omega | (simp only [st_s] <;> omega) | assumption | omega)) (show j_eq ((σ.1 9)) (σ.2.1 28) (τ26.2.1 28) from Y8) (show ca (τ26.2.1 28) ((τ26.1 9)) = ca (σ.2.1 28) ((σ.1 9)) from Y9) (show (σ.1 16) ≤ (τ26.1 16) from by (first | omega | (simp only [st_s] <;> omega) | assumption | omega))
                    ·
                      refine ⟨_, K_X13_next hT (show (τ26.1 16) ≤ (τ26.1 0) from by (first | omega | (simp only [st_s] <;> omega) | assumption | omega)), ?_⟩
                      intro τ22 hn_τ22 hf_τ22 hq
                      obtain ⟨hT, q20_1, q20_2, q20_3, q20_4, q20_5⟩ := hq
                      replace q20_1 : (τ22.1 16) ≤ (τ22.1 0) := q20_1
                      replace q20_2 : (τ22.1 17) + (τ22.1 18) ≤ (τ22.1 0) := q20_2
                      replace q20_3 : (τ26.1 16) ≤ (τ22.1 16) := q20_3
                      replace q20_4 : ¬ (τ26.1 20) = 0 → (τ22.1 20) = (τ26.1 20) := q20_4
                      replace q20_5 : (τ22.1 20) = 0 → ¬ (τ22.1 19) = 0 → (τ26.1 16) < (τ22.1 16) ∧ 0 < (τ22.1 18) := q20_5
                      replace ag : m_ag σ τ22 := ag_r ag hf_τ22 rfl rfl
                      have w0_τ22 : τ22.1 0 = τ26.1 0 := hf_τ22.1 0 (by decide)
                      have w3_τ22 : τ22.1 3 = τ26.1 3 := hf_τ22.1 3 (by decide)
                      have w5_τ22 : τ22.1 5 = τ26.1 5 := hf_τ22.1 5 (by decide)
                      have w6_τ22 : τ22.1 6 = τ26.1 6 := hf_τ22.1 6 (by decide)
                      have w7_τ22 : τ22.1 7 = τ26.1 7 := hf_τ22.1 7 (by decide)
                      have w8_τ22 : τ22.1 8 = τ26.1 8 := hf_τ22.1 8 (by decide)
                      have w9_τ22 : τ22.1 9 = τ26.1 9 := hf_τ22.1 9 (by decide)
                      have w22_τ22 : τ22.1 22 = τ26.1 22 := hf_τ22.1 22 (by decide)
                      have g0_τ22 : τ22.2.1 0 = τ26.2.1 0 := hf_τ22.2.1 0 (by decide)
                      have g6_τ22 : τ22.2.1 6 = τ26.2.1 6 := hf_τ22.2.1 6 (by decide)
                      have g7_τ22 : τ22.2.1 7 = τ26.2.1 7 := hf_τ22.2.1 7 (by decide)
                      have g25_τ22 : τ22.2.1 25 = τ26.2.1 25 := hf_τ22.2.1 25 (by decide)
                      have g26_τ22 : τ22.2.1 26 = τ26.2.1 26 := hf_τ22.2.1 26 (by decide)
                      have g28_τ22 : τ22.2.1 28 = τ26.2.1 28 := hf_τ22.2.1 28 (by decide)
                      first | (have o6_τ22 := congrArg oc g6_τ22) | skip
                      first | (have o7_τ22 := congrArg oc g7_τ22) | skip
                      have W0 : τ22.1 0 = σ.1 0 := by omega
                      have W3 : τ22.1 3 = σ.1 3 := by omega
                      have W5 : τ22.1 5 = σ.1 5 := by omega
                      have W6 : τ22.1 6 = σ.1 6 := by omega
                      have W7 : τ22.1 7 = σ.1 7 := by omega
                      have W8 : τ22.1 8 = σ.1 8 := by omega
                      have W22 : τ22.1 22 = σ.1 22 := by omega
                      have G0 : τ22.2.1 0 = σ.2.1 0 := (g0_τ22).trans G0
                      have G6 : τ22.2.1 6 = σ.2.1 6 := (g6_τ22).trans G6
                      have G7 : τ22.2.1 7 = σ.2.1 7 := (g7_τ22).trans G7
                      have G25 : τ22.2.1 25 = σ.2.1 25 := (g25_τ22).trans G25
                      have y25_22_τ22 : τ22.2.1 25 (τ22.1 22) = (τ26.2.1 25) (τ26.1 22) := by rw [g25_τ22, w22_τ22]
                      have y26_22_τ22 : τ22.2.1 26 (τ22.1 22) = (τ26.2.1 26) (τ26.1 22) := by rw [g26_τ22, w22_τ22]
                      have y28_9_τ22 : τ22.2.1 28 (τ22.1 9) = (τ26.2.1 28) (τ26.1 9) := by rw [g28_τ22, w9_τ22]
                      have Z4 : τ22.2.1 25 (τ22.1 22) + τ22.2.1 26 (τ22.1 22) = (τ22.1 9) := by rw [show (τ22.2.1 25 (τ22.1 22) + τ22.2.1 26 (τ22.1 22) = (τ22.1 9)) = (τ26.2.1 25 (τ26.1 22) + τ26.2.1 26 (τ26.1 22) = (τ26.1 9)) from by rw [w9_τ22, w22_τ22, g25_τ22, g26_τ22]]; exact Z4
                      have Y8 : j_eq ((σ.1 9)) (σ.2.1 28) (τ22.2.1 28) := by rw [show (j_eq ((σ.1 9)) (σ.2.1 28) (τ22.2.1 28)) = (j_eq ((σ.1 9)) (σ.2.1 28) (τ26.2.1 28)) from by rw [g28_τ22]]; exact Y8
                      have Y9 : ca (τ22.2.1 28) ((τ22.1 9)) = ca (σ.2.1 28) ((σ.1 9)) := by rw [show (ca (τ22.2.1 28) ((τ22.1 9)) = ca (σ.2.1 28) ((σ.1 9))) = (ca (τ26.2.1 28) ((τ26.1 9)) = ca (σ.2.1 28) ((σ.1 9))) from by rw [w9_τ22, g28_τ22]]; exact Y9
                      have A0 : ∀ j, 0 ≤ τ22.2.1 0 j ∧ τ22.2.1 0 j ≤ 255 := fun j => hT.2 0 j
                      have A6 : ∀ j, (-1) ≤ τ22.2.1 6 j ∧ τ22.2.1 6 j ≤ 999 := fun j => hT.2 6 j
                      have A7 : ∀ j, (-1) ≤ τ22.2.1 7 j ∧ τ22.2.1 7 j ≤ 1499 := fun j => hT.2 7 j
                      have A25 : ∀ j, 0 ≤ τ22.2.1 25 j ∧ τ22.2.1 25 j ≤ 20000 := fun j => hT.2 25 j
                      have A26 : ∀ j, 0 ≤ τ22.2.1 26 j ∧ τ22.2.1 26 j ≤ 20000 := fun j => hT.2 26 j
                      have A28 : ∀ j, 0 ≤ τ22.2.1 28 j ∧ τ22.2.1 28 j ≤ 1 := fun j => hT.2 28 j
                      have v0 : 0 ≤ τ22.1 0 ∧ τ22.1 0 ≤ 60000 := hT.1 0
                      have v3 : 0 ≤ τ22.1 3 ∧ τ22.1 3 ≤ 1000 := hT.1 3
                      have v5 : 0 ≤ τ22.1 5 ∧ τ22.1 5 ≤ 1500 := hT.1 5
                      have v6 : 0 ≤ τ22.1 6 ∧ τ22.1 6 ≤ 30000 := hT.1 6
                      have v7 : 0 ≤ τ22.1 7 ∧ τ22.1 7 ≤ 90000 := hT.1 7
                      have v8 : 0 ≤ τ22.1 8 ∧ τ22.1 8 ≤ 20000 := hT.1 8
                      have v9 : 0 ≤ τ22.1 9 ∧ τ22.1 9 ≤ 20000 := hT.1 9
                      have v16 : 0 ≤ τ22.1 16 ∧ τ22.1 16 ≤ 60000 := hT.1 16
                      have v17 : 0 ≤ τ22.1 17 ∧ τ22.1 17 ≤ 60000 := hT.1 17
                      have v18 : 0 ≤ τ22.1 18 ∧ τ22.1 18 ≤ 60000 := hT.1 18
                      have v19 : (-1) ≤ τ22.1 19 ∧ τ22.1 19 ≤ 125 := hT.1 19
                      have v20 : 0 ≤ τ22.1 20 ∧ τ22.1 20 ≤ 19 := hT.1 20
                      have v22 : 0 ≤ τ22.1 22 ∧ τ22.1 22 ≤ 1499 := hT.1 22
                      have a0_17 : 0 ≤ τ22.2.1 0 (τ22.1 17) ∧ τ22.2.1 0 (τ22.1 17) ≤ 255 := hT.2 0 _
                      have a25_22 : 0 ≤ τ22.2.1 25 (τ22.1 22) ∧ τ22.2.1 25 (τ22.1 22) ≤ 20000 := hT.2 25 _
                      have a26_22 : 0 ≤ τ22.2.1 26 (τ22.1 22) ∧ τ22.2.1 26 (τ22.1 22) ≤ 20000 := hT.2 26 _
                      have a28_9 : 0 ≤ τ22.2.1 28 (τ22.1 9) ∧ τ22.2.1 28 (τ22.1 9) ≤ 1 := hT.2 28 _
                      have av9 : σ.1 9 ≤ τ22.1 9 := ag.1 9 (by decide)
                      exact ih_0 _ (show (3 * ((τ22.1 0) - (τ22.1 16)) + z_0 ((τ22.1 20)) + 1 - z_0 ((τ22.1 19)) : Int) < ((m_0 : Nat) : Int) from by (have zz0 := z_e ((τ22.1 20)); have zz1 := z_e ((τ22.1 19)); (first | omega | (simp only [st_s] <;> omega) | assumption | omega))) hT ag (show τ22.1 0 = σ.1 0 from by omega) (show τ22.1 3 = σ.1 3 from by omega) (show τ22.1 5 = σ.1 5 from by omega) (show τ22.1 6 = σ.1 6 from by omega) (show τ22.1 7 = σ.1 7 from by omega) (show τ22.1 8 = σ.1 8 from by omega) (show τ22.1 22 = σ.1 22 from by omega) G0 G6 G7 G25 (show (τ22.1 16) ≤ (τ22.1 0) from by (first | omega | (simp only [st_s] <;> omega) | assumption | omega)) (show (τ22.1 17) + (τ22.1 18) ≤ (τ22.1 0) from by (first | omega | (simp only [st_s] <;> omega) | assumption | omega)) (show oc (τ22.2.1 6) < 4096 from by (first | omega | (simp only [st_s] <;> omega) | assumption | omega)) (show oc (τ22.2.1 7) < 4096 from by (first | omega | (simp only [st_s] <;> omega) | assumption | omega)) (show τ22.2.1 25 (τ22.1 22) + τ22.2.1 26 (τ22.1 22) = (τ22.1 9) from Z4) (show ¬ (σ.1 20) = 0 → (τ22.1 20) = (σ.1 20) from by (first | omega | (simp only [st_s] <;> omega) | assumption | omega)) (show j_eq ((σ.1 9)) (σ.2.1 28) (τ22.2.1 28) from Y8) (show ca (τ22.2.1 28) ((τ22.1 9)) = ca (σ.2.1 28) ((σ.1 9)) from Y9) (show (σ.1 16) ≤ (τ22.1 16) from by (first | omega | (simp only [st_s] <;> omega) | assumption | omega))
                  ·
                    refine ⟨_, K_X13_failHere hT (show 0 ≤ 13 from by (first | omega | (simp only [st_s] <;> omega) | assumption | omega)) (show 13 ≤ 19 from by (first | omega | (simp only [st_s] <;> omega) | assumption | omega)), ?_⟩
                    intro τ29 hn_τ29 hf_τ29 hq
                    obtain ⟨hT, q27_1, q27_2⟩ := hq
                    replace q27_1 : ¬ (τ_0.1 20) = 0 → (τ29.1 20) = (τ_0.1 20) := q27_1
                    replace q27_2 : (τ_0.1 20) = 0 → (τ29.1 20) = 13 := q27_2
                    replace ag : m_ag σ τ29 := ag_r ag hf_τ29 rfl rfl
                    have w0_τ29 : τ29.1 0 = τ_0.1 0 := hf_τ29.1 0 (by decide)
                    have w3_τ29 : τ29.1 3 = τ_0.1 3 := hf_τ29.1 3 (by decide)
                    have w5_τ29 : τ29.1 5 = τ_0.1 5 := hf_τ29.1 5 (by decide)
                    have w6_τ29 : τ29.1 6 = τ_0.1 6 := hf_τ29.1 6 (by decide)
                    have w7_τ29 : τ29.1 7 = τ_0.1 7 := hf_τ29.1 7 (by decide)
                    have w8_τ29 : τ29.1 8 = τ_0.1 8 := hf_τ29.1 8 (by decide)
                    have w9_τ29 : τ29.1 9 = τ_0.1 9 := hf_τ29.1 9 (by decide)
                    have w16_τ29 : τ29.1 16 = τ_0.1 16 := hf_τ29.1 16 (by decide)
                    have w17_τ29 : τ29.1 17 = τ_0.1 17 := hf_τ29.1 17 (by decide)
                    have w18_τ29 : τ29.1 18 = τ_0.1 18 := hf_τ29.1 18 (by decide)
                    have w19_τ29 : τ29.1 19 = τ_0.1 19 := hf_τ29.1 19 (by decide)
                    have w22_τ29 : τ29.1 22 = τ_0.1 22 := hf_τ29.1 22 (by decide)
                    have g0_τ29 : τ29.2.1 0 = τ_0.2.1 0 := hf_τ29.2.1 0 (by decide)
                    have g6_τ29 : τ29.2.1 6 = τ_0.2.1 6 := hf_τ29.2.1 6 (by decide)
                    have g7_τ29 : τ29.2.1 7 = τ_0.2.1 7 := hf_τ29.2.1 7 (by decide)
                    have g25_τ29 : τ29.2.1 25 = τ_0.2.1 25 := hf_τ29.2.1 25 (by decide)
                    have g26_τ29 : τ29.2.1 26 = τ_0.2.1 26 := hf_τ29.2.1 26 (by decide)
                    have g28_τ29 : τ29.2.1 28 = τ_0.2.1 28 := hf_τ29.2.1 28 (by decide)
                    first | (have o6_τ29 := congrArg oc g6_τ29) | skip
                    first | (have o7_τ29 := congrArg oc g7_τ29) | skip
                    have W0 : τ29.1 0 = σ.1 0 := by omega
                    have W3 : τ29.1 3 = σ.1 3 := by omega
                    have W5 : τ29.1 5 = σ.1 5 := by omega
                    have W6 : τ29.1 6 = σ.1 6 := by omega
                    have W7 : τ29.1 7 = σ.1 7 := by omega
                    have W8 : τ29.1 8 = σ.1 8 := by omega
                    have W22 : τ29.1 22 = σ.1 22 := by omega
                    have G0 : τ29.2.1 0 = σ.2.1 0 := (g0_τ29).trans G0
                    have G6 : τ29.2.1 6 = σ.2.1 6 := (g6_τ29).trans G6
                    have G7 : τ29.2.1 7 = σ.2.1 7 := (g7_τ29).trans G7
                    have G25 : τ29.2.1 25 = σ.2.1 25 := (g25_τ29).trans G25
                    have y0_17_τ29 : τ29.2.1 0 (τ29.1 17) = (τ_0.2.1 0) (τ_0.1 17) := by rw [g0_τ29, w17_τ29]
                    have y25_22_τ29 : τ29.2.1 25 (τ29.1 22) = (τ_0.2.1 25) (τ_0.1 22) := by rw [g25_τ29, w22_τ29]
                    have y26_22_τ29 : τ29.2.1 26 (τ29.1 22) = (τ_0.2.1 26) (τ_0.1 22) := by rw [g26_τ29, w22_τ29]
                    have y28_9_τ29 : τ29.2.1 28 (τ29.1 9) = (τ_0.2.1 28) (τ_0.1 9) := by rw [g28_τ29, w9_τ29]
                    have Z4 : τ29.2.1 25 (τ29.1 22) + τ29.2.1 26 (τ29.1 22) = (τ29.1 9) := by rw [show (τ29.2.1 25 (τ29.1 22) + τ29.2.1 26 (τ29.1 22) = (τ29.1 9)) = (τ_0.2.1 25 (τ_0.1 22) + τ_0.2.1 26 (τ_0.1 22) = (τ_0.1 9)) from by rw [w9_τ29, w22_τ29, g25_τ29, g26_τ29]]; exact Z4
                    have Y8 : j_eq ((σ.1 9)) (σ.2.1 28) (τ29.2.1 28) := by rw [show (j_eq ((σ.1 9)) (σ.2.1 28) (τ29.2.1 28)) = (j_eq ((σ.1 9)) (σ.2.1 28) (τ_0.2.1 28)) from by rw [g28_τ29]]; exact Y8
                    have Y9 : ca (τ29.2.1 28) ((τ29.1 9)) = ca (σ.2.1 28) ((σ.1 9)) := by rw [show (ca (τ29.2.1 28) ((τ29.1 9)) = ca (σ.2.1 28) ((σ.1 9))) = (ca (τ_0.2.1 28) ((τ_0.1 9)) = ca (σ.2.1 28) ((σ.1 9))) from by rw [w9_τ29, g28_τ29]]; exact Y9
                    have A0 : ∀ j, 0 ≤ τ29.2.1 0 j ∧ τ29.2.1 0 j ≤ 255 := fun j => hT.2 0 j
                    have A6 : ∀ j, (-1) ≤ τ29.2.1 6 j ∧ τ29.2.1 6 j ≤ 999 := fun j => hT.2 6 j
                    have A7 : ∀ j, (-1) ≤ τ29.2.1 7 j ∧ τ29.2.1 7 j ≤ 1499 := fun j => hT.2 7 j
                    have A25 : ∀ j, 0 ≤ τ29.2.1 25 j ∧ τ29.2.1 25 j ≤ 20000 := fun j => hT.2 25 j
                    have A26 : ∀ j, 0 ≤ τ29.2.1 26 j ∧ τ29.2.1 26 j ≤ 20000 := fun j => hT.2 26 j
                    have A28 : ∀ j, 0 ≤ τ29.2.1 28 j ∧ τ29.2.1 28 j ≤ 1 := fun j => hT.2 28 j
                    have v0 : 0 ≤ τ29.1 0 ∧ τ29.1 0 ≤ 60000 := hT.1 0
                    have v3 : 0 ≤ τ29.1 3 ∧ τ29.1 3 ≤ 1000 := hT.1 3
                    have v5 : 0 ≤ τ29.1 5 ∧ τ29.1 5 ≤ 1500 := hT.1 5
                    have v6 : 0 ≤ τ29.1 6 ∧ τ29.1 6 ≤ 30000 := hT.1 6
                    have v7 : 0 ≤ τ29.1 7 ∧ τ29.1 7 ≤ 90000 := hT.1 7
                    have v8 : 0 ≤ τ29.1 8 ∧ τ29.1 8 ≤ 20000 := hT.1 8
                    have v9 : 0 ≤ τ29.1 9 ∧ τ29.1 9 ≤ 20000 := hT.1 9
                    have v16 : 0 ≤ τ29.1 16 ∧ τ29.1 16 ≤ 60000 := hT.1 16
                    have v17 : 0 ≤ τ29.1 17 ∧ τ29.1 17 ≤ 60000 := hT.1 17
                    have v18 : 0 ≤ τ29.1 18 ∧ τ29.1 18 ≤ 60000 := hT.1 18
                    have v19 : (-1) ≤ τ29.1 19 ∧ τ29.1 19 ≤ 125 := hT.1 19
                    have v20 : 0 ≤ τ29.1 20 ∧ τ29.1 20 ≤ 19 := hT.1 20
                    have v22 : 0 ≤ τ29.1 22 ∧ τ29.1 22 ≤ 1499 := hT.1 22
                    have a0_17 : 0 ≤ τ29.2.1 0 (τ29.1 17) ∧ τ29.2.1 0 (τ29.1 17) ≤ 255 := hT.2 0 _
                    have a25_22 : 0 ≤ τ29.2.1 25 (τ29.1 22) ∧ τ29.2.1 25 (τ29.1 22) ≤ 20000 := hT.2 25 _
                    have a26_22 : 0 ≤ τ29.2.1 26 (τ29.1 22) ∧ τ29.2.1 26 (τ29.1 22) ≤ 20000 := hT.2 26 _
                    have a28_9 : 0 ≤ τ29.2.1 28 (τ29.1 9) ∧ τ29.2.1 28 (τ29.1 9) ≤ 1 := hT.2 28 _
                    have av9 : σ.1 9 ≤ τ29.1 9 := ag.1 9 (by decide)
                    refine h111 _ ?_
                    refine ⟨fun c19 => ?_, fun c19 => ?_⟩
                    ·
                      exact ih_0 _ (show (3 * ((τ29.1 0) - (τ29.1 16)) + z_0 ((τ29.1 20)) + 1 - z_0 ((τ29.1 19)) : Int) < ((m_0 : Nat) : Int) from by (have zz0 := z_e ((τ29.1 20)); have zz1 := z_e ((τ29.1 19)); (first | omega | (simp only [st_s] <;> omega) | assumption | omega))) hT ag (show τ29.1 0 = σ.1 0 from by omega) (show τ29.1 3 = σ.1 3 from by omega) (show τ29.1 5 = σ.1 5 from by omega) (show τ29.1 6 = σ.1 6 from by omega) (show τ29.1 7 = σ.1 7 from by omega) (show τ29.1 8 = σ.1 8 from by omega) (show τ29.1 22 = σ.1 22 from by omega) G0 G6 G7 G25 (show (τ29.1 16) ≤ (τ29.1 0) from by (first | omega | (simp only [st_s] <;> omega) | assumption | omega)) (show (τ29.1 17) + (τ29.1 18) ≤ (τ29.1 0) from by (first | omega | (simp only [st_s] <;> omega) | assumption | omega)) (show oc (τ29.2.1 6) < 4096 from by (first | omega | (simp only [st_s] <;> omega) | assumption | omega)) (show oc (τ29.2.1 7) < 4096 from by (first | omega | (simp only [st_s] <;> omega) | assumption | omega)) (show τ29.2.1 25 (τ29.1 22) + τ29.2.1 26 (τ29.1 22) = (τ29.1 9) from Z4) (show ¬ (σ.1 20) = 0 → (τ29.1 20) = (σ.1 20) from by (first | omega | (simp only [st_s] <;> omega) | assumption | omega)) (show j_eq ((σ.1 9)) (σ.2.1 28) (τ29.2.1 28) from Y8) (show ca (τ29.2.1 28) ((τ29.1 9)) = ca (σ.2.1 28) ((σ.1 9)) from Y9) (show (σ.1 16) ≤ (τ29.1 16) from by (first | omega | (simp only [st_s] <;> omega) | assumption | omega))
                    ·
                      refine ⟨_, K_X13_next hT (show (τ29.1 16) ≤ (τ29.1 0) from by (first | omega | (simp only [st_s] <;> omega) | assumption | omega)), ?_⟩
                      intro τ22 hn_τ22 hf_τ22 hq
                      obtain ⟨hT, q20_1, q20_2, q20_3, q20_4, q20_5⟩ := hq
                      replace q20_1 : (τ22.1 16) ≤ (τ22.1 0) := q20_1
                      replace q20_2 : (τ22.1 17) + (τ22.1 18) ≤ (τ22.1 0) := q20_2
                      replace q20_3 : (τ29.1 16) ≤ (τ22.1 16) := q20_3
                      replace q20_4 : ¬ (τ29.1 20) = 0 → (τ22.1 20) = (τ29.1 20) := q20_4
                      replace q20_5 : (τ22.1 20) = 0 → ¬ (τ22.1 19) = 0 → (τ29.1 16) < (τ22.1 16) ∧ 0 < (τ22.1 18) := q20_5
                      replace ag : m_ag σ τ22 := ag_r ag hf_τ22 rfl rfl
                      have w0_τ22 : τ22.1 0 = τ29.1 0 := hf_τ22.1 0 (by decide)
                      have w3_τ22 : τ22.1 3 = τ29.1 3 := hf_τ22.1 3 (by decide)
                      have w5_τ22 : τ22.1 5 = τ29.1 5 := hf_τ22.1 5 (by decide)
                      have w6_τ22 : τ22.1 6 = τ29.1 6 := hf_τ22.1 6 (by decide)
                      have w7_τ22 : τ22.1 7 = τ29.1 7 := hf_τ22.1 7 (by decide)
                      have w8_τ22 : τ22.1 8 = τ29.1 8 := hf_τ22.1 8 (by decide)
                      have w9_τ22 : τ22.1 9 = τ29.1 9 := hf_τ22.1 9 (by decide)
                      have w22_τ22 : τ22.1 22 = τ29.1 22 := hf_τ22.1 22 (by decide)
                      have g0_τ22 : τ22.2.1 0 = τ29.2.1 0 := hf_τ22.2.1 0 (by decide)
                      have g6_τ22 : τ22.2.1 6 = τ29.2.1 6 := hf_τ22.2.1 6 (by decide)
                      have g7_τ22 : τ22.2.1 7 = τ29.2.1 7 := hf_τ22.2.1 7 (by decide)
                      have g25_τ22 : τ22.2.1 25 = τ29.2.1 25 := hf_τ22.2.1 25 (by decide)
                      have g26_τ22 : τ22.2.1 26 = τ29.2.1 26 := hf_τ22.2.1 26 (by decide)
                      have g28_τ22 : τ22.2.1 28 = τ29.2.1 28 := hf_τ22.2.1 28 (by decide)
                      first | (have o6_τ22 := congrArg oc g6_τ22) | skip
                      first | (have o7_τ22 := congrArg oc g7_τ22) | skip
                      have W0 : τ22.1 0 = σ.1 0 := by omega
                      have W3 : τ22.1 3 = σ.1 3 := by omega
                      have W5 : τ22.1 5 = σ.1 5 := by omega
                      have W6 : τ22.1 6 = σ.1 6 := by omega
                      have W7 : τ22.1 7 = σ.1 7 := by omega
                      have W8 : τ22.1 8 = σ.1 8 := by omega
                      have W22 : τ22.1 22 = σ.1 22 := by omega
                      have G0 : τ22.2.1 0 = σ.2.1 0 := (g0_τ22).trans G0
                      have G6 : τ22.2.1 6 = σ.2.1 6 := (g6_τ22).trans G6
                      have G7 : τ22.2.1 7 = σ.2.1 7 := (g7_τ22).trans G7
                      have G25 : τ22.2.1 25 = σ.2.1 25 := (g25_τ22).trans G25
                      have y25_22_τ22 : τ22.2.1 25 (τ22.1 22) = (τ29.2.1 25) (τ29.1 22) := by rw [g25_τ22, w22_τ22]
                      have y26_22_τ22 : τ22.2.1 26 (τ22.1 22) = (τ29.2.1 26) (τ29.1 22) := by rw [g26_τ22, w22_τ22]
                      have y28_9_τ22 : τ22.2.1 28 (τ22.1 9) = (τ29.2.1 28) (τ29.1 9) := by rw [g28_τ22, w9_τ22]
                      have Z4 : τ22.2.1 25 (τ22.1 22) + τ22.2.1 26 (τ22.1 22) = (τ22.1 9) := by rw [show (τ22.2.1 25 (τ22.1 22) + τ22.2.1 26 (τ22.1 22) = (τ22.1 9)) = (τ29.2.1 25 (τ29.1 22) + τ29.2.1 26 (τ29.1 22) = (τ29.1 9)) from by rw [w9_τ22, w22_τ22, g25_τ22, g26_τ22]]; exact Z4
                      have Y8 : j_eq ((σ.1 9)) (σ.2.1 28) (τ22.2.1 28) := by rw [show (j_eq ((σ.1 9)) (σ.2.1 28) (τ22.2.1 28)) = (j_eq ((σ.1 9)) (σ.2.1 28) (τ29.2.1 28)) from by rw [g28_τ22]]; exact Y8
                      have Y9 : ca (τ22.2.1 28) ((τ22.1 9)) = ca (σ.2.1 28) ((σ.1 9)) := by rw [show (ca (τ22.2.1 28) ((τ22.1 9)) = ca (σ.2.1 28) ((σ.1 9))) = (ca (τ29.2.1 28) ((τ29.1 9)) = ca (σ.2.1 28) ((σ.1 9))) from by rw [w9_τ22, g28_τ22]]; exact Y9
                      have A0 : ∀ j, 0 ≤ τ22.2.1 0 j ∧ τ22.2.1 0 j ≤ 255 := fun j => hT.2 0 j
                      have A6 : ∀ j, (-1) ≤ τ22.2.1 6 j ∧ τ22.2.1 6 j ≤ 999 := fun j => hT.2 6 j
                      have A7 : ∀ j, (-1) ≤ τ22.2.1 7 j ∧ τ22.2.1 7 j ≤ 1499 := fun j => hT.2 7 j
                      have A25 : ∀ j, 0 ≤ τ22.2.1 25 j ∧ τ22.2.1 25 j ≤ 20000 := fun j => hT.2 25 j
                      have A26 : ∀ j, 0 ≤ τ22.2.1 26 j ∧ τ22.2.1 26 j ≤ 20000 := fun j => hT.2 26 j
                      have A28 : ∀ j, 0 ≤ τ22.2.1 28 j ∧ τ22.2.1 28 j ≤ 1 := fun j => hT.2 28 j
                      have v0 : 0 ≤ τ22.1 0 ∧ τ22.1 0 ≤ 60000 := hT.1 0
                      have v3 : 0 ≤ τ22.1 3 ∧ τ22.1 3 ≤ 1000 := hT.1 3
                      have v5 : 0 ≤ τ22.1 5 ∧ τ22.1 5 ≤ 1500 := hT.1 5
                      have v6 : 0 ≤ τ22.1 6 ∧ τ22.1 6 ≤ 30000 := hT.1 6
                      have v7 : 0 ≤ τ22.1 7 ∧ τ22.1 7 ≤ 90000 := hT.1 7
                      have v8 : 0 ≤ τ22.1 8 ∧ τ22.1 8 ≤ 20000 := hT.1 8
                      have v9 : 0 ≤ τ22.1 9 ∧ τ22.1 9 ≤ 20000 := hT.1 9
                      have v16 : 0 ≤ τ22.1 16 ∧ τ22.1 16 ≤ 60000 := hT.1 16
                      have v17 : 0 ≤ τ22.1 17 ∧ τ22.1 17 ≤ 60000 := hT.1 17
                      have v18 : 0 ≤ τ22.1 18 ∧ τ22.1 18 ≤ 60000 := hT.1 18
                      have v19 : (-1) ≤ τ22.1 19 ∧ τ22.1 19 ≤ 125 := hT.1 19
                      have v20 : 0 ≤ τ22.1 20 ∧ τ22.1 20 ≤ 19 := hT.1 20
                      have v22 : 0 ≤ τ22.1 22 ∧ τ22.1 22 ≤ 1499 := hT.1 22
                      have a0_17 : 0 ≤ τ22.2.1 0 (τ22.1 17) ∧ τ22.2.1 0 (τ22.1 17) ≤ 255 := hT.2 0 _
                      have a25_22 : 0 ≤ τ22.2.1 25 (τ22.1 22) ∧ τ22.2.1 25 (τ22.1 22) ≤ 20000 := hT.2 25 _
                      have a26_22 : 0 ≤ τ22.2.1 26 (τ22.1 22) ∧ τ22.2.1 26 (τ22.1 22) ≤ 20000 := hT.2 26 _
                      have a28_9 : 0 ≤ τ22.2.1 28 (τ22.1 9) ∧ τ22.2.1 28 (τ22.1 9) ≤ 1 := hT.2 28 _
                      have av9 : σ.1 9 ≤ τ22.1 9 := ag.1 9 (by decide)
                      exact ih_0 _ (show (3 * ((τ22.1 0) - (τ22.1 16)) + z_0 ((τ22.1 20)) + 1 - z_0 ((τ22.1 19)) : Int) < ((m_0 : Nat) : Int) from by (have zz0 := z_e ((τ22.1 20)); have zz1 := z_e ((τ22.1 19)); (first | omega | (simp only [st_s] <;> omega) | assumption | omega))) hT ag (show τ22.1 0 = σ.1 0 from by omega) (show τ22.1 3 = σ.1 3 from by omega) (show τ22.1 5 = σ.1 5 from by omega) (show τ22.1 6 = σ.1 6 from by omega) (show τ22.1 7 = σ.1 7 from by omega) (show τ22.1 8 = σ.1 8 from by omega) (show τ22.1 22 = σ.1 22 from by omega) G0 G6 G7 G25 (show (τ22.1 16) ≤ (τ22.1 0) from by (first | omega | (simp only [st_s] <;> omega) | assumption | omega)) (show (τ22.1 17) + (τ22.1 18) ≤ (τ22.1 0) from by (first | omega | (simp only [st_s] <;> omega) | assumption | omega)) (show oc (τ22.2.1 6) < 4096 from by (first | omega | (simp only [st_s] <;> omega) | assumption | omega)) (show oc (τ22.2.1 7) < 4096 from by (first | omega | (simp only [st_s] <;> omega) | assumption | omega)) (show τ22.2.1 25 (τ22.1 22) + τ22.2.1 26 (τ22.1 22) = (τ22.1 9) from Z4) (show ¬ (σ.1 20) = 0 → (τ22.1 20) = (σ.1 20) from by (first | omega | (simp only [st_s] <;> omega) | assumption | omega)) (show j_eq ((σ.1 9)) (σ.2.1 28) (τ22.2.1 28) from Y8) (show ca (τ22.2.1 28) ((τ22.1 9)) = ca (σ.2.1 28) ((σ.1 9)) from Y9) (show (σ.1 16) ≤ (τ22.1 16) from by (first | omega | (simp only [st_s] <;> omega) | assumption | omega))
                ·
                  refine ⟨fun c15 => ?_, fun c15 => ?_⟩
                  ·
                    refine h88 _ _ ?_
                    refine ⟨fun c23 => ?_, fun c23 => ?_⟩
                    ·
                      refine ⟨_, K_X13_addStep hT (show -300 ≤ x12 from by (first | omega | (simp only [st_s] <;> omega) | assumption | omega)) (show x12 ≤ 1499 from by (first | omega | (simp only [st_s] <;> omega) | assumption | omega)) (show 0 ≤ (τ_0.1 17) from by (first | omega | (simp only [st_s] <;> omega) | assumption | omega)) (show (τ_0.1 17) ≤ 60000 from by (first | omega | (simp only [st_s] <;> omega) | assumption | omega)) (show (τ_0.1 9) < 20000 from by (first | omega | (simp only [st_s] <;> omega) | assumption | omega)) (show τ_0.2.1 26 (τ_0.1 22) < 20000 from by (first | omega | (simp only [st_s] <;> omega) | assumption | omega)) (show (τ_0.1 22) = (τ_0.1 5) from by (first | omega | (simp only [st_s] <;> omega) | assumption | omega)), ?_⟩
                      intro τ26 hn_τ26 hf_τ26 hq
                      obtain ⟨hT, q24_1, q24_2, q24_3, q24_4, q24_5, q24_6, q24_7⟩ := hq
                      replace q24_1 : (τ26.1 9) = (τ_0.1 9) + 1 := q24_1
                      replace q24_2 : τ26.2.1 26 (τ26.1 22) = τ_0.2.1 26 (τ_0.1 22) + 1 := q24_2
                      replace q24_3 : τ26.2.1 27 = st (τ_0.2.1 27) (τ_0.1 9) x12 := q24_3
                      replace q24_4 : j_eq ((τ_0.1 9)) (τ_0.2.1 28) (τ26.2.1 28) := q24_4
                      replace q24_5 : ca (τ26.2.1 28) ((τ26.1 9)) = ca (τ_0.2.1 28) ((τ_0.1 9)) := q24_5
                      replace q24_6 : τ26.2.1 28 (τ_0.1 9) = 0 := q24_6
                      replace q24_7 : m_ag τ_0 τ26 := q24_7
                      replace ag : m_ag σ τ26 := ag_t ag q24_7 rfl
                      have w0_τ26 : τ26.1 0 = τ_0.1 0 := hf_τ26.1 0 (by decide)
                      have w3_τ26 : τ26.1 3 = τ_0.1 3 := hf_τ26.1 3 (by decide)
                      have w5_τ26 : τ26.1 5 = τ_0.1 5 := hf_τ26.1 5 (by decide)
                      have w6_τ26 : τ26.1 6 = τ_0.1 6 := hf_τ26.1 6 (by decide)
                      have w7_τ26 : τ26.1 7 = τ_0.1 7 := hf_τ26.1 7 (by decide)
                      have w8_τ26 : τ26.1 8 = τ_0.1 8 := hf_τ26.1 8 (by decide)
                      have w16_τ26 : τ26.1 16 = τ_0.1 16 := hf_τ26.1 16 (by decide)
                      have w17_τ26 : τ26.1 17 = τ_0.1 17 := hf_τ26.1 17 (by decide)
                      have w18_τ26 : τ26.1 18 = τ_0.1 18 := hf_τ26.1 18 (by decide)
                      have w19_τ26 : τ26.1 19 = τ_0.1 19 := hf_τ26.1 19 (by decide)
                      have w20_τ26 : τ26.1 20 = τ_0.1 20 := hf_τ26.1 20 (by decide)
                      have w22_τ26 : τ26.1 22 = τ_0.1 22 := hf_τ26.1 22 (by decide)
                      have g0_τ26 : τ26.2.1 0 = τ_0.2.1 0 := hf_τ26.2.1 0 (by decide)
                      have g6_τ26 : τ26.2.1 6 = τ_0.2.1 6 := hf_τ26.2.1 6 (by decide)
                      have g7_τ26 : τ26.2.1 7 = τ_0.2.1 7 := hf_τ26.2.1 7 (by decide)
                      have g25_τ26 : τ26.2.1 25 = τ_0.2.1 25 := hf_τ26.2.1 25 (by decide)
                      first | (have o6_τ26 := congrArg oc g6_τ26) | skip
                      first | (have o7_τ26 := congrArg oc g7_τ26) | skip
                      have W0 : τ26.1 0 = σ.1 0 := by omega
                      have W3 : τ26.1 3 = σ.1 3 := by omega
                      have W5 : τ26.1 5 = σ.1 5 := by omega
                      have W6 : τ26.1 6 = σ.1 6 := by omega
                      have W7 : τ26.1 7 = σ.1 7 := by omega
                      have W8 : τ26.1 8 = σ.1 8 := by omega
                      have W22 : τ26.1 22 = σ.1 22 := by omega
                      have G0 : τ26.2.1 0 = σ.2.1 0 := (g0_τ26).trans G0
                      have G6 : τ26.2.1 6 = σ.2.1 6 := (g6_τ26).trans G6
                      have G7 : τ26.2.1 7 = σ.2.1 7 := (g7_τ26).trans G7
                      have G25 : τ26.2.1 25 = σ.2.1 25 := (g25_τ26).trans G25
                      have y0_17_τ26 : τ26.2.1 0 (τ26.1 17) = (τ_0.2.1 0) (τ_0.1 17) := by rw [g0_τ26, w17_τ26]
                      have y25_22_τ26 : τ26.2.1 25 (τ26.1 22) = (τ_0.2.1 25) (τ_0.1 22) := by rw [g25_τ26, w22_τ26]
                      have A0 : ∀ j, 0 ≤ τ26.2.1 0 j ∧ τ26.2.1 0 j ≤ 255 := fun j => hT.2 0 j
                      have A6 : ∀ j, (-1) ≤ τ26.2.1 6 j ∧ τ26.2.1 6 j ≤ 999 := fun j => hT.2 6 j
                      have A7 : ∀ j, (-1) ≤ τ26.2.1 7 j ∧ τ26.2.1 7 j ≤ 1499 := fun j => hT.2 7 j
                      have A25 : ∀ j, 0 ≤ τ26.2.1 25 j ∧ τ26.2.1 25 j ≤ 20000 := fun j => hT.2 25 j
                      have A26 : ∀ j, 0 ≤ τ26.2.1 26 j ∧ τ26.2.1 26 j ≤ 20000 := fun j => hT.2 26 j
                      have A28 : ∀ j, 0 ≤ τ26.2.1 28 j ∧ τ26.2.1 28 j ≤ 1 := fun j => hT.2 28 j
                      have v0 : 0 ≤ τ26.1 0 ∧ τ26.1 0 ≤ 60000 := hT.1 0
                      have v3 : 0 ≤ τ26.1 3 ∧ τ26.1 3 ≤ 1000 := hT.1 3
                      have v5 : 0 ≤ τ26.1 5 ∧ τ26.1 5 ≤ 1500 := hT.1 5
                      have v6 : 0 ≤ τ26.1 6 ∧ τ26.1 6 ≤ 30000 := hT.1 6
                      have v7 : 0 ≤ τ26.1 7 ∧ τ26.1 7 ≤ 90000 := hT.1 7
                      have v8 : 0 ≤ τ26.1 8 ∧ τ26.1 8 ≤ 20000 := hT.1 8
                      have v9 : 0 ≤ τ26.1 9 ∧ τ26.1 9 ≤ 20000 := hT.1 9
                      have v16 : 0 ≤ τ26.1 16 ∧ τ26.1 16 ≤ 60000 := hT.1 16
                      have v17 : 0 ≤ τ26.1 17 ∧ τ26.1 17 ≤ 60000 := hT.1 17
                      have v18 : 0 ≤ τ26.1 18 ∧ τ26.1 18 ≤ 60000 := hT.1 18
                      have v19 : (-1) ≤ τ26.1 19 ∧ τ26.1 19 ≤ 125 := hT.1 19
                      have v20 : 0 ≤ τ26.1 20 ∧ τ26.1 20 ≤ 19 := hT.1 20
                      have v22 : 0 ≤ τ26.1 22 ∧ τ26.1 22 ≤ 1499 := hT.1 22
                      have a0_17 : 0 ≤ τ26.2.1 0 (τ26.1 17) ∧ τ26.2.1 0 (τ26.1 17) ≤ 255 := hT.2 0 _
                      have a25_22 : 0 ≤ τ26.2.1 25 (τ26.1 22) ∧ τ26.2.1 25 (τ26.1 22) ≤ 20000 := hT.2 25 _
                      have a26_22 : 0 ≤ τ26.2.1 26 (τ26.1 22) ∧ τ26.2.1 26 (τ26.1 22) ≤ 20000 := hT.2 26 _
                      have a28_9 : 0 ≤ τ26.2.1 28 (τ26.1 9) ∧ τ26.2.1 28 (τ26.1 9) ≤ 1 := hT.2 28 _
                      have av9 : σ.1 9 ≤ τ26.1 9 := ag.1 9 (by decide)
                      have Z4 : τ26.2.1 25 (τ26.1 22) + τ26.2.1 26 (τ26.1 22) = τ26.1 9 := by omega
                      have Y8 := j_eqt Y8 (j_eqw q24_4 (show σ.1 9 ≤ τ_0.1 9 from by omega))
                      have Y9 := q24_5.trans Y9
                      refine h111 _ ?_
                      refine ⟨fun c19 => ?_, fun c19 => ?_⟩
                      ·
                        exact ih_0 _ (show (3 * ((τ26.1 0) - (τ26.1 16)) + z_0 ((τ26.1 20)) + 1 - z_0 ((τ26.1 19)) : Int) < ((m_0 : Nat) : Int) from by (have zz0 := z_e ((τ26.1 20)); have zz1 := z_e ((τ26.1 19)); (first | omega | (simp only [st_s] <;> omega) | assumption | omega))) hT ag (show τ26.1 0 = σ.1 0 from by omega) (show τ26.1 3 = σ.1 3 from by omega) (show τ26.1 5 = σ.1 5 from by omega) (show τ26.1 6 = σ.1 6 from by omega) (show τ26.1 7 = σ.1 7 from by omega) (show τ26.1 8 = σ.1 8 from by omega) (show τ26.1 22 = σ.1 22 from by omega) G0 G6 G7 G25 (show (τ26.1 16) ≤ (τ26.1 0) from by (first | omega | (simp only [st_s] <;> omega) | assumption | omega)) (show (τ26.1 17) + (τ26.1 18) ≤ (τ26.1 0) from by (first | omega | (simp only [st_s] <;> omega) | assumption | omega)) (show oc (τ26.2.1 6) < 4096 from by (first | omega | (simp only [st_s] <;> omega) | assumption | omega)) (show oc (τ26.2.1 7) < 4096 from by (first | omega | (simp only [st_s] <;> omega) | assumption | omega)) (show τ26.2.1 25 (τ26.1 22) + τ26.2.1 26 (τ26.1 22) = (τ26.1 9) from Z4) (show ¬ (σ.1 20) = 0 → (τ26.1 20) = (σ.1 20) from by (first | omega | (simp only [st_s] <;> omega) | assumption | omega)) (show j_eq ((σ.1 9)) (σ.2.1 28) (τ26.2.1 28) from Y8) (show ca (τ26.2.1 28) ((τ26.1 9)) = ca (σ.2.1 28) ((σ.1 9)) from Y9) (show (σ.1 16) ≤ (τ26.1 16) from by (first | omega | (simp only [st_s] <;> omega) | assumption | omega))
                      ·
                        refine ⟨_, K_X13_next hT (show (τ26.1 16) ≤ (τ26.1 0) from by (first | omega | (simp only [st_s] <;> omega) | assumption | omega)), ?_⟩
                        intro τ22 hn_τ22 hf_τ22 hq
                        obtain ⟨hT, q20_1, q20_2, q20_3, q20_4, q20_5⟩ := hq
                        replace q20_1 : (τ22.1 16) ≤ (τ22.1 0) := q20_1
                        replace q20_2 : (τ22.1 17) + (τ22.1 18) ≤ (τ22.1 0) := q20_2
                        replace q20_3 : (τ26.1 16) ≤ (τ22.1 16) := q20_3
                        replace q20_4 : ¬ (τ26.1 20) = 0 → (τ22.1 20) = (τ26.1 20) := q20_4
                        replace q20_5 : (τ22.1 20) = 0 → ¬ (τ22.1 19) = 0 → (τ26.1 16) < (τ22.1 16) ∧ 0 < (τ22.1 18) := q20_5
                        replace ag : m_ag σ τ22 := ag_r ag hf_τ22 rfl rfl
                        have w0_τ22 : τ22.1 0 = τ26.1 0 := hf_τ22.1 0 (by decide)
                        have w3_τ22 : τ22.1 3 = τ26.1 3 := hf_τ22.1 3 (by decide)
                        have w5_τ22 : τ22.1 5 = τ26.1 5 := hf_τ22.1 5 (by decide)
                        have w6_τ22 : τ22.1 6 = τ26.1 6 := hf_τ22.1 6 (by decide)
                        have w7_τ22 : τ22.1 7 = τ26.1 7 := hf_τ22.1 7 (by decide)
                        have w8_τ22 : τ22.1 8 = τ26.1 8 := hf_τ22.1 8 (by decide)
                        have w9_τ22 : τ22.1 9 = τ26.1 9 := hf_τ22.1 9 (by decide)
                        have w22_τ22 : τ22.1 22 = τ26.1 22 := hf_τ22.1 22 (by decide)
                        have g0_τ22 : τ22.2.1 0 = τ26.2.1 0 := hf_τ22.2.1 0 (by decide)
                        have g6_τ22 : τ22.2.1 6 = τ26.2.1 6 := hf_τ22.2.1 6 (by decide)
                        have g7_τ22 : τ22.2.1 7 = τ26.2.1 7 := hf_τ22.2.1 7 (by decide)
                        have g25_τ22 : τ22.2.1 25 = τ26.2.1 25 := hf_τ22.2.1 25 (by decide)
                        have g26_τ22 : τ22.2.1 26 = τ26.2.1 26 := hf_τ22.2.1 26 (by decide)
                        have g28_τ22 : τ22.2.1 28 = τ26.2.1 28 := hf_τ22.2.1 28 (by decide)
                        first | (have o6_τ22 := congrArg oc g6_τ22) | skip
                        first | (have o7_τ22 := congrArg oc g7_τ22) | skip
                        have W0 : τ22.1 0 = σ.1 0 := by omega
                        have W3 : τ22.1 3 = σ.1 3 := by omega
                        have W5 : τ22.1 5 = σ.1 5 := by omega
                        have W6 : τ22.1 6 = σ.1 6 := by omega
                        have W7 : τ22.1 7 = σ.1 7 := by omega
                        have W8 : τ22.1 8 = σ.1 8 := by omega
                        have W22 : τ22.1 22 = σ.1 22 := by omega
                        have G0 : τ22.2.1 0 = σ.2.1 0 := (g0_τ22).trans G0
                        have G6 : τ22.2.1 6 = σ.2.1 6 := (g6_τ22).trans G6
                        have G7 : τ22.2.1 7 = σ.2.1 7 := (g7_τ22).trans G7
                        have G25 : τ22.2.1 25 = σ.2.1 25 := (g25_τ22).trans G25
                        have y25_22_τ22 : τ22.2.1 25 (τ22.1 22) = (τ26.2.1 25) (τ26.1 22) := by rw [g25_τ22, w22_τ22]
                        have y26_22_τ22 : τ22.2.1 26 (τ22.1 22) = (τ26.2.1 26) (τ26.1 22) := by rw [g26_τ22, w22_τ22]
                        have y28_9_τ22 : τ22.2.1 28 (τ22.1 9) = (τ26.2.1 28) (τ26.1 9) := by rw [g28_τ22, w9_τ22]
                        have Z4 : τ22.2.1 25 (τ22.1 22) + τ22.2.1 26 (τ22.1 22) = (τ22.1 9) := by rw [show (τ22.2.1 25 (τ22.1 22) + τ22.2.1 26 (τ22.1 22) = (τ22.1 9)) = (τ26.2.1 25 (τ26.1 22) + τ26.2.1 26 (τ26.1 22) = (τ26.1 9)) from by rw [w9_τ22, w22_τ22, g25_τ22, g26_τ22]]; exact Z4
                        have Y8 : j_eq ((σ.1 9)) (σ.2.1 28) (τ22.2.1 28) := by rw [show (j_eq ((σ.1 9)) (σ.2.1 28) (τ22.2.1 28)) = (j_eq ((σ.1 9)) (σ.2.1 28) (τ26.2.1 28)) from by rw [g28_τ22]]; exact Y8
                        have Y9 : ca (τ22.2.1 28) ((τ22.1 9)) = ca (σ.2.1 28) ((σ.1 9)) := by rw [show (ca (τ22.2.1 28) ((τ22.1 9)) = ca (σ.2.1 28) ((σ.1 9))) = (ca (τ26.2.1 28) ((τ26.1 9)) = ca (σ.2.1 28) ((σ.1 9))) from by rw [w9_τ22, g28_τ22]]; exact Y9
                        have A0 : ∀ j, 0 ≤ τ22.2.1 0 j ∧ τ22.2.1 0 j ≤ 255 := fun j => hT.2 0 j
                        have A6 : ∀ j, (-1) ≤ τ22.2.1 6 j ∧ τ22.2.1 6 j ≤ 999 := fun j => hT.2 6 j
                        have A7 : ∀ j, (-1) ≤ τ22.2.1 7 j ∧ τ22.2.1 7 j ≤ 1499 := fun j => hT.2 7 j
                        have A25 : ∀ j, 0 ≤ τ22.2.1 25 j ∧ τ22.2.1 25 j ≤ 20000 := fun j => hT.2 25 j
                        have A26 : ∀ j, 0 ≤ τ22.2.1 26 j ∧ τ22.2.1 26 j ≤ 20000 := fun j => hT.2 26 j
                        have A28 : ∀ j, 0 ≤ τ22.2.1 28 j ∧ τ22.2.1 28 j ≤ 1 := fun j => hT.2 28 j
                        have v0 : 0 ≤ τ22.1 0 ∧ τ22.1 0 ≤ 60000 := hT.1 0
                        have v3 : 0 ≤ τ22.1 3 ∧ τ22.1 3 ≤ 1000 := hT.1 3
                        have v5 : 0 ≤ τ22.1 5 ∧ τ22.1 5 ≤ 1500 := hT.1 5
                        have v6 : 0 ≤ τ22.1 6 ∧ τ22.1 6 ≤ 30000 := hT.1 6
                        have v7 : 0 ≤ τ22.1 7 ∧ τ22.1 7 ≤ 90000 := hT.1 7
                        have v8 : 0 ≤ τ22.1 8 ∧ τ22.1 8 ≤ 20000 := hT.1 8
                        have v9 : 0 ≤ τ22.1 9 ∧ τ22.1 9 ≤ 20000 := hT.1 9
                        have v16 : 0 ≤ τ22.1 16 ∧ τ22.1 16 ≤ 60000 := hT.1 16
                        have v17 : 0 ≤ τ22.1 17 ∧ τ22.1 17 ≤ 60000 := hT.1 17
                        have v18 : 0 ≤ τ22.1 18 ∧ τ22.1 18 ≤ 60000 := hT.1 18
                        have v19 : (-1) ≤ τ22.1 19 ∧ τ22.1 19 ≤ 125 := hT.1 19
                        have v20 : 0 ≤ τ22.1 20 ∧ τ22.1 20 ≤ 19 := hT.1 20
                        have v22 : 0 ≤ τ22.1 22 ∧ τ22.1 22 ≤ 1499 := hT.1 22
                        have a0_17 : 0 ≤ τ22.2.1 0 (τ22.1 17) ∧ τ22.2.1 0 (τ22.1 17) ≤ 255 := hT.2 0 _
                        have a25_22 : 0 ≤ τ22.2.1 25 (τ22.1 22) ∧ τ22.2.1 25 (τ22.1 22) ≤ 20000 := hT.2 25 _
                        have a26_22 : 0 ≤ τ22.2.1 26 (τ22.1 22) ∧ τ22.2.1 26 (τ22.1 22) ≤ 20000 := hT.2 26 _
                        have a28_9 : 0 ≤ τ22.2.1 28 (τ22.1 9) ∧ τ22.2.1 28 (τ22.1 9) ≤ 1 := hT.2 28 _
                        have av9 : σ.1 9 ≤ τ22.1 9 := ag.1 9 (by decide)
                        exact ih_0 _ (show (3 * ((τ22.1 0) - (τ22.1 16)) + z_0 ((τ22.1 20)) + 1 - z_0 ((τ22.1 19)) : Int) < ((m_0 : Nat) : Int) from by (have zz0 := z_e ((τ22.1 20)); have zz1 := z_e ((τ22.1 19)); (first | omega | (simp only [st_s] <;> omega) | assumption | omega))) hT ag (show τ22.1 0 = σ.1 0 from by omega) (show τ22.1 3 = σ.1 3 from by omega) (show τ22.1 5 = σ.1 5 from by omega) (show τ22.1 6 = σ.1 6 from by omega) (show τ22.1 7 = σ.1 7 from by omega) (show τ22.1 8 = σ.1 8 from by omega) (show τ22.1 22 = σ.1 22 from by omega) G0 G6 G7 G25 (show (τ22.1 16) ≤ (τ22.1 0) from by (first | omega | (simp only [st_s] <;> omega) | assumption | omega)) (show (τ22.1 17) + (τ22.1 18) ≤ (τ22.1 0) from by (first | omega | (simp only [st_s] <;> omega) | assumption | omega)) (show oc (τ22.2.1 6) < 4096 from by (first | omega | (simp only [st_s] <;> omega) | assumption | omega)) (show oc (τ22.2.1 7) < 4096 from by (first | omega | (simp only [st_s] <;> omega) | assumption | omega)) (show τ22.2.1 25 (τ22.1 22) + τ22.2.1 26 (τ22.1 22) = (τ22.1 9) from Z4) (show ¬ (σ.1 20) = 0 → (τ22.1 20) = (σ.1 20) from by (first | omega | (simp only [st_s] <;> omega) | assumption | omega)) (show j_eq ((σ.1 9)) (σ.2.1 28) (τ22.2.1 28) from Y8) (show ca (τ22.2.1 28) ((τ22.1 9)) = ca (σ.2.1 28) ((σ.1 9)) from Y9) (show (σ.1 16) ≤ (τ22.1 16) from by (first | omega | (simp only [st_s] <;> omega) | assumption | omega))
                    ·
                      refine ⟨_, K_X13_failHere hT (show 0 ≤ 13 from by (first | omega | (simp only [st_s] <;> omega) | assumption | omega)) (show 13 ≤ 19 from by (first | omega | (simp only [st_s] <;> omega) | assumption | omega)), ?_⟩
                      intro τ29 hn_τ29 hf_τ29 hq
                      obtain ⟨hT, q27_1, q27_2⟩ := hq
                      replace q27_1 : ¬ (τ_0.1 20) = 0 → (τ29.1 20) = (τ_0.1 20) := q27_1
                      replace q27_2 : (τ_0.1 20) = 0 → (τ29.1 20) = 13 := q27_2
                      replace ag : m_ag σ τ29 := ag_r ag hf_τ29 rfl rfl
                      have w0_τ29 : τ29.1 0 = τ_0.1 0 := hf_τ29.1 0 (by decide)
                      have w3_τ29 : τ29.1 3 = τ_0.1 3 := hf_τ29.1 3 (by decide)
                      have w5_τ29 : τ29.1 5 = τ_0.1 5 := hf_τ29.1 5 (by decide)
                      have w6_τ29 : τ29.1 6 = τ_0.1 6 := hf_τ29.1 6 (by decide)
                      have w7_τ29 : τ29.1 7 = τ_0.1 7 := hf_τ29.1 7 (by decide)
                      have w8_τ29 : τ29.1 8 = τ_0.1 8 := hf_τ29.1 8 (by decide)
                      have w9_τ29 : τ29.1 9 = τ_0.1 9 := hf_τ29.1 9 (by decide)
                      have w16_τ29 : τ29.1 16 = τ_0.1 16 := hf_τ29.1 16 (by decide)
                      have w17_τ29 : τ29.1 17 = τ_0.1 17 := hf_τ29.1 17 (by decide)
                      have w18_τ29 : τ29.1 18 = τ_0.1 18 := hf_τ29.1 18 (by decide)
                      have w19_τ29 : τ29.1 19 = τ_0.1 19 := hf_τ29.1 19 (by decide)
                      have w22_τ29 : τ29.1 22 = τ_0.1 22 := hf_τ29.1 22 (by decide)
                      have g0_τ29 : τ29.2.1 0 = τ_0.2.1 0 := hf_τ29.2.1 0 (by decide)
                      have g6_τ29 : τ29.2.1 6 = τ_0.2.1 6 := hf_τ29.2.1 6 (by decide)
                      have g7_τ29 : τ29.2.1 7 = τ_0.2.1 7 := hf_τ29.2.1 7 (by decide)
                      have g25_τ29 : τ29.2.1 25 = τ_0.2.1 25 := hf_τ29.2.1 25 (by decide)
                      have g26_τ29 : τ29.2.1 26 = τ_0.2.1 26 := hf_τ29.2.1 26 (by decide)
                      have g28_τ29 : τ29.2.1 28 = τ_0.2.1 28 := hf_τ29.2.1 28 (by decide)
                      first | (have o6_τ29 := congrArg oc g6_τ29) | skip
                      first | (have o7_τ29 := congrArg oc g7_τ29) | skip
                      have W0 : τ29.1 0 = σ.1 0 := by omega
                      have W3 : τ29.1 3 = σ.1 3 := by omega
                      have W5 : τ29.1 5 = σ.1 5 := by omega
                      have W6 : τ29.1 6 = σ.1 6 := by omega
                      have W7 : τ29.1 7 = σ.1 7 := by omega
                      have W8 : τ29.1 8 = σ.1 8 := by omega
                      have W22 : τ29.1 22 = σ.1 22 := by omega
                      have G0 : τ29.2.1 0 = σ.2.1 0 := (g0_τ29).trans G0
                      have G6 : τ29.2.1 6 = σ.2.1 6 := (g6_τ29).trans G6
                      have G7 : τ29.2.1 7 = σ.2.1 7 := (g7_τ29).trans G7
                      have G25 : τ29.2.1 25 = σ.2.1 25 := (g25_τ29).trans G25
                      have y0_17_τ29 : τ29.2.1 0 (τ29.1 17) = (τ_0.2.1 0) (τ_0.1 17) := by rw [g0_τ29, w17_τ29]
                      have y25_22_τ29 : τ29.2.1 25 (τ29.1 22) = (τ_0.2.1 25) (τ_0.1 22) := by rw [g25_τ29, w22_τ29]
                      have y26_22_τ29 : τ29.2.1 26 (τ29.1 22) = (τ_0.2.1 26) (τ_0.1 22) := by rw [g26_τ29, w22_τ29]
                      have y28_9_τ29 : τ29.2.1 28 (τ29.1 9) = (τ_0.2.1 28) (τ_0.1 9) := by rw [g28_τ29, w9_τ29]
                      have Z4 : τ29.2.1 25 (τ29.1 22) + τ29.2.1 26 (τ29.1 22) = (τ29.1 9) := by rw [show (τ29.2.1 25 (τ29.1 22) + τ29.2.1 26 (τ29.1 22) = (τ29.1 9)) = (τ_0.2.1 25 (τ_0.1 22) + τ_0.2.1 26 (τ_0.1 22) = (τ_0.1 9)) from by rw [w9_τ29, w22_τ29, g25_τ29, g26_τ29]]; exact Z4
                      have Y8 : j_eq ((σ.1 9)) (σ.2.1 28) (τ29.2.1 28) := by rw [show (j_eq ((σ.1 9)) (σ.2.1 28) (τ29.2.1 28)) = (j_eq ((σ.1 9)) (σ.2.1 28) (τ_0.2.1 28)) from by rw [g28_τ29]]; exact Y8
                      have Y9 : ca (τ29.2.1 28) ((τ29.1 9)) = ca (σ.2.1 28) ((σ.1 9)) := by rw [show (ca (τ29.2.1 28) ((τ29.1 9)) = ca (σ.2.1 28) ((σ.1 9))) = (ca (τ_0.2.1 28) ((τ_0.1 9)) = ca (σ.2.1 28) ((σ.1 9))) from by rw [w9_τ29, g28_τ29]]; exact Y9
                      have A0 : ∀ j, 0 ≤ τ29.2.1 0 j ∧ τ29.2.1 0 j ≤ 255 := fun j => hT.2 0 j
                      have A6 : ∀ j, (-1) ≤ τ29.2.1 6 j ∧ τ29.2.1 6 j ≤ 999 := fun j => hT.2 6 j
                      have A7 : ∀ j, (-1) ≤ τ29.2.1 7 j ∧ τ29.2.1 7 j ≤ 1499 := fun j => hT.2 7 j
                      have A25 : ∀ j, 0 ≤ τ29.2.1 25 j ∧ τ29.2.1 25 j ≤ 20000 := fun j => hT.2 25 j
                      have A26 : ∀ j, 0 ≤ τ29.2.1 26 j ∧ τ29.2.1 26 j ≤ 20000 := fun j => hT.2 26 j
                      have A28 : ∀ j, 0 ≤ τ29.2.1 28 j ∧ τ29.2.1 28 j ≤ 1 := fun j => hT.2 28 j
                      have v0 : 0 ≤ τ29.1 0 ∧ τ29.1 0 ≤ 60000 := hT.1 0
                      have v3 : 0 ≤ τ29.1 3 ∧ τ29.1 3 ≤ 1000 := hT.1 3
                      have v5 : 0 ≤ τ29.1 5 ∧ τ29.1 5 ≤ 1500 := hT.1 5
                      have v6 : 0 ≤ τ29.1 6 ∧ τ29.1 6 ≤ 30000 := hT.1 6
                      have v7 : 0 ≤ τ29.1 7 ∧ τ29.1 7 ≤ 90000 := hT.1 7
                      have v8 : 0 ≤ τ29.1 8 ∧ τ29.1 8 ≤ 20000 := hT.1 8
                      have v9 : 0 ≤ τ29.1 9 ∧ τ29.1 9 ≤ 20000 := hT.1 9
                      have v16 : 0 ≤ τ29.1 16 ∧ τ29.1 16 ≤ 60000 := hT.1 16
                      have v17 : 0 ≤ τ29.1 17 ∧ τ29.1 17 ≤ 60000 := hT.1 17
                      have v18 : 0 ≤ τ29.1 18 ∧ τ29.1 18 ≤ 60000 := hT.1 18
                      have v19 : (-1) ≤ τ29.1 19 ∧ τ29.1 19 ≤ 125 := hT.1 19
                      have v20 : 0 ≤ τ29.1 20 ∧ τ29.1 20 ≤ 19 := hT.1 20
                      have v22 : 0 ≤ τ29.1 22 ∧ τ29.1 22 ≤ 1499 := hT.1 22
                      have a0_17 : 0 ≤ τ29.2.1 0 (τ29.1 17) ∧ τ29.2.1 0 (τ29.1 17) ≤ 255 := hT.2 0 _
                      have a25_22 : 0 ≤ τ29.2.1 25 (τ29.1 22) ∧ τ29.2.1 25 (τ29.1 22) ≤ 20000 := hT.2 25 _
                      have a26_22 : 0 ≤ τ29.2.1 26 (τ29.1 22) ∧ τ29.2.1 26 (τ29.1 22) ≤ 20000 := hT.2 26 _
                      have a28_9 : 0 ≤ τ29.2.1 28 (τ29.1 9) ∧ τ29.2.1 28 (τ29.1 9) ≤ 1 := hT.2 28 _
                      have av9 : σ.1 9 ≤ τ29.1 9 := ag.1 9 (by decide)
                      refine h111 _ ?_
                      refine ⟨fun c19 => ?_, fun c19 => ?_⟩
                      ·
                        exact ih_0 _ (show (3 * ((τ29.1 0) - (τ29.1 16)) + z_0 ((τ29.1 20)) + 1 - z_0 ((τ29.1 19)) : Int) < ((m_0 : Nat) : Int) from by (have zz0 := z_e ((τ29.1 20)); have zz1 := z_e ((τ29.1 19)); (first | omega | (simp only [st_s] <;> omega) | assumption | omega))) hT ag (show τ29.1 0 = σ.1 0 from by omega) (show τ29.1 3 = σ.1 3 from by omega) (show τ29.1 5 = σ.1 5 from by omega) (show τ29.1 6 = σ.1 6 from by omega) (show τ29.1 7 = σ.1 7 from by omega) (show τ29.1 8 = σ.1 8 from by omega) (show τ29.1 22 = σ.1 22 from by omega) G0 G6 G7 G25 (show (τ29.1 16) ≤ (τ29.1 0) from by (first | omega | (simp only [st_s] <;> omega) | assumption | omega)) (show (τ29.1 17) + (τ29.1 18) ≤ (τ29.1 0) from by (first | omega | (simp only [st_s] <;> omega) | assumption | omega)) (show oc (τ29.2.1 6) < 4096 from by (first | omega | (simp only [st_s] <;> omega) | assumption | omega)) (show oc (τ29.2.1 7) < 4096 from by (first | omega | (simp only [st_s] <;> omega) | assumption | omega)) (show τ29.2.1 25 (τ29.1 22) + τ29.2.1 26 (τ29.1 22) = (τ29.1 9) from Z4) (show ¬ (σ.1 20) = 0 → (τ29.1 20) = (σ.1 20) from by (first | omega | (simp only [st_s] <;> omega) | assumption | omega)) (show j_eq ((σ.1 9)) (σ.2.1 28) (τ29.2.1 28) from Y8) (show ca (τ29.2.1 28) ((τ29.1 9)) = ca (σ.2.1 28) ((σ.1 9)) from Y9) (show (σ.1 16) ≤ (τ29.1 16) from by (first | omega | (simp only [st_s] <;> omega) | assumption | omega))
                      ·
                        refine ⟨_, K_X13_next hT (show (τ29.1 16) ≤ (τ29.1 0) from by (first | omega | (simp only [st_s] <;> omega) | assumption | omega)), ?_⟩
                        intro τ22 hn_τ22 hf_τ22 hq
                        obtain ⟨hT, q20_1, q20_2, q20_3, q20_4, q20_5⟩ := hq
                        replace q20_1 : (τ22.1 16) ≤ (τ22.1 0) := q20_1
                        replace q20_2 : (τ22.1 17) + (τ22.1 18) ≤ (τ22.1 0) := q20_2
                        replace q20_3 : (τ29.1 16) ≤ (τ22.1 16) := q20_3
                        replace q20_4 : ¬ (τ29.1 20) = 0 → (τ22.1 20) = (τ29.1 20) := q20_4
                        replace q20_5 : (τ22.1 20) = 0 → ¬ (τ22.1 19) = 0 → (τ29.1 16) < (τ22.1 16) ∧ 0 < (τ22.1 18) := q20_5
                        replace ag : m_ag σ τ22 := ag_r ag hf_τ22 rfl rfl
                        have w0_τ22 : τ22.1 0 = τ29.1 0 := hf_τ22.1 0 (by decide)
                        have w3_τ22 : τ22.1 3 = τ29.1 3 := hf_τ22.1 3 (by decide)
                        have w5_τ22 : τ22.1 5 = τ29.1 5 := hf_τ22.1 5 (by decide)
                        have w6_τ22 : τ22.1 6 = τ29.1 6 := hf_τ22.1 6 (by decide)
                        have w7_τ22 : τ22.1 7 = τ29.1 7 := hf_τ22.1 7 (by decide)
                        have w8_τ22 : τ22.1 8 = τ29.1 8 := hf_τ22.1 8 (by decide)
                        have w9_τ22 : τ22.1 9 = τ29.1 9 := hf_τ22.1 9 (by decide)
                        have w22_τ22 : τ22.1 22 = τ29.1 22 := hf_τ22.1 22 (by decide)
                        have g0_τ22 : τ22.2.1 0 = τ29.2.1 0 := hf_τ22.2.1 0 (by decide)
                        have g6_τ22 : τ22.2.1 6 = τ29.2.1 6 := hf_τ22.2.1 6 (by decide)
                        have g7_τ22 : τ22.2.1 7 = τ29.2.1 7 := hf_τ22.2.1 7 (by decide)
                        have g25_τ22 : τ22.2.1 25 = τ29.2.1 25 := hf_τ22.2.1 25 (by decide)
                        have g26_τ22 : τ22.2.1 26 = τ29.2.1 26 := hf_τ22.2.1 26 (by decide)
                        have g28_τ22 : τ22.2.1 28 = τ29.2.1 28 := hf_τ22.2.1 28 (by decide)
                        first | (have o6_τ22 := congrArg oc g6_τ22) | skip
                        first | (have o7_τ22 := congrArg oc g7_τ22) | skip
                        have W0 : τ22.1 0 = σ.1 0 := by omega
                        have W3 : τ22.1 3 = σ.1 3 := by omega
                        have W5 : τ22.1 5 = σ.1 5 := by omega
                        have W6 : τ22.1 6 = σ.1 6 := by omega
                        have W7 : τ22.1 7 = σ.1 7 := by omega
                        have W8 : τ22.1 8 = σ.1 8 := by omega
                        have W22 : τ22.1 22 = σ.1 22 := by omega
                        have G0 : τ22.2.1 0 = σ.2.1 0 := (g0_τ22).trans G0
                        have G6 : τ22.2.1 6 = σ.2.1 6 := (g6_τ22).trans G6
                        have G7 : τ22.2.1 7 = σ.2.1 7 := (g7_τ22).trans G7
                        have G25 : τ22.2.1 25 = σ.2.1 25 := (g25_τ22).trans G25
                        have y25_22_τ22 : τ22.2.1 25 (τ22.1 22) = (τ29.2.1 25) (τ29.1 22) := by rw [g25_τ22, w22_τ22]
                        have y26_22_τ22 : τ22.2.1 26 (τ22.1 22) = (τ29.2.1 26) (τ29.1 22) := by rw [g26_τ22, w22_τ22]
                        have y28_9_τ22 : τ22.2.1 28 (τ22.1 9) = (τ29.2.1 28) (τ29.1 9) := by rw [g28_τ22, w9_τ22]
                        have Z4 : τ22.2.1 25 (τ22.1 22) + τ22.2.1 26 (τ22.1 22) = (τ22.1 9) := by rw [show (τ22.2.1 25 (τ22.1 22) + τ22.2.1 26 (τ22.1 22) = (τ22.1 9)) = (τ29.2.1 25 (τ29.1 22) + τ29.2.1 26 (τ29.1 22) = (τ29.1 9)) from by rw [w9_τ22, w22_τ22, g25_τ22, g26_τ22]]; exact Z4
                        have Y8 : j_eq ((σ.1 9)) (σ.2.1 28) (τ22.2.1 28) := by rw [show (j_eq ((σ.1 9)) (σ.2.1 28) (τ22.2.1 28)) = (j_eq ((σ.1 9)) (σ.2.1 28) (τ29.2.1 28)) from by rw [g28_τ22]]; exact Y8
                        have Y9 : ca (τ22.2.1 28) ((τ22.1 9)) = ca (σ.2.1 28) ((σ.1 9)) := by rw [show (ca (τ22.2.1 28) ((τ22.1 9)) = ca (σ.2.1 28) ((σ.1 9))) = (ca (τ29.2.1 28) ((τ29.1 9)) = ca (σ.2.1 28) ((σ.1 9))) from by rw [w9_τ22, g28_τ22]]; exact Y9
                        have A0 : ∀ j, 0 ≤ τ22.2.1 0 j ∧ τ22.2.1 0 j ≤ 255 := fun j => hT.2 0 j
                        have A6 : ∀ j, (-1) ≤ τ22.2.1 6 j ∧ τ22.2.1 6 j ≤ 999 := fun j => hT.2 6 j
                        have A7 : ∀ j, (-1) ≤ τ22.2.1 7 j ∧ τ22.2.1 7 j ≤ 1499 := fun j => hT.2 7 j
                        have A25 : ∀ j, 0 ≤ τ22.2.1 25 j ∧ τ22.2.1 25 j ≤ 20000 := fun j => hT.2 25 j
                        have A26 : ∀ j, 0 ≤ τ22.2.1 26 j ∧ τ22.2.1 26 j ≤ 20000 := fun j => hT.2 26 j
                        have A28 : ∀ j, 0 ≤ τ22.2.1 28 j ∧ τ22.2.1 28 j ≤ 1 := fun j => hT.2 28 j
                        have v0 : 0 ≤ τ22.1 0 ∧ τ22.1 0 ≤ 60000 := hT.1 0
                        have v3 : 0 ≤ τ22.1 3 ∧ τ22.1 3 ≤ 1000 := hT.1 3
                        have v5 : 0 ≤ τ22.1 5 ∧ τ22.1 5 ≤ 1500 := hT.1 5
                        have v6 : 0 ≤ τ22.1 6 ∧ τ22.1 6 ≤ 30000 := hT.1 6
                        have v7 : 0 ≤ τ22.1 7 ∧ τ22.1 7 ≤ 90000 := hT.1 7
                        have v8 : 0 ≤ τ22.1 8 ∧ τ22.1 8 ≤ 20000 := hT.1 8
                        have v9 : 0 ≤ τ22.1 9 ∧ τ22.1 9 ≤ 20000 := hT.1 9
                        have v16 : 0 ≤ τ22.1 16 ∧ τ22.1 16 ≤ 60000 := hT.1 16
                        have v17 : 0 ≤ τ22.1 17 ∧ τ22.1 17 ≤ 60000 := hT.1 17
                        have v18 : 0 ≤ τ22.1 18 ∧ τ22.1 18 ≤ 60000 := hT.1 18
                        have v19 : (-1) ≤ τ22.1 19 ∧ τ22.1 19 ≤ 125 := hT.1 19
                        have v20 : 0 ≤ τ22.1 20 ∧ τ22.1 20 ≤ 19 := hT.1 20
                        have v22 : 0 ≤ τ22.1 22 ∧ τ22.1 22 ≤ 1499 := hT.1 22
                        have a0_17 : 0 ≤ τ22.2.1 0 (τ22.1 17) ∧ τ22.2.1 0 (τ22.1 17) ≤ 255 := hT.2 0 _
                        have a25_22 : 0 ≤ τ22.2.1 25 (τ22.1 22) ∧ τ22.2.1 25 (τ22.1 22) ≤ 20000 := hT.2 25 _
                        have a26_22 : 0 ≤ τ22.2.1 26 (τ22.1 22) ∧ τ22.2.1 26 (τ22.1 22) ≤ 20000 := hT.2 26 _
                        have a28_9 : 0 ≤ τ22.2.1 28 (τ22.1 9) ∧ τ22.2.1 28 (τ22.1 9) ≤ 1 := hT.2 28 _
                        have av9 : σ.1 9 ≤ τ22.1 9 := ag.1 9 (by decide)
                        exact ih_0 _ (show (3 * ((τ22.1 0) - (τ22.1 16)) + z_0 ((τ22.1 20)) + 1 - z_0 ((τ22.1 19)) : Int) < ((m_0 : Nat) : Int) from by (have zz0 := z_e ((τ22.1 20)); have zz1 := z_e ((τ22.1 19)); (first | omega | (simp only [st_s] <;> omega) | assumption | omega))) hT ag (show τ22.1 0 = σ.1 0 from by omega) (show τ22.1 3 = σ.1 3 from by omega) (show τ22.1 5 = σ.1 5 from by omega) (show τ22.1 6 = σ.1 6 from by omega) (show τ22.1 7 = σ.1 7 from by omega) (show τ22.1 8 = σ.1 8 from by omega) (show τ22.1 22 = σ.1 22 from by omega) G0 G6 G7 G25 (show (τ22.1 16) ≤ (τ22.1 0) from by (first | omega | (simp only [st_s] <;> omega) | assumption | omega)) (show (τ22.1 17) + (τ22.1 18) ≤ (τ22.1 0) from by (first | omega | (simp only [st_s] <;> omega) | assumption | omega)) (show oc (τ22.2.1 6) < 4096 from by (first | omega | (simp only [st_s] <;> omega) | assumption | omega)) (show oc (τ22.2.1 7) < 4096 from by (first | omega | (simp only [st_s] <;> omega) | assumption | omega)) (show τ22.2.1 25 (τ22.1 22) + τ22.2.1 26 (τ22.1 22) = (τ22.1 9) from Z4) (show ¬ (σ.1 20) = 0 → (τ22.1 20) = (σ.1 20) from by (first | omega | (simp only [st_s] <;> omega) | assumption | omega)) (show j_eq ((σ.1 9)) (σ.2.1 28) (τ22.2.1 28) from Y8) (show ca (τ22.2.1 28) ((τ22.1 9)) = ca (σ.2.1 28) ((σ.1 9)) from Y9) (show (σ.1 16) ≤ (τ22.1 16) from by (first | omega | (simp only [st_s] <;> omega) | assumption | omega))
                  ·
                    refine ⟨_, K_X13_failHere hT (show 0 ≤ 5 from by (first | omega | (simp only [st_s] <;> omega) | assumption | omega)) (show 5 ≤ 19 from by (first | omega | (simp only [st_s] <;> omega) | assumption | omega)), ?_⟩
                    intro τ18 hn_τ18 hf_τ18 hq
                    obtain ⟨hT, q16_1, q16_2⟩ := hq
                    replace q16_1 : ¬ (τ_0.1 20) = 0 → (τ18.1 20) = (τ_0.1 20) := q16_1
                    replace q16_2 : (τ_0.1 20) = 0 → (τ18.1 20) = 5 := q16_2
                    replace ag : m_ag σ τ18 := ag_r ag hf_τ18 rfl rfl
                    have w0_τ18 : τ18.1 0 = τ_0.1 0 := hf_τ18.1 0 (by decide)
                    have w3_τ18 : τ18.1 3 = τ_0.1 3 := hf_τ18.1 3 (by decide)
                    have w5_τ18 : τ18.1 5 = τ_0.1 5 := hf_τ18.1 5 (by decide)
                    have w6_τ18 : τ18.1 6 = τ_0.1 6 := hf_τ18.1 6 (by decide)
                    have w7_τ18 : τ18.1 7 = τ_0.1 7 := hf_τ18.1 7 (by decide)
                    have w8_τ18 : τ18.1 8 = τ_0.1 8 := hf_τ18.1 8 (by decide)
                    have w9_τ18 : τ18.1 9 = τ_0.1 9 := hf_τ18.1 9 (by decide)
                    have w16_τ18 : τ18.1 16 = τ_0.1 16 := hf_τ18.1 16 (by decide)
                    have w17_τ18 : τ18.1 17 = τ_0.1 17 := hf_τ18.1 17 (by decide)
                    have w18_τ18 : τ18.1 18 = τ_0.1 18 := hf_τ18.1 18 (by decide)
                    have w19_τ18 : τ18.1 19 = τ_0.1 19 := hf_τ18.1 19 (by decide)
                    have w22_τ18 : τ18.1 22 = τ_0.1 22 := hf_τ18.1 22 (by decide)
                    have g0_τ18 : τ18.2.1 0 = τ_0.2.1 0 := hf_τ18.2.1 0 (by decide)
                    have g6_τ18 : τ18.2.1 6 = τ_0.2.1 6 := hf_τ18.2.1 6 (by decide)
                    have g7_τ18 : τ18.2.1 7 = τ_0.2.1 7 := hf_τ18.2.1 7 (by decide)
                    have g25_τ18 : τ18.2.1 25 = τ_0.2.1 25 := hf_τ18.2.1 25 (by decide)
                    have g26_τ18 : τ18.2.1 26 = τ_0.2.1 26 := hf_τ18.2.1 26 (by decide)
                    have g28_τ18 : τ18.2.1 28 = τ_0.2.1 28 := hf_τ18.2.1 28 (by decide)
                    first | (have o6_τ18 := congrArg oc g6_τ18) | skip
                    first | (have o7_τ18 := congrArg oc g7_τ18) | skip
                    have W0 : τ18.1 0 = σ.1 0 := by omega
                    have W3 : τ18.1 3 = σ.1 3 := by omega
                    have W5 : τ18.1 5 = σ.1 5 := by omega
                    have W6 : τ18.1 6 = σ.1 6 := by omega
                    have W7 : τ18.1 7 = σ.1 7 := by omega
                    have W8 : τ18.1 8 = σ.1 8 := by omega
                    have W22 : τ18.1 22 = σ.1 22 := by omega
                    have G0 : τ18.2.1 0 = σ.2.1 0 := (g0_τ18).trans G0
                    have G6 : τ18.2.1 6 = σ.2.1 6 := (g6_τ18).trans G6
                    have G7 : τ18.2.1 7 = σ.2.1 7 := (g7_τ18).trans G7
                    have G25 : τ18.2.1 25 = σ.2.1 25 := (g25_τ18).trans G25
                    have y0_17_τ18 : τ18.2.1 0 (τ18.1 17) = (τ_0.2.1 0) (τ_0.1 17) := by rw [g0_τ18, w17_τ18]
                    have y25_22_τ18 : τ18.2.1 25 (τ18.1 22) = (τ_0.2.1 25) (τ_0.1 22) := by rw [g25_τ18, w22_τ18]
                    have y26_22_τ18 : τ18.2.1 26 (τ18.1 22) = (τ_0.2.1 26) (τ_0.1 22) := by rw [g26_τ18, w22_τ18]
                    have y28_9_τ18 : τ18.2.1 28 (τ18.1 9) = (τ_0.2.1 28) (τ_0.1 9) := by rw [g28_τ18, w9_τ18]
                    have Z4 : τ18.2.1 25 (τ18.1 22) + τ18.2.1 26 (τ18.1 22) = (τ18.1 9) := by rw [show (τ18.2.1 25 (τ18.1 22) + τ18.2.1 26 (τ18.1 22) = (τ18.1 9)) = (τ_0.2.1 25 (τ_0.1 22) + τ_0.2.1 26 (τ_0.1 22) = (τ_0.1 9)) from by rw [w9_τ18, w22_τ18, g25_τ18, g26_τ18]]; exact Z4
                    have Y8 : j_eq ((σ.1 9)) (σ.2.1 28) (τ18.2.1 28) := by rw [show (j_eq ((σ.1 9)) (σ.2.1 28) (τ18.2.1 28)) = (j_eq ((σ.1 9)) (σ.2.1 28) (τ_0.2.1 28)) from by rw [g28_τ18]]; exact Y8
                    have Y9 : ca (τ18.2.1 28) ((τ18.1 9)) = ca (σ.2.1 28) ((σ.1 9)) := by rw [show (ca (τ18.2.1 28) ((τ18.1 9)) = ca (σ.2.1 28) ((σ.1 9))) = (ca (τ_0.2.1 28) ((τ_0.1 9)) = ca (σ.2.1 28) ((σ.1 9))) from by rw [w9_τ18, g28_τ18]]; exact Y9
                    have A0 : ∀ j, 0 ≤ τ18.2.1 0 j ∧ τ18.2.1 0 j ≤ 255 := fun j => hT.2 0 j
                    have A6 : ∀ j, (-1) ≤ τ18.2.1 6 j ∧ τ18.2.1 6 j ≤ 999 := fun j => hT.2 6 j
                    have A7 : ∀ j, (-1) ≤ τ18.2.1 7 j ∧ τ18.2.1 7 j ≤ 1499 := fun j => hT.2 7 j
                    have A25 : ∀ j, 0 ≤ τ18.2.1 25 j ∧ τ18.2.1 25 j ≤ 20000 := fun j => hT.2 25 j
                    have A26 : ∀ j, 0 ≤ τ18.2.1 26 j ∧ τ18.2.1 26 j ≤ 20000 := fun j => hT.2 26 j
                    have A28 : ∀ j, 0 ≤ τ18.2.1 28 j ∧ τ18.2.1 28 j ≤ 1 := fun j => hT.2 28 j
                    have v0 : 0 ≤ τ18.1 0 ∧ τ18.1 0 ≤ 60000 := hT.1 0
                    have v3 : 0 ≤ τ18.1 3 ∧ τ18.1 3 ≤ 1000 := hT.1 3
                    have v5 : 0 ≤ τ18.1 5 ∧ τ18.1 5 ≤ 1500 := hT.1 5
                    have v6 : 0 ≤ τ18.1 6 ∧ τ18.1 6 ≤ 30000 := hT.1 6
                    have v7 : 0 ≤ τ18.1 7 ∧ τ18.1 7 ≤ 90000 := hT.1 7
                    have v8 : 0 ≤ τ18.1 8 ∧ τ18.1 8 ≤ 20000 := hT.1 8
                    have v9 : 0 ≤ τ18.1 9 ∧ τ18.1 9 ≤ 20000 := hT.1 9
                    have v16 : 0 ≤ τ18.1 16 ∧ τ18.1 16 ≤ 60000 := hT.1 16
                    have v17 : 0 ≤ τ18.1 17 ∧ τ18.1 17 ≤ 60000 := hT.1 17
                    have v18 : 0 ≤ τ18.1 18 ∧ τ18.1 18 ≤ 60000 := hT.1 18
                    have v19 : (-1) ≤ τ18.1 19 ∧ τ18.1 19 ≤ 125 := hT.1 19
                    have v20 : 0 ≤ τ18.1 20 ∧ τ18.1 20 ≤ 19 := hT.1 20
                    have v22 : 0 ≤ τ18.1 22 ∧ τ18.1 22 ≤ 1499 := hT.1 22
                    have a0_17 : 0 ≤ τ18.2.1 0 (τ18.1 17) ∧ τ18.2.1 0 (τ18.1 17) ≤ 255 := hT.2 0 _
                    have a25_22 : 0 ≤ τ18.2.1 25 (τ18.1 22) ∧ τ18.2.1 25 (τ18.1 22) ≤ 20000 := hT.2 25 _
                    have a26_22 : 0 ≤ τ18.2.1 26 (τ18.1 22) ∧ τ18.2.1 26 (τ18.1 22) ≤ 20000 := hT.2 26 _
                    have a28_9 : 0 ≤ τ18.2.1 28 (τ18.1 9) ∧ τ18.2.1 28 (τ18.1 9) ≤ 1 := hT.2 28 _
                    have av9 : σ.1 9 ≤ τ18.1 9 := ag.1 9 (by decide)
                    refine h111 _ ?_
                    refine ⟨fun c19 => ?_, fun c19 => ?_⟩
                    ·
                      exact ih_0 _ (show (3 * ((τ18.1 0) - (τ18.1 16)) + z_0 ((τ18.1 20)) + 1 - z_0 ((τ18.1 19)) : Int) < ((m_0 : Nat) : Int) from by (have zz0 := z_e ((τ18.1 20)); have zz1 := z_e ((τ18.1 19)); (first | omega | (simp only [st_s] <;> omega) | assumption | omega))) hT ag (show τ18.1 0 = σ.1 0 from by omega) (show τ18.1 3 = σ.1 3 from by omega) (show τ18.1 5 = σ.1 5 from by omega) (show τ18.1 6 = σ.1 6 from by omega) (show τ18.1 7 = σ.1 7 from by omega) (show τ18.1 8 = σ.1 8 from by omega) (show τ18.1 22 = σ.1 22 from by omega) G0 G6 G7 G25 (show (τ18.1 16) ≤ (τ18.1 0) from by (first | omega | (simp only [st_s] <;> omega) | assumption | omega)) (show (τ18.1 17) + (τ18.1 18) ≤ (τ18.1 0) from by (first | omega | (simp only [st_s] <;> omega) | assumption | omega)) (show oc (τ18.2.1 6) < 4096 from by (first | omega | (simp only [st_s] <;> omega) | assumption | omega)) (show oc (τ18.2.1 7) < 4096 from by (first | omega | (simp only [st_s] <;> omega) | assumption | omega)) (show τ18.2.1 25 (τ18.1 22) + τ18.2.1 26 (τ18.1 22) = (τ18.1 9) from Z4) (show ¬ (σ.1 20) = 0 → (τ18.1 20) = (σ.1 20) from by (first | omega | (simp only [st_s] <;> omega) | assumption | omega)) (show j_eq ((σ.1 9)) (σ.2.1 28) (τ18.2.1 28) from Y8) (show ca (τ18.2.1 28) ((τ18.1 9)) = ca (σ.2.1 28) ((σ.1 9)) from Y9) (show (σ.1 16) ≤ (τ18.1 16) from by (first | omega | (simp only [st_s] <;> omega) | assumption | omega))
                    ·
                      refine ⟨_, K_X13_next hT (show (τ18.1 16) ≤ (τ18.1 0) from by (first | omega | (simp only [st_s] <;> omega) | assumption | omega)), ?_⟩
                      intro τ22 hn_τ22 hf_τ22 hq
                      obtain ⟨hT, q20_1, q20_2, q20_3, q20_4, q20_5⟩ := hq
                      replace q20_1 : (τ22.1 16) ≤ (τ22.1 0) := q20_1
                      replace q20_2 : (τ22.1 17) + (τ22.1 18) ≤ (τ22.1 0) := q20_2
                      replace q20_3 : (τ18.1 16) ≤ (τ22.1 16) := q20_3
                      replace q20_4 : ¬ (τ18.1 20) = 0 → (τ22.1 20) = (τ18.1 20) := q20_4
                      replace q20_5 : (τ22.1 20) = 0 → ¬ (τ22.1 19) = 0 → (τ18.1 16) < (τ22.1 16) ∧ 0 < (τ22.1 18) := q20_5
                      replace ag : m_ag σ τ22 := ag_r ag hf_τ22 rfl rfl
                      have w0_τ22 : τ22.1 0 = τ18.1 0 := hf_τ22.1 0 (by decide)
                      have w3_τ22 : τ22.1 3 = τ18.1 3 := hf_τ22.1 3 (by decide)
                      have w5_τ22 : τ22.1 5 = τ18.1 5 := hf_τ22.1 5 (by decide)
                      have w6_τ22 : τ22.1 6 = τ18.1 6 := hf_τ22.1 6 (by decide)
                      have w7_τ22 : τ22.1 7 = τ18.1 7 := hf_τ22.1 7 (by decide)
                      have w8_τ22 : τ22.1 8 = τ18.1 8 := hf_τ22.1 8 (by decide)
                      have w9_τ22 : τ22.1 9 = τ18.1 9 := hf_τ22.1 9 (by decide)
                      have w22_τ22 : τ22.1 22 = τ18.1 22 := hf_τ22.1 22 (by decide)
                      have g0_τ22 : τ22.2.1 0 = τ18.2.1 0 := hf_τ22.2.1 0 (by decide)
                      have g6_τ22 : τ22.2.1 6 = τ18.2.1 6 := hf_τ22.2.1 6 (by decide)
                      have g7_τ22 : τ22.2.1 7 = τ18.2.1 7 := hf_τ22.2.1 7 (by decide)
                      have g25_τ22 : τ22.2.1 25 = τ18.2.1 25 := hf_τ22.2.1 25 (by decide)
                      have g26_τ22 : τ22.2.1 26 = τ18.2.1 26 := hf_τ22.2.1 26 (by decide)
                      have g28_τ22 : τ22.2.1 28 = τ18.2.1 28 := hf_τ22.2.1 28 (by decide)
                      first | (have o6_τ22 := congrArg oc g6_τ22) | skip
                      first | (have o7_τ22 := congrArg oc g7_τ22) | skip
                      have W0 : τ22.1 0 = σ.1 0 := by omega
                      have W3 : τ22.1 3 = σ.1 3 := by omega
                      have W5 : τ22.1 5 = σ.1 5 := by omega
                      have W6 : τ22.1 6 = σ.1 6 := by omega
                      have W7 : τ22.1 7 = σ.1 7 := by omega
                      have W8 : τ22.1 8 = σ.1 8 := by omega
                      have W22 : τ22.1 22 = σ.1 22 := by omega
                      have G0 : τ22.2.1 0 = σ.2.1 0 := (g0_τ22).trans G0
                      have G6 : τ22.2.1 6 = σ.2.1 6 := (g6_τ22).trans G6
                      have G7 : τ22.2.1 7 = σ.2.1 7 := (g7_τ22).trans G7
                      have G25 : τ22.2.1 25 = σ.2.1 25 := (g25_τ22).trans G25
                      have y25_22_τ22 : τ22.2.1 25 (τ22.1 22) = (τ18.2.1 25) (τ18.1 22) := by rw [g25_τ22, w22_τ22]
                      have y26_22_τ22 : τ22.2.1 26 (τ22.1 22) = (τ18.2.1 26) (τ18.1 22) := by rw [g26_τ22, w22_τ22]
                      have y28_9_τ22 : τ22.2.1 28 (τ22.1 9) = (τ18.2.1 28) (τ18.1 9) := by rw [g28_τ22, w9_τ22]
                      have Z4 : τ22.2.1 25 (τ22.1 22) + τ22.2.1 26 (τ22.1 22) = (τ22.1 9) := by rw [show (τ22.2.1 25 (τ22.1 22) + τ22.2.1 26 (τ22.1 22) = (τ22.1 9)) = (τ18.2.1 25 (τ18.1 22) + τ18.2.1 26 (τ18.1 22) = (τ18.1 9)) from by rw [w9_τ22, w22_τ22, g25_τ22, g26_τ22]]; exact Z4
                      have Y8 : j_eq ((σ.1 9)) (σ.2.1 28) (τ22.2.1 28) := by rw [show (j_eq ((σ.1 9)) (σ.2.1 28) (τ22.2.1 28)) = (j_eq ((σ.1 9)) (σ.2.1 28) (τ18.2.1 28)) from by rw [g28_τ22]]; exact Y8
                      have Y9 : ca (τ22.2.1 28) ((τ22.1 9)) = ca (σ.2.1 28) ((σ.1 9)) := by rw [show (ca (τ22.2.1 28) ((τ22.1 9)) = ca (σ.2.1 28) ((σ.1 9))) = (ca (τ18.2.1 28) ((τ18.1 9)) = ca (σ.2.1 28) ((σ.1 9))) from by rw [w9_τ22, g28_τ22]]; exact Y9
                      have A0 : ∀ j, 0 ≤ τ22.2.1 0 j ∧ τ22.2.1 0 j ≤ 255 := fun j => hT.2 0 j
                      have A6 : ∀ j, (-1) ≤ τ22.2.1 6 j ∧ τ22.2.1 6 j ≤ 999 := fun j => hT.2 6 j
                      have A7 : ∀ j, (-1) ≤ τ22.2.1 7 j ∧ τ22.2.1 7 j ≤ 1499 := fun j => hT.2 7 j
                      have A25 : ∀ j, 0 ≤ τ22.2.1 25 j ∧ τ22.2.1 25 j ≤ 20000 := fun j => hT.2 25 j
                      have A26 : ∀ j, 0 ≤ τ22.2.1 26 j ∧ τ22.2.1 26 j ≤ 20000 := fun j => hT.2 26 j
                      have A28 : ∀ j, 0 ≤ τ22.2.1 28 j ∧ τ22.2.1 28 j ≤ 1 := fun j => hT.2 28 j
                      have v0 : 0 ≤ τ22.1 0 ∧ τ22.1 0 ≤ 60000 := hT.1 0
                      have v3 : 0 ≤ τ22.1 3 ∧ τ22.1 3 ≤ 1000 := hT.1 3
                      have v5 : 0 ≤ τ22.1 5 ∧ τ22.1 5 ≤ 1500 := hT.1 5
                      have v6 : 0 ≤ τ22.1 6 ∧ τ22.1 6 ≤ 30000 := hT.1 6
                      have v7 : 0 ≤ τ22.1 7 ∧ τ22.1 7 ≤ 90000 := hT.1 7
                      have v8 : 0 ≤ τ22.1 8 ∧ τ22.1 8 ≤ 20000 := hT.1 8
                      have v9 : 0 ≤ τ22.1 9 ∧ τ22.1 9 ≤ 20000 := hT.1 9
                      have v16 : 0 ≤ τ22.1 16 ∧ τ22.1 16 ≤ 60000 := hT.1 16
                      have v17 : 0 ≤ τ22.1 17 ∧ τ22.1 17 ≤ 60000 := hT.1 17
                      have v18 : 0 ≤ τ22.1 18 ∧ τ22.1 18 ≤ 60000 := hT.1 18
                      have v19 : (-1) ≤ τ22.1 19 ∧ τ22.1 19 ≤ 125 := hT.1 19
                      have v20 : 0 ≤ τ22.1 20 ∧ τ22.1 20 ≤ 19 := hT.1 20
                      have v22 : 0 ≤ τ22.1 22 ∧ τ22.1 22 ≤ 1499 := hT.1 22
                      have a0_17 : 0 ≤ τ22.2.1 0 (τ22.1 17) ∧ τ22.2.1 0 (τ22.1 17) ≤ 255 := hT.2 0 _
                      have a25_22 : 0 ≤ τ22.2.1 25 (τ22.1 22) ∧ τ22.2.1 25 (τ22.1 22) ≤ 20000 := hT.2 25 _
                      have a26_22 : 0 ≤ τ22.2.1 26 (τ22.1 22) ∧ τ22.2.1 26 (τ22.1 22) ≤ 20000 := hT.2 26 _
                      have a28_9 : 0 ≤ τ22.2.1 28 (τ22.1 9) ∧ τ22.2.1 28 (τ22.1 9) ≤ 1 := hT.2 28 _
                      have av9 : σ.1 9 ≤ τ22.1 9 := ag.1 9 (by decide)
                      exact ih_0 _ (show (3 * ((τ22.1 0) - (τ22.1 16)) + z_0 ((τ22.1 20)) + 1 - z_0 ((τ22.1 19)) : Int) < ((m_0 : Nat) : Int) from by (have zz0 := z_e ((τ22.1 20)); have zz1 := z_e ((τ22.1 19)); (first | omega | (simp only [st_s] <;> omega) | assumption | omega))) hT ag (show τ22.1 0 = σ.1 0 from by omega) (show τ22.1 3 = σ.1 3 from by omega) (show τ22.1 5 = σ.1 5 from by omega) (show τ22.1 6 = σ.1 6 from by omega) (show τ22.1 7 = σ.1 7 from by omega) (show τ22.1 8 = σ.1 8 from by omega) (show τ22.1 22 = σ.1 22 from by omega) G0 G6 G7 G25 (show (τ22.1 16) ≤ (τ22.1 0) from by (first | omega | (simp only [st_s] <;> omega) | assumption | omega)) (show (τ22.1 17) + (τ22.1 18) ≤ (τ22.1 0) from by (first | omega | (simp only [st_s] <;> omega) | assumption | omega)) (show oc (τ22.2.1 6) < 4096 from by (first | omega | (simp only [st_s] <;> omega) | assumption | omega)) (show oc (τ22.2.1 7) < 4096 from by (first | omega | (simp only [st_s] <;> omega) | assumption | omega)) (show τ22.2.1 25 (τ22.1 22) + τ22.2.1 26 (τ22.1 22) = (τ22.1 9) from Z4) (show ¬ (σ.1 20) = 0 → (τ22.1 20) = (σ.1 20) from by (first | omega | (simp only [st_s] <;> omega) | assumption | omega)) (show j_eq ((σ.1 9)) (σ.2.1 28) (τ22.2.1 28) from Y8) (show ca (τ22.2.1 28) ((τ22.1 9)) = ca (σ.2.1 28) ((σ.1 9)) from Y9) (show (σ.1 16) ≤ (τ22.1 16) from by (first | omega | (simp only [st_s] <;> omega) | assumption | omega))
              ·
                replace ag := ag_v (i := 23) (x := 1) ag (Or.inl rfl)
                replace hT := mT_v (i := 23) hT (show (0 : Int) ≤ 1 ∧ 1 ≤ 1 from by (first | omega | (simp only [st_s] <;> omega) | assumption | omega))
                obtain ⟨τ_111, e_τ_111⟩ : ∃ z : S0, z = s_v τ_0 23 1 := ⟨_, rfl⟩
                rw [← e_τ_111]
                replace hT : m_T τ_111 := by rw [e_τ_111]; exact hT
                replace ag : m_ag σ τ_111 := by rw [e_τ_111]; exact ag
                have w0_τ_111 : τ_111.1 0 = τ_0.1 0 := by rw [e_τ_111]; rfl
                have w3_τ_111 : τ_111.1 3 = τ_0.1 3 := by rw [e_τ_111]; rfl
                have w5_τ_111 : τ_111.1 5 = τ_0.1 5 := by rw [e_τ_111]; rfl
                have w6_τ_111 : τ_111.1 6 = τ_0.1 6 := by rw [e_τ_111]; rfl
                have w7_τ_111 : τ_111.1 7 = τ_0.1 7 := by rw [e_τ_111]; rfl
                have w8_τ_111 : τ_111.1 8 = τ_0.1 8 := by rw [e_τ_111]; rfl
                have w9_τ_111 : τ_111.1 9 = τ_0.1 9 := by rw [e_τ_111]; rfl
                have w16_τ_111 : τ_111.1 16 = τ_0.1 16 := by rw [e_τ_111]; rfl
                have w17_τ_111 : τ_111.1 17 = τ_0.1 17 := by rw [e_τ_111]; rfl
                have w18_τ_111 : τ_111.1 18 = τ_0.1 18 := by rw [e_τ_111]; rfl
                have w19_τ_111 : τ_111.1 19 = τ_0.1 19 := by rw [e_τ_111]; rfl
                have w20_τ_111 : τ_111.1 20 = τ_0.1 20 := by rw [e_τ_111]; rfl
                have w22_τ_111 : τ_111.1 22 = τ_0.1 22 := by rw [e_τ_111]; rfl
                have g0_τ_111 : τ_111.2.1 0 = τ_0.2.1 0 := by rw [e_τ_111]; rfl
                have g6_τ_111 : τ_111.2.1 6 = τ_0.2.1 6 := by rw [e_τ_111]; rfl
                have g7_τ_111 : τ_111.2.1 7 = τ_0.2.1 7 := by rw [e_τ_111]; rfl
                have g25_τ_111 : τ_111.2.1 25 = τ_0.2.1 25 := by rw [e_τ_111]; rfl
                have g26_τ_111 : τ_111.2.1 26 = τ_0.2.1 26 := by rw [e_τ_111]; rfl
                have g28_τ_111 : τ_111.2.1 28 = τ_0.2.1 28 := by rw [e_τ_111]; rfl
                first | (have o6_τ_111 := congrArg oc g6_τ_111) | skip
                first | (have o7_τ_111 := congrArg oc g7_τ_111) | skip
                have W0 : τ_111.1 0 = σ.1 0 := by omega
                have W3 : τ_111.1 3 = σ.1 3 := by omega
                have W5 : τ_111.1 5 = σ.1 5 := by omega
                have W6 : τ_111.1 6 = σ.1 6 := by omega
                have W7 : τ_111.1 7 = σ.1 7 := by omega
                have W8 : τ_111.1 8 = σ.1 8 := by omega
                have W22 : τ_111.1 22 = σ.1 22 := by omega
                have G0 : τ_111.2.1 0 = σ.2.1 0 := (g0_τ_111).trans G0
                have G6 : τ_111.2.1 6 = σ.2.1 6 := (g6_τ_111).trans G6
                have G7 : τ_111.2.1 7 = σ.2.1 7 := (g7_τ_111).trans G7
                have G25 : τ_111.2.1 25 = σ.2.1 25 := (g25_τ_111).trans G25
                have y0_17_τ_111 : τ_111.2.1 0 (τ_111.1 17) = (τ_0.2.1 0) (τ_0.1 17) := by rw [g0_τ_111, w17_τ_111]
                have y25_22_τ_111 : τ_111.2.1 25 (τ_111.1 22) = (τ_0.2.1 25) (τ_0.1 22) := by rw [g25_τ_111, w22_τ_111]
                have y26_22_τ_111 : τ_111.2.1 26 (τ_111.1 22) = (τ_0.2.1 26) (τ_0.1 22) := by rw [g26_τ_111, w22_τ_111]
                have y28_9_τ_111 : τ_111.2.1 28 (τ_111.1 9) = (τ_0.2.1 28) (τ_0.1 9) := by rw [g28_τ_111, w9_τ_111]
                have Z4 : τ_111.2.1 25 (τ_111.1 22) + τ_111.2.1 26 (τ_111.1 22) = (τ_111.1 9) := by rw [show (τ_111.2.1 25 (τ_111.1 22) + τ_111.2.1 26 (τ_111.1 22) = (τ_111.1 9)) = (τ_0.2.1 25 (τ_0.1 22) + τ_0.2.1 26 (τ_0.1 22) = (τ_0.1 9)) from by rw [w9_τ_111, w22_τ_111, g25_τ_111, g26_τ_111]]; exact Z4
                have Y8 : j_eq ((σ.1 9)) (σ.2.1 28) (τ_111.2.1 28) := by rw [show (j_eq ((σ.1 9)) (σ.2.1 28) (τ_111.2.1 28)) = (j_eq ((σ.1 9)) (σ.2.1 28) (τ_0.2.1 28)) from by rw [g28_τ_111]]; exact Y8
                have Y9 : ca (τ_111.2.1 28) ((τ_111.1 9)) = ca (σ.2.1 28) ((σ.1 9)) := by rw [show (ca (τ_111.2.1 28) ((τ_111.1 9)) = ca (σ.2.1 28) ((σ.1 9))) = (ca (τ_0.2.1 28) ((τ_0.1 9)) = ca (σ.2.1 28) ((σ.1 9))) from by rw [w9_τ_111, g28_τ_111]]; exact Y9
                have A0 : ∀ j, 0 ≤ τ_111.2.1 0 j ∧ τ_111.2.1 0 j ≤ 255 := fun j => hT.2 0 j
                have A6 : ∀ j, (-1) ≤ τ_111.2.1 6 j ∧ τ_111.2.1 6 j ≤ 999 := fun j => hT.2 6 j
                have A7 : ∀ j, (-1) ≤ τ_111.2.1 7 j ∧ τ_111.2.1 7 j ≤ 1499 := fun j => hT.2 7 j
                have A25 : ∀ j, 0 ≤ τ_111.2.1 25 j ∧ τ_111.2.1 25 j ≤ 20000 := fun j => hT.2 25 j
                have A26 : ∀ j, 0 ≤ τ_111.2.1 26 j ∧ τ_111.2.1 26 j ≤ 20000 := fun j => hT.2 26 j
                have A28 : ∀ j, 0 ≤ τ_111.2.1 28 j ∧ τ_111.2.1 28 j ≤ 1 := fun j => hT.2 28 j
                have v0 : 0 ≤ τ_111.1 0 ∧ τ_111.1 0 ≤ 60000 := hT.1 0
                have v3 : 0 ≤ τ_111.1 3 ∧ τ_111.1 3 ≤ 1000 := hT.1 3
                have v5 : 0 ≤ τ_111.1 5 ∧ τ_111.1 5 ≤ 1500 := hT.1 5
                have v6 : 0 ≤ τ_111.1 6 ∧ τ_111.1 6 ≤ 30000 := hT.1 6
                have v7 : 0 ≤ τ_111.1 7 ∧ τ_111.1 7 ≤ 90000 := hT.1 7
                have v8 : 0 ≤ τ_111.1 8 ∧ τ_111.1 8 ≤ 20000 := hT.1 8
                have v9 : 0 ≤ τ_111.1 9 ∧ τ_111.1 9 ≤ 20000 := hT.1 9
                have v16 : 0 ≤ τ_111.1 16 ∧ τ_111.1 16 ≤ 60000 := hT.1 16
                have v17 : 0 ≤ τ_111.1 17 ∧ τ_111.1 17 ≤ 60000 := hT.1 17
                have v18 : 0 ≤ τ_111.1 18 ∧ τ_111.1 18 ≤ 60000 := hT.1 18
                have v19 : (-1) ≤ τ_111.1 19 ∧ τ_111.1 19 ≤ 125 := hT.1 19
                have v20 : 0 ≤ τ_111.1 20 ∧ τ_111.1 20 ≤ 19 := hT.1 20
                have v22 : 0 ≤ τ_111.1 22 ∧ τ_111.1 22 ≤ 1499 := hT.1 22
                have a0_17 : 0 ≤ τ_111.2.1 0 (τ_111.1 17) ∧ τ_111.2.1 0 (τ_111.1 17) ≤ 255 := hT.2 0 _
                have a25_22 : 0 ≤ τ_111.2.1 25 (τ_111.1 22) ∧ τ_111.2.1 25 (τ_111.1 22) ≤ 20000 := hT.2 25 _
                have a26_22 : 0 ≤ τ_111.2.1 26 (τ_111.1 22) ∧ τ_111.2.1 26 (τ_111.1 22) ≤ 20000 := hT.2 26 _
                have a28_9 : 0 ≤ τ_111.2.1 28 (τ_111.1 9) ∧ τ_111.2.1 28 (τ_111.1 9) ≤ 1 := hT.2 28 _
                have av9 : σ.1 9 ≤ τ_111.1 9 := ag.1 9 (by decide)
                refine h111 _ ?_
                refine ⟨fun c19 => ?_, fun c19 => ?_⟩
                ·
                  exact ih_0 _ (show (3 * ((τ_111.1 0) - (τ_111.1 16)) + z_0 ((τ_111.1 20)) + 1 - z_0 ((τ_111.1 19)) : Int) < ((m_0 : Nat) : Int) from by (have zz0 := z_e ((τ_111.1 20)); have zz1 := z_e ((τ_111.1 19)); (first | omega | (simp only [st_s] <;> omega) | assumption | omega))) hT ag (show τ_111.1 0 = σ.1 0 from by omega) (show τ_111.1 3 = σ.1 3 from by omega) (show τ_111.1 5 = σ.1 5 from by omega) (show τ_111.1 6 = σ.1 6 from by omega) (show τ_111.1 7 = σ.1 7 from by omega) (show τ_111.1 8 = σ.1 8 from by omega) (show τ_111.1 22 = σ.1 22 from by omega) G0 G6 G7 G25 (show (τ_111.1 16) ≤ (τ_111.1 0) from by (first | omega | (simp only [st_s] <;> omega) | assumption | omega)) (show (τ_111.1 17) + (τ_111.1 18) ≤ (τ_111.1 0) from by (first | omega | (simp only [st_s] <;> omega) | assumption | omega)) (show oc (τ_111.2.1 6) < 4096 from by (first | omega | (simp only [st_s] <;> omega) | assumption | omega)) (show oc (τ_111.2.1 7) < 4096 from by (first | omega | (simp only [st_s] <;> omega) | assumption | omega)) (show τ_111.2.1 25 (τ_111.1 22) + τ_111.2.1 26 (τ_111.1 22) = (τ_111.1 9) from Z4) (show ¬ (σ.1 20) = 0 → (τ_111.1 20) = (σ.1 20) from by (first | omega | (simp only [st_s] <;> omega) | assumption | omega)) (show j_eq ((σ.1 9)) (σ.2.1 28) (τ_111.2.1 28) from Y8) (show ca (τ_111.2.1 28) ((τ_111.1 9)) = ca (σ.2.1 28) ((σ.1 9)) from Y9) (show (σ.1 16) ≤ (τ_111.1 16) from by (first | omega | (simp only [st_s] <;> omega) | assumption | omega))
                ·
                  refine ⟨_, K_X13_next hT (show (τ_111.1 16) ≤ (τ_111.1 0) from by (first | omega | (simp only [st_s] <;> omega) | assumption | omega)), ?_⟩
                  intro τ22 hn_τ22 hf_τ22 hq
                  obtain ⟨hT, q20_1, q20_2, q20_3, q20_4, q20_5⟩ := hq
                  replace q20_1 : (τ22.1 16) ≤ (τ22.1 0) := q20_1
                  replace q20_2 : (τ22.1 17) + (τ22.1 18) ≤ (τ22.1 0) := q20_2
                  replace q20_3 : (τ_111.1 16) ≤ (τ22.1 16) := q20_3
                  replace q20_4 : ¬ (τ_111.1 20) = 0 → (τ22.1 20) = (τ_111.1 20) := q20_4
                  replace q20_5 : (τ22.1 20) = 0 → ¬ (τ22.1 19) = 0 → (τ_111.1 16) < (τ22.1 16) ∧ 0 < (τ22.1 18) := q20_5
                  replace ag : m_ag σ τ22 := ag_r ag hf_τ22 rfl rfl
                  have w0_τ22 : τ22.1 0 = τ_111.1 0 := hf_τ22.1 0 (by decide)
                  have w3_τ22 : τ22.1 3 = τ_111.1 3 := hf_τ22.1 3 (by decide)
                  have w5_τ22 : τ22.1 5 = τ_111.1 5 := hf_τ22.1 5 (by decide)
                  have w6_τ22 : τ22.1 6 = τ_111.1 6 := hf_τ22.1 6 (by decide)
                  have w7_τ22 : τ22.1 7 = τ_111.1 7 := hf_τ22.1 7 (by decide)
                  have w8_τ22 : τ22.1 8 = τ_111.1 8 := hf_τ22.1 8 (by decide)
                  have w9_τ22 : τ22.1 9 = τ_111.1 9 := hf_τ22.1 9 (by decide)
                  have w22_τ22 : τ22.1 22 = τ_111.1 22 := hf_τ22.1 22 (by decide)
                  have g0_τ22 : τ22.2.1 0 = τ_111.2.1 0 := hf_τ22.2.1 0 (by decide)
                  have g6_τ22 : τ22.2.1 6 = τ_111.2.1 6 := hf_τ22.2.1 6 (by decide)
                  have g7_τ22 : τ22.2.1 7 = τ_111.2.1 7 := hf_τ22.2.1 7 (by decide)
                  have g25_τ22 : τ22.2.1 25 = τ_111.2.1 25 := hf_τ22.2.1 25 (by decide)
                  have g26_τ22 : τ22.2.1 26 = τ_111.2.1 26 := hf_τ22.2.1 26 (by decide)
                  have g28_τ22 : τ22.2.1 28 = τ_111.2.1 28 := hf_τ22.2.1 28 (by decide)
                  first | (have o6_τ22 := congrArg oc g6_τ22) | skip
                  first | (have o7_τ22 := congrArg oc g7_τ22) | skip
                  have W0 : τ22.1 0 = σ.1 0 := by omega
                  have W3 : τ22.1 3 = σ.1 3 := by omega
                  have W5 : τ22.1 5 = σ.1 5 := by omega
                  have W6 : τ22.1 6 = σ.1 6 := by omega
                  have W7 : τ22.1 7 = σ.1 7 := by omega
                  have W8 : τ22.1 8 = σ.1 8 := by omega
                  have W22 : τ22.1 22 = σ.1 22 := by omega
                  have G0 : τ22.2.1 0 = σ.2.1 0 := (g0_τ22).trans G0
                  have G6 : τ22.2.1 6 = σ.2.1 6 := (g6_τ22).trans G6
                  have G7 : τ22.2.1 7 = σ.2.1 7 := (g7_τ22).trans G7
                  have G25 : τ22.2.1 25 = σ.2.1 25 := (g25_τ22).trans G25
                  have y25_22_τ22 : τ22.2.1 25 (τ22.1 22) = (τ_111.2.1 25) (τ_111.1 22) := by rw [g25_τ22, w22_τ22]
                  have y26_22_τ22 : τ22.2.1 26 (τ22.1 22) = (τ_111.2.1 26) (τ_111.1 22) := by rw [g26_τ22, w22_τ22]
                  have y28_9_τ22 : τ22.2.1 28 (τ22.1 9) = (τ_111.2.1 28) (τ_111.1 9) := by rw [g28_τ22, w9_τ22]
                  have Z4 : τ22.2.1 25 (τ22.1 22) + τ22.2.1 26 (τ22.1 22) = (τ22.1 9) := by rw [show (τ22.2.1 25 (τ22.1 22) + τ22.2.1 26 (τ22.1 22) = (τ22.1 9)) = (τ_111.2.1 25 (τ_111.1 22) + τ_111.2.1 26 (τ_111.1 22) = (τ_111.1 9)) from by rw [w9_τ22, w22_τ22, g25_τ22, g26_τ22]]; exact Z4
                  have Y8 : j_eq ((σ.1 9)) (σ.2.1 28) (τ22.2.1 28) := by rw [show (j_eq ((σ.1 9)) (σ.2.1 28) (τ22.2.1 28)) = (j_eq ((σ.1 9)) (σ.2.1 28) (τ_111.2.1 28)) from by rw [g28_τ22]]; exact Y8
                  have Y9 : ca (τ22.2.1 28) ((τ22.1 9)) = ca (σ.2.1 28) ((σ.1 9)) := by rw [show (ca (τ22.2.1 28) ((τ22.1 9)) = ca (σ.2.1 28) ((σ.1 9))) = (ca (τ_111.2.1 28) ((τ_111.1 9)) = ca (σ.2.1 28) ((σ.1 9))) from by rw [w9_τ22, g28_τ22]]; exact Y9
                  have A0 : ∀ j, 0 ≤ τ22.2.1 0 j ∧ τ22.2.1 0 j ≤ 255 := fun j => hT.2 0 j
                  have A6 : ∀ j, (-1) ≤ τ22.2.1 6 j ∧ τ22.2.1 6 j ≤ 999 := fun j => hT.2 6 j
                  have A7 : ∀ j, (-1) ≤ τ22.2.1 7 j ∧ τ22.2.1 7 j ≤ 1499 := fun j => hT.2 7 j
                  have A25 : ∀ j, 0 ≤ τ22.2.1 25 j ∧ τ22.2.1 25 j ≤ 20000 := fun j => hT.2 25 j
                  have A26 : ∀ j, 0 ≤ τ22.2.1 26 j ∧ τ22.2.1 26 j ≤ 20000 := fun j => hT.2 26 j
                  have A28 : ∀ j, 0 ≤ τ22.2.1 28 j ∧ τ22.2.1 28 j ≤ 1 := fun j => hT.2 28 j
                  have v0 : 0 ≤ τ22.1 0 ∧ τ22.1 0 ≤ 60000 := hT.1 0
                  have v3 : 0 ≤ τ22.1 3 ∧ τ22.1 3 ≤ 1000 := hT.1 3
                  have v5 : 0 ≤ τ22.1 5 ∧ τ22.1 5 ≤ 1500 := hT.1 5
                  have v6 : 0 ≤ τ22.1 6 ∧ τ22.1 6 ≤ 30000 := hT.1 6
                  have v7 : 0 ≤ τ22.1 7 ∧ τ22.1 7 ≤ 90000 := hT.1 7
                  have v8 : 0 ≤ τ22.1 8 ∧ τ22.1 8 ≤ 20000 := hT.1 8
                  have v9 : 0 ≤ τ22.1 9 ∧ τ22.1 9 ≤ 20000 := hT.1 9
                  have v16 : 0 ≤ τ22.1 16 ∧ τ22.1 16 ≤ 60000 := hT.1 16
                  have v17 : 0 ≤ τ22.1 17 ∧ τ22.1 17 ≤ 60000 := hT.1 17
                  have v18 : 0 ≤ τ22.1 18 ∧ τ22.1 18 ≤ 60000 := hT.1 18
                  have v19 : (-1) ≤ τ22.1 19 ∧ τ22.1 19 ≤ 125 := hT.1 19
                  have v20 : 0 ≤ τ22.1 20 ∧ τ22.1 20 ≤ 19 := hT.1 20
                  have v22 : 0 ≤ τ22.1 22 ∧ τ22.1 22 ≤ 1499 := hT.1 22
                  have a0_17 : 0 ≤ τ22.2.1 0 (τ22.1 17) ∧ τ22.2.1 0 (τ22.1 17) ≤ 255 := hT.2 0 _
                  have a25_22 : 0 ≤ τ22.2.1 25 (τ22.1 22) ∧ τ22.2.1 25 (τ22.1 22) ≤ 20000 := hT.2 25 _
                  have a26_22 : 0 ≤ τ22.2.1 26 (τ22.1 22) ∧ τ22.2.1 26 (τ22.1 22) ≤ 20000 := hT.2 26 _
                  have a28_9 : 0 ≤ τ22.2.1 28 (τ22.1 9) ∧ τ22.2.1 28 (τ22.1 9) ≤ 1 := hT.2 28 _
                  have av9 : σ.1 9 ≤ τ22.1 9 := ag.1 9 (by decide)
                  exact ih_0 _ (show (3 * ((τ22.1 0) - (τ22.1 16)) + z_0 ((τ22.1 20)) + 1 - z_0 ((τ22.1 19)) : Int) < ((m_0 : Nat) : Int) from by (have zz0 := z_e ((τ22.1 20)); have zz1 := z_e ((τ22.1 19)); (first | omega | (simp only [st_s] <;> omega) | assumption | omega))) hT ag (show τ22.1 0 = σ.1 0 from by omega) (show τ22.1 3 = σ.1 3 from by omega) (show τ22.1 5 = σ.1 5 from by omega) (show τ22.1 6 = σ.1 6 from by omega) (show τ22.1 7 = σ.1 7 from by omega) (show τ22.1 8 = σ.1 8 from by omega) (show τ22.1 22 = σ.1 22 from by omega) G0 G6 G7 G25 (show (τ22.1 16) ≤ (τ22.1 0) from by (first | omega | (simp only [st_s] <;> omega) | assumption | omega)) (show (τ22.1 17) + (τ22.1 18) ≤ (τ22.1 0) from by (first | omega | (simp only [st_s] <;> omega) | assumption | omega)) (show oc (τ22.2.1 6) < 4096 from by (first | omega | (simp only [st_s] <;> omega) | assumption | omega)) (show oc (τ22.2.1 7) < 4096 from by (first | omega | (simp only [st_s] <;> omega) | assumption | omega)) (show τ22.2.1 25 (τ22.1 22) + τ22.2.1 26 (τ22.1 22) = (τ22.1 9) from Z4) (show ¬ (σ.1 20) = 0 → (τ22.1 20) = (σ.1 20) from by (first | omega | (simp only [st_s] <;> omega) | assumption | omega)) (show j_eq ((σ.1 9)) (σ.2.1 28) (τ22.2.1 28) from Y8) (show ca (τ22.2.1 28) ((τ22.1 9)) = ca (σ.2.1 28) ((σ.1 9)) from Y9) (show (σ.1 16) ≤ (τ22.1 16) from by (first | omega | (simp only [st_s] <;> omega) | assumption | omega))
          ·
            refine ⟨_, K_X13_failHere hT (show 0 ≤ 4 from by (first | omega | (simp only [st_s] <;> omega) | assumption | omega)) (show 4 ≤ 19 from by (first | omega | (simp only [st_s] <;> omega) | assumption | omega)), ?_⟩
            intro τ10 hn_τ10 hf_τ10 hq
            obtain ⟨hT, q8_1, q8_2⟩ := hq
            replace q8_1 : ¬ (τ_0.1 20) = 0 → (τ10.1 20) = (τ_0.1 20) := q8_1
            replace q8_2 : (τ_0.1 20) = 0 → (τ10.1 20) = 4 := q8_2
            replace ag : m_ag σ τ10 := ag_r ag hf_τ10 rfl rfl
            have w0_τ10 : τ10.1 0 = τ_0.1 0 := hf_τ10.1 0 (by decide)
            have w3_τ10 : τ10.1 3 = τ_0.1 3 := hf_τ10.1 3 (by decide)
            have w5_τ10 : τ10.1 5 = τ_0.1 5 := hf_τ10.1 5 (by decide)
            have w6_τ10 : τ10.1 6 = τ_0.1 6 := hf_τ10.1 6 (by decide)
            have w7_τ10 : τ10.1 7 = τ_0.1 7 := hf_τ10.1 7 (by decide)
            have w8_τ10 : τ10.1 8 = τ_0.1 8 := hf_τ10.1 8 (by decide)
            have w9_τ10 : τ10.1 9 = τ_0.1 9 := hf_τ10.1 9 (by decide)
            have w16_τ10 : τ10.1 16 = τ_0.1 16 := hf_τ10.1 16 (by decide)
            have w17_τ10 : τ10.1 17 = τ_0.1 17 := hf_τ10.1 17 (by decide)
            have w18_τ10 : τ10.1 18 = τ_0.1 18 := hf_τ10.1 18 (by decide)
            have w19_τ10 : τ10.1 19 = τ_0.1 19 := hf_τ10.1 19 (by decide)
            have w22_τ10 : τ10.1 22 = τ_0.1 22 := hf_τ10.1 22 (by decide)
            have g0_τ10 : τ10.2.1 0 = τ_0.2.1 0 := hf_τ10.2.1 0 (by decide)
            have g6_τ10 : τ10.2.1 6 = τ_0.2.1 6 := hf_τ10.2.1 6 (by decide)
            have g7_τ10 : τ10.2.1 7 = τ_0.2.1 7 := hf_τ10.2.1 7 (by decide)
            have g25_τ10 : τ10.2.1 25 = τ_0.2.1 25 := hf_τ10.2.1 25 (by decide)
            have g26_τ10 : τ10.2.1 26 = τ_0.2.1 26 := hf_τ10.2.1 26 (by decide)
            have g28_τ10 : τ10.2.1 28 = τ_0.2.1 28 := hf_τ10.2.1 28 (by decide)
            first | (have o6_τ10 := congrArg oc g6_τ10) | skip
            first | (have o7_τ10 := congrArg oc g7_τ10) | skip
            have W0 : τ10.1 0 = σ.1 0 := by omega
            have W3 : τ10.1 3 = σ.1 3 := by omega
            have W5 : τ10.1 5 = σ.1 5 := by omega
            have W6 : τ10.1 6 = σ.1 6 := by omega
            have W7 : τ10.1 7 = σ.1 7 := by omega
            have W8 : τ10.1 8 = σ.1 8 := by omega
            have W22 : τ10.1 22 = σ.1 22 := by omega
            have G0 : τ10.2.1 0 = σ.2.1 0 := (g0_τ10).trans G0
            have G6 : τ10.2.1 6 = σ.2.1 6 := (g6_τ10).trans G6
            have G7 : τ10.2.1 7 = σ.2.1 7 := (g7_τ10).trans G7
            have G25 : τ10.2.1 25 = σ.2.1 25 := (g25_τ10).trans G25
            have y0_17_τ10 : τ10.2.1 0 (τ10.1 17) = (τ_0.2.1 0) (τ_0.1 17) := by rw [g0_τ10, w17_τ10]
            have y25_22_τ10 : τ10.2.1 25 (τ10.1 22) = (τ_0.2.1 25) (τ_0.1 22) := by rw [g25_τ10, w22_τ10]
            have y26_22_τ10 : τ10.2.1 26 (τ10.1 22) = (τ_0.2.1 26) (τ_0.1 22) := by rw [g26_τ10, w22_τ10]
            have y28_9_τ10 : τ10.2.1 28 (τ10.1 9) = (τ_0.2.1 28) (τ_0.1 9) := by rw [g28_τ10, w9_τ10]
            have Z4 : τ10.2.1 25 (τ10.1 22) + τ10.2.1 26 (τ10.1 22) = (τ10.1 9) := by rw [show (τ10.2.1 25 (τ10.1 22) + τ10.2.1 26 (τ10.1 22) = (τ10.1 9)) = (τ_0.2.1 25 (τ_0.1 22) + τ_0.2.1 26 (τ_0.1 22) = (τ_0.1 9)) from by rw [w9_τ10, w22_τ10, g25_τ10, g26_τ10]]; exact Z4
            have Y8 : j_eq ((σ.1 9)) (σ.2.1 28) (τ10.2.1 28) := by rw [show (j_eq ((σ.1 9)) (σ.2.1 28) (τ10.2.1 28)) = (j_eq ((σ.1 9)) (σ.2.1 28) (τ_0.2.1 28)) from by rw [g28_τ10]]; exact Y8
            have Y9 : ca (τ10.2.1 28) ((τ10.1 9)) = ca (σ.2.1 28) ((σ.1 9)) := by rw [show (ca (τ10.2.1 28) ((τ10.1 9)) = ca (σ.2.1 28) ((σ.1 9))) = (ca (τ_0.2.1 28) ((τ_0.1 9)) = ca (σ.2.1 28) ((σ.1 9))) from by rw [w9_τ10, g28_τ10]]; exact Y9
            have A0 : ∀ j, 0 ≤ τ10.2.1 0 j ∧ τ10.2.1 0 j ≤ 255 := fun j => hT.2 0 j
            have A6 : ∀ j, (-1) ≤ τ10.2.1 6 j ∧ τ10.2.1 6 j ≤ 999 := fun j => hT.2 6 j
            have A7 : ∀ j, (-1) ≤ τ10.2.1 7 j ∧ τ10.2.1 7 j ≤ 1499 := fun j => hT.2 7 j
            have A25 : ∀ j, 0 ≤ τ10.2.1 25 j ∧ τ10.2.1 25 j ≤ 20000 := fun j => hT.2 25 j
            have A26 : ∀ j, 0 ≤ τ10.2.1 26 j ∧ τ10.2.1 26 j ≤ 20000 := fun j => hT.2 26 j
            have A28 : ∀ j, 0 ≤ τ10.2.1 28 j ∧ τ10.2.1 28 j ≤ 1 := fun j => hT.2 28 j
            have v0 : 0 ≤ τ10.1 0 ∧ τ10.1 0 ≤ 60000 := hT.1 0
            have v3 : 0 ≤ τ10.1 3 ∧ τ10.1 3 ≤ 1000 := hT.1 3
            have v5 : 0 ≤ τ10.1 5 ∧ τ10.1 5 ≤ 1500 := hT.1 5
            have v6 : 0 ≤ τ10.1 6 ∧ τ10.1 6 ≤ 30000 := hT.1 6
            have v7 : 0 ≤ τ10.1 7 ∧ τ10.1 7 ≤ 90000 := hT.1 7
            have v8 : 0 ≤ τ10.1 8 ∧ τ10.1 8 ≤ 20000 := hT.1 8
            have v9 : 0 ≤ τ10.1 9 ∧ τ10.1 9 ≤ 20000 := hT.1 9
            have v16 : 0 ≤ τ10.1 16 ∧ τ10.1 16 ≤ 60000 := hT.1 16
            have v17 : 0 ≤ τ10.1 17 ∧ τ10.1 17 ≤ 60000 := hT.1 17
            have v18 : 0 ≤ τ10.1 18 ∧ τ10.1 18 ≤ 60000 := hT.1 18
            have v19 : (-1) ≤ τ10.1 19 ∧ τ10.1 19 ≤ 125 := hT.1 19
            have v20 : 0 ≤ τ10.1 20 ∧ τ10.1 20 ≤ 19 := hT.1 20
            have v22 : 0 ≤ τ10.1 22 ∧ τ10.1 22 ≤ 1499 := hT.1 22
            have a0_17 : 0 ≤ τ10.2.1 0 (τ10.1 17) ∧ τ10.2.1 0 (τ10.1 17) ≤ 255 := hT.2 0 _
            have a25_22 : 0 ≤ τ10.2.1 25 (τ10.1 22) ∧ τ10.2.1 25 (τ10.1 22) ≤ 20000 := hT.2 25 _
            have a26_22 : 0 ≤ τ10.2.1 26 (τ10.1 22) ∧ τ10.2.1 26 (τ10.1 22) ≤ 20000 := hT.2 26 _
            have a28_9 : 0 ≤ τ10.2.1 28 (τ10.1 9) ∧ τ10.2.1 28 (τ10.1 9) ≤ 1 := hT.2 28 _
            have av9 : σ.1 9 ≤ τ10.1 9 := ag.1 9 (by decide)
            exact ⟨hT, (show (τ10.1 16) ≤ (τ10.1 0) from by (first | omega | (simp only [st_s] <;> omega) | assumption | omega)), (show (τ10.1 17) + (τ10.1 18) ≤ (τ10.1 0) from by (first | omega | (simp only [st_s] <;> omega) | assumption | omega)), (show ¬ (σ.1 20) = 0 → (τ10.1 20) = (σ.1 20) from by (first | omega | (simp only [st_s] <;> omega) | assumption | omega)), (show τ10.2.1 25 (τ10.1 22) + τ10.2.1 26 (τ10.1 22) = (τ10.1 9) from Z4), (show j_eq ((σ.1 9)) (σ.2.1 28) (τ10.2.1 28) from Y8), (show ca (τ10.2.1 28) ((τ10.1 9)) = ca (σ.2.1 28) ((σ.1 9)) from Y9), (show (σ.1 16) ≤ (τ10.1 16) from by (first | omega | (simp only [st_s] <;> omega) | assumption | omega)), ag⟩
  exact l_0 ((3 * ((σ.1 0) - (σ.1 16)) + z_0 ((σ.1 20)) + 1 - z_0 ((σ.1 19)) : Int).toNat + 1) _ (show (3 * ((σ.1 0) - (σ.1 16)) + z_0 ((σ.1 20)) + 1 - z_0 ((σ.1 19)) : Int) < (((3 * ((σ.1 0) - (σ.1 16)) + z_0 ((σ.1 20)) + 1 - z_0 ((σ.1 19)) : Int).toNat + 1 : Nat) : Int) from by (have zz0 := z_e ((σ.1 20)); have zz1 := z_e ((σ.1 19)); (first | omega | (simp only [st_s] <;> omega) | assumption | omega))) hT ag (show σ.1 0 = σ.1 0 from by omega) (show σ.1 3 = σ.1 3 from by omega) (show σ.1 5 = σ.1 5 from by omega) (show σ.1 6 = σ.1 6 from by omega) (show σ.1 7 = σ.1 7 from by omega) (show σ.1 8 = σ.1 8 from by omega) (show σ.1 22 = σ.1 22 from by omega) G0 G6 G7 G25 (show (σ.1 16) ≤ (σ.1 0) from by (first | omega | (simp only [st_s] <;> omega) | assumption | omega)) (show (σ.1 17) + (σ.1 18) ≤ (σ.1 0) from by (first | omega | (simp only [st_s] <;> omega) | assumption | omega)) (show oc (σ.2.1 6) < 4096 from by (first | omega | (simp only [st_s] <;> omega) | assumption | omega)) (show oc (σ.2.1 7) < 4096 from by (first | omega | (simp only [st_s] <;> omega) | assumption | omega)) (show σ.2.1 25 (σ.1 22) + σ.2.1 26 (σ.1 22) = (σ.1 9) from Z4) (show ¬ (σ.1 20) = 0 → (σ.1 20) = (σ.1 20) from by (first | omega | (simp only [st_s] <;> omega) | assumption | omega)) (show j_eq ((σ.1 9)) (σ.2.1 28) (σ.2.1 28) from Y8) (show ca (σ.2.1 28) ((σ.1 9)) = ca (σ.2.1 28) ((σ.1 9)) from Y9) (show (σ.1 16) ≤ (σ.1 16) from by (first | omega | (simp only [st_s] <;> omega) | assumption | omega))
set_option maxHeartbeats 1000000 in
theorem K_X13_readPackedLabels {σ : S0} (hT : m_T σ) (p1 : (σ.1 16) ≤ (σ.1 0)) (p2 : (σ.1 17) + (σ.1 18) ≤ (σ.1 0)) (p3 : oc (σ.2.1 6) < 4096) (p4 : oc (σ.2.1 7) < 4096) (p5 : σ.2.1 18 (σ.1 22) + σ.2.1 19 (σ.1 22) ≤ 90100) : W_X13_readPackedLabels σ (fun (τ : S0) => (m_T τ) ∧ ((τ.1 16) ≤ (τ.1 0)) ∧ ((τ.1 17) + (τ.1 18) ≤ (τ.1 0)) ∧ (¬ (σ.1 20) = 0 → (τ.1 20) = (σ.1 20)) ∧ (oc (τ.2.1 6) < 4096) ∧ (oc (τ.2.1 7) < 4096) ∧ ((σ.1 16) ≤ (τ.1 16))) := by
  have A0 : ∀ j, 0 ≤ σ.2.1 0 j ∧ σ.2.1 0 j ≤ 255 := fun j => hT.2 0 j
  have A6 : ∀ j, (-1) ≤ σ.2.1 6 j ∧ σ.2.1 6 j ≤ 999 := fun j => hT.2 6 j
  have A7 : ∀ j, (-1) ≤ σ.2.1 7 j ∧ σ.2.1 7 j ≤ 1499 := fun j => hT.2 7 j
  have A18 : ∀ j, 0 ≤ σ.2.1 18 j ∧ σ.2.1 18 j ≤ 90000 := fun j => hT.2 18 j
  have A19 : ∀ j, 0 ≤ σ.2.1 19 j ∧ σ.2.1 19 j ≤ 60 := fun j => hT.2 19 j
  have v0 : 0 ≤ σ.1 0 ∧ σ.1 0 ≤ 60000 := hT.1 0
  have v16 : 0 ≤ σ.1 16 ∧ σ.1 16 ≤ 60000 := hT.1 16
  have v17 : 0 ≤ σ.1 17 ∧ σ.1 17 ≤ 60000 := hT.1 17
  have v18 : 0 ≤ σ.1 18 ∧ σ.1 18 ≤ 60000 := hT.1 18
  have v19 : (-1) ≤ σ.1 19 ∧ σ.1 19 ≤ 125 := hT.1 19
  have v20 : 0 ≤ σ.1 20 ∧ σ.1 20 ≤ 19 := hT.1 20
  have v22 : 0 ≤ σ.1 22 ∧ σ.1 22 ≤ 1499 := hT.1 22
  have v25 : 0 ≤ σ.1 25 ∧ σ.1 25 ≤ 300 := hT.1 25
  have a0_17 : 0 ≤ σ.2.1 0 (σ.1 17) ∧ σ.2.1 0 (σ.1 17) ≤ 255 := hT.2 0 _
  have a18_22 : 0 ≤ σ.2.1 18 (σ.1 22) ∧ σ.2.1 18 (σ.1 22) ≤ 90000 := hT.2 18 _
  have a19_22 : 0 ≤ σ.2.1 19 (σ.1 22) ∧ σ.2.1 19 (σ.1 22) ≤ 60 := hT.2 19 _
  have W0 : σ.1 0 = σ.1 0 := rfl
  have W22 : σ.1 22 = σ.1 22 := rfl
  have G0 : σ.2.1 0 = σ.2.1 0 := rfl
  have G6 : σ.2.1 6 = σ.2.1 6 := rfl
  have G7 : σ.2.1 7 = σ.2.1 7 := rfl
  have G18 : σ.2.1 18 = σ.2.1 18 := rfl
  have G19 : σ.2.1 19 = σ.2.1 19 := rfl
  intro P9 P46 P90 h9 h46 h90
  have l_9 : ∀ (m_9 : Nat) (τ_9 : S0), 3 * ((τ_9.1 0) - (τ_9.1 16)) + z_0 ((τ_9.1 20)) + 1 - z_0 ((τ_9.1 19)) < (m_9 : Int) → (m_T τ_9) → (τ_9.1 0 = σ.1 0) → (τ_9.1 22 = σ.1 22) → (τ_9.2.1 0 = σ.2.1 0) → (τ_9.2.1 6 = σ.2.1 6) → (τ_9.2.1 7 = σ.2.1 7) → (τ_9.2.1 18 = σ.2.1 18) → (τ_9.2.1 19 = σ.2.1 19) → ((τ_9.1 16) ≤ (τ_9.1 0)) → ((τ_9.1 17) + (τ_9.1 18) ≤ (τ_9.1 0)) → (oc (τ_9.2.1 6) < 4096) → (oc (τ_9.2.1 7) < 4096) → (¬ (σ.1 20) = 0 → (τ_9.1 20) = (σ.1 20)) → ((σ.1 16) ≤ (τ_9.1 16)) → P9 τ_9 := by
    intro m_9
    induction m_9 with
    | zero =>
      intro τ_9 hm hT W0 W22 G0 G6 G7 G18 G19 i9_1 i9_2 i9_3 i9_4 i9_5 i9_6
      have A0 : ∀ j, 0 ≤ τ_9.2.1 0 j ∧ τ_9.2.1 0 j ≤ 255 := fun j => hT.2 0 j
      have A6 : ∀ j, (-1) ≤ τ_9.2.1 6 j ∧ τ_9.2.1 6 j ≤ 999 := fun j => hT.2 6 j
      have A7 : ∀ j, (-1) ≤ τ_9.2.1 7 j ∧ τ_9.2.1 7 j ≤ 1499 := fun j => hT.2 7 j
      have A18 : ∀ j, 0 ≤ τ_9.2.1 18 j ∧ τ_9.2.1 18 j ≤ 90000 := fun j => hT.2 18 j
      have A19 : ∀ j, 0 ≤ τ_9.2.1 19 j ∧ τ_9.2.1 19 j ≤ 60 := fun j => hT.2 19 j
      have v0 : 0 ≤ τ_9.1 0 ∧ τ_9.1 0 ≤ 60000 := hT.1 0
      have v16 : 0 ≤ τ_9.1 16 ∧ τ_9.1 16 ≤ 60000 := hT.1 16
      have v17 : 0 ≤ τ_9.1 17 ∧ τ_9.1 17 ≤ 60000 := hT.1 17
      have v18 : 0 ≤ τ_9.1 18 ∧ τ_9.1 18 ≤ 60000 := hT.1 18
      have v19 : (-1) ≤ τ_9.1 19 ∧ τ_9.1 19 ≤ 125 := hT.1 19
      have v20 : 0 ≤ τ_9.1 20 ∧ τ_9.1 20 ≤ 19 := hT.1 20
      have v22 : 0 ≤ τ_9.1 22 ∧ τ_9.1 22 ≤ 1499 := hT.1 22
      have v25 : 0 ≤ τ_9.1 25 ∧ τ_9.1 25 ≤ 300 := hT.1 25
      have a0_17 : 0 ≤ τ_9.2.1 0 (τ_9.1 17) ∧ τ_9.2.1 0 (τ_9.1 17) ≤ 255 := hT.2 0 _
      have a18_22 : 0 ≤ τ_9.2.1 18 (τ_9.1 22) ∧ τ_9.2.1 18 (τ_9.1 22) ≤ 90000 := hT.2 18 _
      have a19_22 : 0 ≤ τ_9.2.1 19 (τ_9.1 22) ∧ τ_9.2.1 19 (τ_9.1 22) ≤ 60 := hT.2 19 _
      have zz0 := z_e ((τ_9.1 20))
      have zz1 := z_e ((τ_9.1 19))
      exfalso; (first | omega | (simp only [st_s] <;> omega) | assumption | omega)
    | succ m_9 ih_9 =>
      intro τ_9 hm_9 hT W0 W22 G0 G6 G7 G18 G19 i9_1 i9_2 i9_3 i9_4 i9_5 i9_6
      have A0 : ∀ j, 0 ≤ τ_9.2.1 0 j ∧ τ_9.2.1 0 j ≤ 255 := fun j => hT.2 0 j
      have A6 : ∀ j, (-1) ≤ τ_9.2.1 6 j ∧ τ_9.2.1 6 j ≤ 999 := fun j => hT.2 6 j
      have A7 : ∀ j, (-1) ≤ τ_9.2.1 7 j ∧ τ_9.2.1 7 j ≤ 1499 := fun j => hT.2 7 j
      have A18 : ∀ j, 0 ≤ τ_9.2.1 18 j ∧ τ_9.2.1 18 j ≤ 90000 := fun j => hT.2 18 j
      have A19 : ∀ j, 0 ≤ τ_9.2.1 19 j ∧ τ_9.2.1 19 j ≤ 60 := fun j => hT.2 19 j
      have v0 : 0 ≤ τ_9.1 0 ∧ τ_9.1 0 ≤ 60000 := hT.1 0
      have v16 : 0 ≤ τ_9.1 16 ∧ τ_9.1 16 ≤ 60000 := hT.1 16
      have v17 : 0 ≤ τ_9.1 17 ∧ τ_9.1 17 ≤ 60000 := hT.1 17
      have v18 : 0 ≤ τ_9.1 18 ∧ τ_9.1 18 ≤ 60000 := hT.1 18
      have v19 : (-1) ≤ τ_9.1 19 ∧ τ_9.1 19 ≤ 125 := hT.1 19
      have v20 : 0 ≤ τ_9.1 20 ∧ τ_9.1 20 ≤ 19 := hT.1 20
      have v22 : 0 ≤ τ_9.1 22 ∧ τ_9.1 22 ≤ 1499 := hT.1 22
      have v25 : 0 ≤ τ_9.1 25 ∧ τ_9.1 25 ≤ 300 := hT.1 25
      have a0_17 : 0 ≤ τ_9.2.1 0 (τ_9.1 17) ∧ τ_9.2.1 0 (τ_9.1 17) ≤ 255 := hT.2 0 _
      have a18_22 : 0 ≤ τ_9.2.1 18 (τ_9.1 22) ∧ τ_9.2.1 18 (τ_9.1 22) ≤ 90000 := hT.2 18 _
      have a19_22 : 0 ≤ τ_9.2.1 19 (τ_9.1 22) ∧ τ_9.2.1 19 (τ_9.1 22) ≤ 60 := hT.2 19 _
      have zy9_0 := z_e ((τ_9.1 20))
      have zy9_1 := z_e ((τ_9.1 19))
      have y18_22_τ_9 : τ_9.2.1 18 (τ_9.1 22) = σ.2.1 18 (σ.1 22) := by rw [G18, W22]
      have y19_22_τ_9 : τ_9.2.1 19 (τ_9.1 22) = σ.2.1 19 (σ.1 22) := by rw [G19, W22]
      have o6_τ_9 := congrArg oc G6
      have o7_τ_9 := congrArg oc G7
      have l_90 : ∀ (m_90 : Nat) (u1_90 : Int) (u2_90 : Int) (u3_90 : Int) (τ_90 : S0), 301 - u3_90 < (m_90 : Int) → (m_T τ_90) → (τ_90.1 0 = σ.1 0) → (τ_90.1 22 = σ.1 22) → (τ_90.2.1 0 = σ.2.1 0) → (τ_90.2.1 6 = σ.2.1 6) → (τ_90.2.1 7 = σ.2.1 7) → (τ_90.2.1 18 = σ.2.1 18) → (τ_90.2.1 19 = σ.2.1 19) → ((τ_90.1 16) ≤ (τ_90.1 0)) → ((τ_90.1 17) + (τ_90.1 18) ≤ (τ_90.1 0)) → (oc (τ_90.2.1 6) < 4096) → (oc (τ_90.2.1 7) < 4096) → (¬ (σ.1 20) = 0 → (τ_90.1 20) = (σ.1 20)) → (-1 ≤ u1_90 ∧ u1_90 ≤ 1499) → (0 ≤ u2_90 ∧ u2_90 ≤ 1) → (0 ≤ u3_90) → (u3_90 ≤ 300) → ((τ_90.1 20) = 0) → ((τ_90.1 19) = 1) → (3 * ((τ_90.1 0) - (τ_90.1 16)) + z_0 ((τ_90.1 20)) + 1 - z_0 ((τ_90.1 19)) ≤ (m_9 : Int)) → ((σ.1 16) ≤ (τ_90.1 16)) → P90 u1_90 u2_90 u3_90 τ_90 := by
        intro m_90
        induction m_90 with
        | zero =>
          intro u1_90 u2_90 u3_90 τ_90 hm hT W0 W22 G0 G6 G7 G18 G19 i90_1 i90_2 i90_3 i90_4 i90_5 i90_6 i90_7 i90_8 i90_9 i90_10 i90_11 i90_12 i90_13
          have A0 : ∀ j, 0 ≤ τ_90.2.1 0 j ∧ τ_90.2.1 0 j ≤ 255 := fun j => hT.2 0 j
          have A6 : ∀ j, (-1) ≤ τ_90.2.1 6 j ∧ τ_90.2.1 6 j ≤ 999 := fun j => hT.2 6 j
          have A7 : ∀ j, (-1) ≤ τ_90.2.1 7 j ∧ τ_90.2.1 7 j ≤ 1499 := fun j => hT.2 7 j
          have A18 : ∀ j, 0 ≤ τ_90.2.1 18 j ∧ τ_90.2.1 18 j ≤ 90000 := fun j => hT.2 18 j
          have A19 : ∀ j, 0 ≤ τ_90.2.1 19 j ∧ τ_90.2.1 19 j ≤ 60 := fun j => hT.2 19 j
          have v0 : 0 ≤ τ_90.1 0 ∧ τ_90.1 0 ≤ 60000 := hT.1 0
          have v16 : 0 ≤ τ_90.1 16 ∧ τ_90.1 16 ≤ 60000 := hT.1 16
          have v17 : 0 ≤ τ_90.1 17 ∧ τ_90.1 17 ≤ 60000 := hT.1 17
          have v18 : 0 ≤ τ_90.1 18 ∧ τ_90.1 18 ≤ 60000 := hT.1 18
          have v19 : (-1) ≤ τ_90.1 19 ∧ τ_90.1 19 ≤ 125 := hT.1 19
          have v20 : 0 ≤ τ_90.1 20 ∧ τ_90.1 20 ≤ 19 := hT.1 20
          have v22 : 0 ≤ τ_90.1 22 ∧ τ_90.1 22 ≤ 1499 := hT.1 22
          have v25 : 0 ≤ τ_90.1 25 ∧ τ_90.1 25 ≤ 300 := hT.1 25
          have a0_17 : 0 ≤ τ_90.2.1 0 (τ_90.1 17) ∧ τ_90.2.1 0 (τ_90.1 17) ≤ 255 := hT.2 0 _
          have a18_22 : 0 ≤ τ_90.2.1 18 (τ_90.1 22) ∧ τ_90.2.1 18 (τ_90.1 22) ≤ 90000 := hT.2 18 _
          have a19_22 : 0 ≤ τ_90.2.1 19 (τ_90.1 22) ∧ τ_90.2.1 19 (τ_90.1 22) ≤ 60 := hT.2 19 _
          exfalso; (first | omega | (simp only [st_s] <;> omega) | assumption | omega)
        | succ m_90 ih_90 =>
          intro u1_90 u2_90 u3_90 τ_90 hm_90 hT W0 W22 G0 G6 G7 G18 G19 i90_1 i90_2 i90_3 i90_4 i90_5 i90_6 i90_7 i90_8 i90_9 i90_10 i90_11 i90_12 i90_13
          have A0 : ∀ j, 0 ≤ τ_90.2.1 0 j ∧ τ_90.2.1 0 j ≤ 255 := fun j => hT.2 0 j
          have A6 : ∀ j, (-1) ≤ τ_90.2.1 6 j ∧ τ_90.2.1 6 j ≤ 999 := fun j => hT.2 6 j
          have A7 : ∀ j, (-1) ≤ τ_90.2.1 7 j ∧ τ_90.2.1 7 j ≤ 1499 := fun j => hT.2 7 j
          have A18 : ∀ j, 0 ≤ τ_90.2.1 18 j ∧ τ_90.2.1 18 j ≤ 90000 := fun j => hT.2 18 j
          have A19 : ∀ j, 0 ≤ τ_90.2.1 19 j ∧ τ_90.2.1 19 j ≤ 60 := fun j => hT.2 19 j
          have v0 : 0 ≤ τ_90.1 0 ∧ τ_90.1 0 ≤ 60000 := hT.1 0
          have v16 : 0 ≤ τ_90.1 16 ∧ τ_90.1 16 ≤ 60000 := hT.1 16
          have v17 : 0 ≤ τ_90.1 17 ∧ τ_90.1 17 ≤ 60000 := hT.1 17
          have v18 : 0 ≤ τ_90.1 18 ∧ τ_90.1 18 ≤ 60000 := hT.1 18
          have v19 : (-1) ≤ τ_90.1 19 ∧ τ_90.1 19 ≤ 125 := hT.1 19
          have v20 : 0 ≤ τ_90.1 20 ∧ τ_90.1 20 ≤ 19 := hT.1 20
          have v22 : 0 ≤ τ_90.1 22 ∧ τ_90.1 22 ≤ 1499 := hT.1 22
          have v25 : 0 ≤ τ_90.1 25 ∧ τ_90.1 25 ≤ 300 := hT.1 25
          have a0_17 : 0 ≤ τ_90.2.1 0 (τ_90.1 17) ∧ τ_90.2.1 0 (τ_90.1 17) ≤ 255 := hT.2 0 _
          have a18_22 : 0 ≤ τ_90.2.1 18 (τ_90.1 22) ∧ τ_90.2.1 18 (τ_90.1 22) ≤ 90000 := hT.2 18 _
          have a19_22 : 0 ≤ τ_90.2.1 19 (τ_90.1 22) ∧ τ_90.2.1 19 (τ_90.1 22) ≤ 60 := hT.2 19 _
          have y18_22_τ_90 : τ_90.2.1 18 (τ_90.1 22) = σ.2.1 18 (σ.1 22) := by rw [G18, W22]
          have y19_22_τ_90 : τ_90.2.1 19 (τ_90.1 22) = σ.2.1 19 (σ.1 22) := by rw [G19, W22]
          have o6_τ_90 := congrArg oc G6
          have o7_τ_90 := congrArg oc G7
          have zq1 := z_e (τ_90.1 20)
          have zq2 := z_e (τ_90.1 19)
          refine h90 u1_90 u2_90 u3_90 τ_90 ?_
          refine ⟨fun c22 => ?_, fun c22 => ?_⟩
          ·
            refine ⟨fun c23 => ?_, fun c23 => ?_⟩
            ·
              refine ⟨fun c24 => ?_, fun c24 => ?_⟩
              ·
                refine ⟨fun c25 => ?_, fun c25 => ?_⟩
                ·
                  refine ⟨(show 0 ≤ τ_90.1 25 ∧ τ_90.1 25 < 300 from by (first | omega | (simp only [st_s] <;> omega) | assumption | omega)), ?_⟩
                  replace hT := mT_a (k := 39) (j := (τ_90.1 25)) hT (show (0 : Int) ≤ u1_90 ∧ u1_90 ≤ 1499 from by (first | omega | (simp only [st_s] <;> omega) | assumption | omega))
                  refine ⟨(⟨by (first | omega | (simp only [st_s] <;> omega) | assumption | omega), by (first | omega | (simp only [st_s] <;> omega) | assumption | omega)⟩ : rg (τ_90.1 25 + 1)), ?_⟩
                  replace hT := mT_v (i := 25) hT (show 0 ≤ (τ_90.1 25 + 1) ∧ (τ_90.1 25 + 1) ≤ 300 from by (first | omega | (simp only [st_s] <;> omega) | assumption | omega))
                  refine ⟨_, K_X13_next hT (show (τ_90.1 16) ≤ (τ_90.1 0) from by (first | omega | (simp only [st_s] <;> omega) | assumption | omega)), ?_⟩
                  intro τ30 hn_τ30 hf_τ30 hq
                  obtain ⟨hT, q28_1, q28_2, q28_3, q28_4, q28_5⟩ := hq
                  replace q28_1 : (τ30.1 16) ≤ (τ30.1 0) := q28_1
                  replace q28_2 : (τ30.1 17) + (τ30.1 18) ≤ (τ30.1 0) := q28_2
                  replace q28_3 : (τ_90.1 16) ≤ (τ30.1 16) := q28_3
                  replace q28_4 : ¬ (τ_90.1 20) = 0 → (τ30.1 20) = (τ_90.1 20) := q28_4
                  replace q28_5 : (τ30.1 20) = 0 → ¬ (τ30.1 19) = 0 → (τ_90.1 16) < (τ30.1 16) ∧ 0 < (τ30.1 18) := q28_5
                  have w0_τ30 : τ30.1 0 = τ_90.1 0 := hf_τ30.1 0 (by decide)
                  have w22_τ30 : τ30.1 22 = τ_90.1 22 := hf_τ30.1 22 (by decide)
                  have w25_τ30 : τ30.1 25 = (τ_90.1 25 + 1) := hf_τ30.1 25 (by decide)
                  have g0_τ30 : τ30.2.1 0 = τ_90.2.1 0 := hf_τ30.2.1 0 (by decide)
                  have g6_τ30 : τ30.2.1 6 = τ_90.2.1 6 := hf_τ30.2.1 6 (by decide)
                  have g7_τ30 : τ30.2.1 7 = τ_90.2.1 7 := hf_τ30.2.1 7 (by decide)
                  have g18_τ30 : τ30.2.1 18 = τ_90.2.1 18 := hf_τ30.2.1 18 (by decide)
                  have g19_τ30 : τ30.2.1 19 = τ_90.2.1 19 := hf_τ30.2.1 19 (by decide)
                  first | (have o6_τ30 := congrArg oc g6_τ30) | skip
                  first | (have o7_τ30 := congrArg oc g7_τ30) | skip
                  have W0 : τ30.1 0 = σ.1 0 := by omega
                  have W22 : τ30.1 22 = σ.1 22 := by omega
                  have G0 : τ30.2.1 0 = σ.2.1 0 := (g0_τ30).trans G0
                  have G6 : τ30.2.1 6 = σ.2.1 6 := (g6_τ30).trans G6
                  have G7 : τ30.2.1 7 = σ.2.1 7 := (g7_τ30).trans G7
                  have G18 : τ30.2.1 18 = σ.2.1 18 := (g18_τ30).trans G18
                  have G19 : τ30.2.1 19 = σ.2.1 19 := (g19_τ30).trans G19
                  have y18_22_τ30 : τ30.2.1 18 (τ30.1 22) = (τ_90.2.1 18) (τ_90.1 22) := by rw [g18_τ30, w22_τ30]
                  have y19_22_τ30 : τ30.2.1 19 (τ30.1 22) = (τ_90.2.1 19) (τ_90.1 22) := by rw [g19_τ30, w22_τ30]
                  have A0 : ∀ j, 0 ≤ τ30.2.1 0 j ∧ τ30.2.1 0 j ≤ 255 := fun j => hT.2 0 j
                  have A6 : ∀ j, (-1) ≤ τ30.2.1 6 j ∧ τ30.2.1 6 j ≤ 999 := fun j => hT.2 6 j
                  have A7 : ∀ j, (-1) ≤ τ30.2.1 7 j ∧ τ30.2.1 7 j ≤ 1499 := fun j => hT.2 7 j
                  have A18 : ∀ j, 0 ≤ τ30.2.1 18 j ∧ τ30.2.1 18 j ≤ 90000 := fun j => hT.2 18 j
                  have A19 : ∀ j, 0 ≤ τ30.2.1 19 j ∧ τ30.2.1 19 j ≤ 60 := fun j => hT.2 19 j
                  have v0 : 0 ≤ τ30.1 0 ∧ τ30.1 0 ≤ 60000 := hT.1 0
                  have v16 : 0 ≤ τ30.1 16 ∧ τ30.1 16 ≤ 60000 := hT.1 16
                  have v17 : 0 ≤ τ30.1 17 ∧ τ30.1 17 ≤ 60000 := hT.1 17
                  have v18 : 0 ≤ τ30.1 18 ∧ τ30.1 18 ≤ 60000 := hT.1 18
                  have v19 : (-1) ≤ τ30.1 19 ∧ τ30.1 19 ≤ 125 := hT.1 19
                  have v20 : 0 ≤ τ30.1 20 ∧ τ30.1 20 ≤ 19 := hT.1 20
                  have v22 : 0 ≤ τ30.1 22 ∧ τ30.1 22 ≤ 1499 := hT.1 22
                  have v25 : 0 ≤ τ30.1 25 ∧ τ30.1 25 ≤ 300 := hT.1 25
                  have a0_17 : 0 ≤ τ30.2.1 0 (τ30.1 17) ∧ τ30.2.1 0 (τ30.1 17) ≤ 255 := hT.2 0 _
                  have a18_22 : 0 ≤ τ30.2.1 18 (τ30.1 22) ∧ τ30.2.1 18 (τ30.1 22) ≤ 90000 := hT.2 18 _
                  have a19_22 : 0 ≤ τ30.2.1 19 (τ30.1 22) ∧ τ30.2.1 19 (τ30.1 22) ≤ 60 := hT.2 19 _
                  exact ih_9 _ (show (3 * ((τ30.1 0) - (τ30.1 16)) + z_0 ((τ30.1 20)) + 1 - z_0 ((τ30.1 19)) : Int) < ((m_9 : Nat) : Int) from by (have zz0 := z_e ((τ30.1 20)); have zz1 := z_e ((τ30.1 19)); (first | omega | (simp only [st_s] <;> omega) | assumption | omega))) hT (show τ30.1 0 = σ.1 0 from by omega) (show τ30.1 22 = σ.1 22 from by omega) G0 G6 G7 G18 G19 (show (τ30.1 16) ≤ (τ30.1 0) from by (first | omega | (simp only [st_s] <;> omega) | assumption | omega)) (show (τ30.1 17) + (τ30.1 18) ≤ (τ30.1 0) from by (first | omega | (simp only [st_s] <;> omega) | assumption | omega)) (show oc (τ30.2.1 6) < 4096 from by (first | omega | (simp only [st_s] <;> omega) | assumption | omega)) (show oc (τ30.2.1 7) < 4096 from by (first | omega | (simp only [st_s] <;> omega) | assumption | omega)) (show ¬ (σ.1 20) = 0 → (τ30.1 20) = (σ.1 20) from by (first | omega | (simp only [st_s] <;> omega) | assumption | omega)) (show (σ.1 16) ≤ (τ30.1 16) from by (first | omega | (simp only [st_s] <;> omega) | assumption | omega))
                ·
                  refine ⟨_, K_X13_failHere hT (show 0 ≤ 14 from by (first | omega | (simp only [st_s] <;> omega) | assumption | omega)) (show 14 ≤ 19 from by (first | omega | (simp only [st_s] <;> omega) | assumption | omega)), ?_⟩
                  intro τ33 hn_τ33 hf_τ33 hq
                  obtain ⟨hT, q31_1, q31_2⟩ := hq
                  replace q31_1 : ¬ (τ_90.1 20) = 0 → (τ33.1 20) = (τ_90.1 20) := q31_1
                  replace q31_2 : (τ_90.1 20) = 0 → (τ33.1 20) = 14 := q31_2
                  have w0_τ33 : τ33.1 0 = τ_90.1 0 := hf_τ33.1 0 (by decide)
                  have w16_τ33 : τ33.1 16 = τ_90.1 16 := hf_τ33.1 16 (by decide)
                  have w17_τ33 : τ33.1 17 = τ_90.1 17 := hf_τ33.1 17 (by decide)
                  have w18_τ33 : τ33.1 18 = τ_90.1 18 := hf_τ33.1 18 (by decide)
                  have w19_τ33 : τ33.1 19 = τ_90.1 19 := hf_τ33.1 19 (by decide)
                  have w22_τ33 : τ33.1 22 = τ_90.1 22 := hf_τ33.1 22 (by decide)
                  have w25_τ33 : τ33.1 25 = τ_90.1 25 := hf_τ33.1 25 (by decide)
                  have g0_τ33 : τ33.2.1 0 = τ_90.2.1 0 := hf_τ33.2.1 0 (by decide)
                  have g6_τ33 : τ33.2.1 6 = τ_90.2.1 6 := hf_τ33.2.1 6 (by decide)
                  have g7_τ33 : τ33.2.1 7 = τ_90.2.1 7 := hf_τ33.2.1 7 (by decide)
                  have g18_τ33 : τ33.2.1 18 = τ_90.2.1 18 := hf_τ33.2.1 18 (by decide)
                  have g19_τ33 : τ33.2.1 19 = τ_90.2.1 19 := hf_τ33.2.1 19 (by decide)
                  first | (have o6_τ33 := congrArg oc g6_τ33) | skip
                  first | (have o7_τ33 := congrArg oc g7_τ33) | skip
                  have W0 : τ33.1 0 = σ.1 0 := by omega
                  have W22 : τ33.1 22 = σ.1 22 := by omega
                  have G0 : τ33.2.1 0 = σ.2.1 0 := (g0_τ33).trans G0
                  have G6 : τ33.2.1 6 = σ.2.1 6 := (g6_τ33).trans G6
                  have G7 : τ33.2.1 7 = σ.2.1 7 := (g7_τ33).trans G7
                  have G18 : τ33.2.1 18 = σ.2.1 18 := (g18_τ33).trans G18
                  have G19 : τ33.2.1 19 = σ.2.1 19 := (g19_τ33).trans G19
                  have y0_17_τ33 : τ33.2.1 0 (τ33.1 17) = (τ_90.2.1 0) (τ_90.1 17) := by rw [g0_τ33, w17_τ33]
                  have y18_22_τ33 : τ33.2.1 18 (τ33.1 22) = (τ_90.2.1 18) (τ_90.1 22) := by rw [g18_τ33, w22_τ33]
                  have y19_22_τ33 : τ33.2.1 19 (τ33.1 22) = (τ_90.2.1 19) (τ_90.1 22) := by rw [g19_τ33, w22_τ33]
                  have A0 : ∀ j, 0 ≤ τ33.2.1 0 j ∧ τ33.2.1 0 j ≤ 255 := fun j => hT.2 0 j
                  have A6 : ∀ j, (-1) ≤ τ33.2.1 6 j ∧ τ33.2.1 6 j ≤ 999 := fun j => hT.2 6 j
                  have A7 : ∀ j, (-1) ≤ τ33.2.1 7 j ∧ τ33.2.1 7 j ≤ 1499 := fun j => hT.2 7 j
                  have A18 : ∀ j, 0 ≤ τ33.2.1 18 j ∧ τ33.2.1 18 j ≤ 90000 := fun j => hT.2 18 j
                  have A19 : ∀ j, 0 ≤ τ33.2.1 19 j ∧ τ33.2.1 19 j ≤ 60 := fun j => hT.2 19 j
                  have v0 : 0 ≤ τ33.1 0 ∧ τ33.1 0 ≤ 60000 := hT.1 0
                  have v16 : 0 ≤ τ33.1 16 ∧ τ33.1 16 ≤ 60000 := hT.1 16
                  have v17 : 0 ≤ τ33.1 17 ∧ τ33.1 17 ≤ 60000 := hT.1 17
                  have v18 : 0 ≤ τ33.1 18 ∧ τ33.1 18 ≤ 60000 := hT.1 18
                  have v19 : (-1) ≤ τ33.1 19 ∧ τ33.1 19 ≤ 125 := hT.1 19
                  have v20 : 0 ≤ τ33.1 20 ∧ τ33.1 20 ≤ 19 := hT.1 20
                  have v22 : 0 ≤ τ33.1 22 ∧ τ33.1 22 ≤ 1499 := hT.1 22
                  have v25 : 0 ≤ τ33.1 25 ∧ τ33.1 25 ≤ 300 := hT.1 25
                  have a0_17 : 0 ≤ τ33.2.1 0 (τ33.1 17) ∧ τ33.2.1 0 (τ33.1 17) ≤ 255 := hT.2 0 _
                  have a18_22 : 0 ≤ τ33.2.1 18 (τ33.1 22) ∧ τ33.2.1 18 (τ33.1 22) ≤ 90000 := hT.2 18 _
                  have a19_22 : 0 ≤ τ33.2.1 19 (τ33.1 22) ∧ τ33.2.1 19 (τ33.1 22) ≤ 60 := hT.2 19 _
                  exact ih_9 _ (show (3 * ((τ33.1 0) - (τ33.1 16)) + z_0 ((τ33.1 20)) + 1 - z_0 ((τ33.1 19)) : Int) < ((m_9 : Nat) : Int) from by (have zz0 := z_e ((τ33.1 20)); have zz1 := z_e ((τ33.1 19)); (first | omega | (simp only [st_s] <;> omega) | assumption | omega))) hT (show τ33.1 0 = σ.1 0 from by omega) (show τ33.1 22 = σ.1 22 from by omega) G0 G6 G7 G18 G19 (show (τ33.1 16) ≤ (τ33.1 0) from by (first | omega | (simp only [st_s] <;> omega) | assumption | omega)) (show (τ33.1 17) + (τ33.1 18) ≤ (τ33.1 0) from by (first | omega | (simp only [st_s] <;> omega) | assumption | omega)) (show oc (τ33.2.1 6) < 4096 from by (first | omega | (simp only [st_s] <;> omega) | assumption | omega)) (show oc (τ33.2.1 7) < 4096 from by (first | omega | (simp only [st_s] <;> omega) | assumption | omega)) (show ¬ (σ.1 20) = 0 → (τ33.1 20) = (σ.1 20) from by (first | omega | (simp only [st_s] <;> omega) | assumption | omega)) (show (σ.1 16) ≤ (τ33.1 16) from by (first | omega | (simp only [st_s] <;> omega) | assumption | omega))
              ·
                refine ⟨_, K_X13_failHere hT (show 0 ≤ 13 from by (first | omega | (simp only [st_s] <;> omega) | assumption | omega)) (show 13 ≤ 19 from by (first | omega | (simp only [st_s] <;> omega) | assumption | omega)), ?_⟩
                intro τ36 hn_τ36 hf_τ36 hq
                obtain ⟨hT, q34_1, q34_2⟩ := hq
                replace q34_1 : ¬ (τ_90.1 20) = 0 → (τ36.1 20) = (τ_90.1 20) := q34_1
                replace q34_2 : (τ_90.1 20) = 0 → (τ36.1 20) = 13 := q34_2
                have w0_τ36 : τ36.1 0 = τ_90.1 0 := hf_τ36.1 0 (by decide)
                have w16_τ36 : τ36.1 16 = τ_90.1 16 := hf_τ36.1 16 (by decide)
                have w17_τ36 : τ36.1 17 = τ_90.1 17 := hf_τ36.1 17 (by decide)
                have w18_τ36 : τ36.1 18 = τ_90.1 18 := hf_τ36.1 18 (by decide)
                have w19_τ36 : τ36.1 19 = τ_90.1 19 := hf_τ36.1 19 (by decide)
                have w22_τ36 : τ36.1 22 = τ_90.1 22 := hf_τ36.1 22 (by decide)
                have w25_τ36 : τ36.1 25 = τ_90.1 25 := hf_τ36.1 25 (by decide)
                have g0_τ36 : τ36.2.1 0 = τ_90.2.1 0 := hf_τ36.2.1 0 (by decide)
                have g6_τ36 : τ36.2.1 6 = τ_90.2.1 6 := hf_τ36.2.1 6 (by decide)
                have g7_τ36 : τ36.2.1 7 = τ_90.2.1 7 := hf_τ36.2.1 7 (by decide)
                have g18_τ36 : τ36.2.1 18 = τ_90.2.1 18 := hf_τ36.2.1 18 (by decide)
                have g19_τ36 : τ36.2.1 19 = τ_90.2.1 19 := hf_τ36.2.1 19 (by decide)
                first | (have o6_τ36 := congrArg oc g6_τ36) | skip
                first | (have o7_τ36 := congrArg oc g7_τ36) | skip
                have W0 : τ36.1 0 = σ.1 0 := by omega
                have W22 : τ36.1 22 = σ.1 22 := by omega
                have G0 : τ36.2.1 0 = σ.2.1 0 := (g0_τ36).trans G0
                have G6 : τ36.2.1 6 = σ.2.1 6 := (g6_τ36).trans G6
                have G7 : τ36.2.1 7 = σ.2.1 7 := (g7_τ36).trans G7
                have G18 : τ36.2.1 18 = σ.2.1 18 := (g18_τ36).trans G18
                have G19 : τ36.2.1 19 = σ.2.1 19 := (g19_τ36).trans G19
                have y0_17_τ36 : τ36.2.1 0 (τ36.1 17) = (τ_90.2.1 0) (τ_90.1 17) := by rw [g0_τ36, w17_τ36]
                have y18_22_τ36 : τ36.2.1 18 (τ36.1 22) = (τ_90.2.1 18) (τ_90.1 22) := by rw [g18_τ36, w22_τ36]
                have y19_22_τ36 : τ36.2.1 19 (τ36.1 22) = (τ_90.2.1 19) (τ_90.1 22) := by rw [g19_τ36, w22_τ36]
                have A0 : ∀ j, 0 ≤ τ36.2.1 0 j ∧ τ36.2.1 0 j ≤ 255 := fun j => hT.2 0 j
                have A6 : ∀ j, (-1) ≤ τ36.2.1 6 j ∧ τ36.2.1 6 j ≤ 999 := fun j => hT.2 6 j
                have A7 : ∀ j, (-1) ≤ τ36.2.1 7 j ∧ τ36.2.1 7 j ≤ 1499 := fun j => hT.2 7 j
                have A18 : ∀ j, 0 ≤ τ36.2.1 18 j ∧ τ36.2.1 18 j ≤ 90000 := fun j => hT.2 18 j
                have A19 : ∀ j, 0 ≤ τ36.2.1 19 j ∧ τ36.2.1 19 j ≤ 60 := fun j => hT.2 19 j
                have v0 : 0 ≤ τ36.1 0 ∧ τ36.1 0 ≤ 60000 := hT.1 0
                have v16 : 0 ≤ τ36.1 16 ∧ τ36.1 16 ≤ 60000 := hT.1 16
                have v17 : 0 ≤ τ36.1 17 ∧ τ36.1 17 ≤ 60000 := hT.1 17
                have v18 : 0 ≤ τ36.1 18 ∧ τ36.1 18 ≤ 60000 := hT.1 18
                have v19 : (-1) ≤ τ36.1 19 ∧ τ36.1 19 ≤ 125 := hT.1 19
                have v20 : 0 ≤ τ36.1 20 ∧ τ36.1 20 ≤ 19 := hT.1 20
                have v22 : 0 ≤ τ36.1 22 ∧ τ36.1 22 ≤ 1499 := hT.1 22
                have v25 : 0 ≤ τ36.1 25 ∧ τ36.1 25 ≤ 300 := hT.1 25
                have a0_17 : 0 ≤ τ36.2.1 0 (τ36.1 17) ∧ τ36.2.1 0 (τ36.1 17) ≤ 255 := hT.2 0 _
                have a18_22 : 0 ≤ τ36.2.1 18 (τ36.1 22) ∧ τ36.2.1 18 (τ36.1 22) ≤ 90000 := hT.2 18 _
                have a19_22 : 0 ≤ τ36.2.1 19 (τ36.1 22) ∧ τ36.2.1 19 (τ36.1 22) ≤ 60 := hT.2 19 _
                exact ih_9 _ (show (3 * ((τ36.1 0) - (τ36.1 16)) + z_0 ((τ36.1 20)) + 1 - z_0 ((τ36.1 19)) : Int) < ((m_9 : Nat) : Int) from by (have zz0 := z_e ((τ36.1 20)); have zz1 := z_e ((τ36.1 19)); (first | omega | (simp only [st_s] <;> omega) | assumption | omega))) hT (show τ36.1 0 = σ.1 0 from by omega) (show τ36.1 22 = σ.1 22 from by omega) G0 G6 G7 G18 G19 (show (τ36.1 16) ≤ (τ36.1 0) from by (first | omega | (simp only [st_s] <;> omega) | assumption | omega)) (show (τ36.1 17) + (τ36.1 18) ≤ (τ36.1 0) from by (first | omega | (simp only [st_s] <;> omega) | assumption | omega)) (show oc (τ36.2.1 6) < 4096 from by (first | omega | (simp only [st_s] <;> omega) | assumption | omega)) (show oc (τ36.2.1 7) < 4096 from by (first | omega | (simp only [st_s] <;> omega) | assumption | omega)) (show ¬ (σ.1 20) = 0 → (τ36.1 20) = (σ.1 20) from by (first | omega | (simp only [st_s] <;> omega) | assumption | omega)) (show (σ.1 16) ≤ (τ36.1 16) from by (first | omega | (simp only [st_s] <;> omega) | assumption | omega))
            ·
              refine ⟨_, K_X13_failHere hT (show 0 ≤ 5 from by (first | omega | (simp only [st_s] <;> omega) | assumption | omega)) (show 5 ≤ 19 from by (first | omega | (simp only [st_s] <;> omega) | assumption | omega)), ?_⟩
              intro τ39 hn_τ39 hf_τ39 hq
              obtain ⟨hT, q37_1, q37_2⟩ := hq
              replace q37_1 : ¬ (τ_90.1 20) = 0 → (τ39.1 20) = (τ_90.1 20) := q37_1
              replace q37_2 : (τ_90.1 20) = 0 → (τ39.1 20) = 5 := q37_2
              have w0_τ39 : τ39.1 0 = τ_90.1 0 := hf_τ39.1 0 (by decide)
              have w16_τ39 : τ39.1 16 = τ_90.1 16 := hf_τ39.1 16 (by decide)
              have w17_τ39 : τ39.1 17 = τ_90.1 17 := hf_τ39.1 17 (by decide)
              have w18_τ39 : τ39.1 18 = τ_90.1 18 := hf_τ39.1 18 (by decide)
              have w19_τ39 : τ39.1 19 = τ_90.1 19 := hf_τ39.1 19 (by decide)
              have w22_τ39 : τ39.1 22 = τ_90.1 22 := hf_τ39.1 22 (by decide)
              have w25_τ39 : τ39.1 25 = τ_90.1 25 := hf_τ39.1 25 (by decide)
              have g0_τ39 : τ39.2.1 0 = τ_90.2.1 0 := hf_τ39.2.1 0 (by decide)
              have g6_τ39 : τ39.2.1 6 = τ_90.2.1 6 := hf_τ39.2.1 6 (by decide)
              have g7_τ39 : τ39.2.1 7 = τ_90.2.1 7 := hf_τ39.2.1 7 (by decide)
              have g18_τ39 : τ39.2.1 18 = τ_90.2.1 18 := hf_τ39.2.1 18 (by decide)
              have g19_τ39 : τ39.2.1 19 = τ_90.2.1 19 := hf_τ39.2.1 19 (by decide)
              first | (have o6_τ39 := congrArg oc g6_τ39) | skip
              first | (have o7_τ39 := congrArg oc g7_τ39) | skip
              have W0 : τ39.1 0 = σ.1 0 := by omega
              have W22 : τ39.1 22 = σ.1 22 := by omega
              have G0 : τ39.2.1 0 = σ.2.1 0 := (g0_τ39).trans G0
              have G6 : τ39.2.1 6 = σ.2.1 6 := (g6_τ39).trans G6
              have G7 : τ39.2.1 7 = σ.2.1 7 := (g7_τ39).trans G7
              have G18 : τ39.2.1 18 = σ.2.1 18 := (g18_τ39).trans G18
              have G19 : τ39.2.1 19 = σ.2.1 19 := (g19_τ39).trans G19
              have y0_17_τ39 : τ39.2.1 0 (τ39.1 17) = (τ_90.2.1 0) (τ_90.1 17) := by rw [g0_τ39, w17_τ39]
              have y18_22_τ39 : τ39.2.1 18 (τ39.1 22) = (τ_90.2.1 18) (τ_90.1 22) := by rw [g18_τ39, w22_τ39]
              have y19_22_τ39 : τ39.2.1 19 (τ39.1 22) = (τ_90.2.1 19) (τ_90.1 22) := by rw [g19_τ39, w22_τ39]
              have A0 : ∀ j, 0 ≤ τ39.2.1 0 j ∧ τ39.2.1 0 j ≤ 255 := fun j => hT.2 0 j
              have A6 : ∀ j, (-1) ≤ τ39.2.1 6 j ∧ τ39.2.1 6 j ≤ 999 := fun j => hT.2 6 j
              have A7 : ∀ j, (-1) ≤ τ39.2.1 7 j ∧ τ39.2.1 7 j ≤ 1499 := fun j => hT.2 7 j
              have A18 : ∀ j, 0 ≤ τ39.2.1 18 j ∧ τ39.2.1 18 j ≤ 90000 := fun j => hT.2 18 j
              have A19 : ∀ j, 0 ≤ τ39.2.1 19 j ∧ τ39.2.1 19 j ≤ 60 := fun j => hT.2 19 j
              have v0 : 0 ≤ τ39.1 0 ∧ τ39.1 0 ≤ 60000 := hT.1 0
              have v16 : 0 ≤ τ39.1 16 ∧ τ39.1 16 ≤ 60000 := hT.1 16
              have v17 : 0 ≤ τ39.1 17 ∧ τ39.1 17 ≤ 60000 := hT.1 17
              have v18 : 0 ≤ τ39.1 18 ∧ τ39.1 18 ≤ 60000 := hT.1 18
              have v19 : (-1) ≤ τ39.1 19 ∧ τ39.1 19 ≤ 125 := hT.1 19
              have v20 : 0 ≤ τ39.1 20 ∧ τ39.1 20 ≤ 19 := hT.1 20
              have v22 : 0 ≤ τ39.1 22 ∧ τ39.1 22 ≤ 1499 := hT.1 22
              have v25 : 0 ≤ τ39.1 25 ∧ τ39.1 25 ≤ 300 := hT.1 25
              have a0_17 : 0 ≤ τ39.2.1 0 (τ39.1 17) ∧ τ39.2.1 0 (τ39.1 17) ≤ 255 := hT.2 0 _
              have a18_22 : 0 ≤ τ39.2.1 18 (τ39.1 22) ∧ τ39.2.1 18 (τ39.1 22) ≤ 90000 := hT.2 18 _
              have a19_22 : 0 ≤ τ39.2.1 19 (τ39.1 22) ∧ τ39.2.1 19 (τ39.1 22) ≤ 60 := hT.2 19 _
              exact ih_9 _ (show (3 * ((τ39.1 0) - (τ39.1 16)) + z_0 ((τ39.1 20)) + 1 - z_0 ((τ39.1 19)) : Int) < ((m_9 : Nat) : Int) from by (have zz0 := z_e ((τ39.1 20)); have zz1 := z_e ((τ39.1 19)); (first | omega | (simp only [st_s] <;> omega) | assumption | omega))) hT (show τ39.1 0 = σ.1 0 from by omega) (show τ39.1 22 = σ.1 22 from by omega) G0 G6 G7 G18 G19 (show (τ39.1 16) ≤ (τ39.1 0) from by (first | omega | (simp only [st_s] <;> omega) | assumption | omega)) (show (τ39.1 17) + (τ39.1 18) ≤ (τ39.1 0) from by (first | omega | (simp only [st_s] <;> omega) | assumption | omega)) (show oc (τ39.2.1 6) < 4096 from by (first | omega | (simp only [st_s] <;> omega) | assumption | omega)) (show oc (τ39.2.1 7) < 4096 from by (first | omega | (simp only [st_s] <;> omega) | assumption | omega)) (show ¬ (σ.1 20) = 0 → (τ39.1 20) = (σ.1 20) from by (first | omega | (simp only [st_s] <;> omega) | assumption | omega)) (show (σ.1 16) ≤ (τ39.1 16) from by (first | omega | (simp only [st_s] <;> omega) | assumption | omega))
          ·
            refine ⟨fun c40 => ?_, fun c40 => ?_⟩
            ·
              refine ⟨(⟨by (first | omega | (simp only [st_s] <;> omega) | assumption | omega), by (first | omega | (simp only [st_s] <;> omega) | assumption | omega)⟩ : rg (u3_90 + 1)), ?_⟩
              exact ih_90 _ _ _ _ (show (301 - (u3_90 + 1) : Int) < ((m_90 : Nat) : Int) from by ((first | omega | (simp only [st_s] <;> omega) | assumption | omega))) hT (show τ_90.1 0 = σ.1 0 from by omega) (show τ_90.1 22 = σ.1 22 from by omega) G0 G6 G7 G18 G19 (show (τ_90.1 16) ≤ (τ_90.1 0) from by (first | omega | (simp only [st_s] <;> omega) | assumption | omega)) (show (τ_90.1 17) + (τ_90.1 18) ≤ (τ_90.1 0) from by (first | omega | (simp only [st_s] <;> omega) | assumption | omega)) (show oc (τ_90.2.1 6) < 4096 from by (first | omega | (simp only [st_s] <;> omega) | assumption | omega)) (show oc (τ_90.2.1 7) < 4096 from by (first | omega | (simp only [st_s] <;> omega) | assumption | omega)) (show ¬ (σ.1 20) = 0 → (τ_90.1 20) = (σ.1 20) from by (first | omega | (simp only [st_s] <;> omega) | assumption | omega)) (show -1 ≤ u1_90 ∧ u1_90 ≤ 1499 from by (first | omega | (simp only [st_s] <;> omega) | assumption | omega)) (show 0 ≤ 1 ∧ 1 ≤ 1 from by (first | omega | (simp only [st_s] <;> omega) | assumption | omega)) (show 0 ≤ (u3_90 + 1) from by (first | omega | (simp only [st_s] <;> omega) | assumption | omega)) (show (u3_90 + 1) ≤ 300 from by (first | omega | (simp only [st_s] <;> omega) | assumption | omega)) (show (τ_90.1 20) = 0 from by (first | omega | (simp only [st_s] <;> omega) | assumption | omega)) (show (τ_90.1 19) = 1 from by (first | omega | (simp only [st_s] <;> omega) | assumption | omega)) (show 3 * ((τ_90.1 0) - (τ_90.1 16)) + z_0 ((τ_90.1 20)) + 1 - z_0 ((τ_90.1 19)) ≤ (m_9 : Int) from by (first | omega | (simp only [st_s] <;> omega) | assumption | omega)) (show (σ.1 16) ≤ (τ_90.1 16) from by (first | omega | (simp only [st_s] <;> omega) | assumption | omega))
            ·
              refine ⟨(show 0 ≤ u3_90 ∧ u3_90 < 300 from by (first | omega | (simp only [st_s] <;> omega) | assumption | omega)), ?_⟩
              intro x43 r_x43 e_x43
              have b_x43 : 0 ≤ x43 ∧ x43 ≤ 1499 := by rw [e_x43]; exact hT.2 39 _
              refine ⟨fun c44 => ?_, fun c44 => ?_⟩
              ·
                refine ⟨(⟨by (first | omega | (simp only [st_s] <;> omega) | assumption | omega), by (first | omega | (simp only [st_s] <;> omega) | assumption | omega)⟩ : rg (u3_90 + 1)), ?_⟩
                exact ih_90 _ _ _ _ (show (301 - (u3_90 + 1) : Int) < ((m_90 : Nat) : Int) from by ((first | omega | (simp only [st_s] <;> omega) | assumption | omega))) hT (show τ_90.1 0 = σ.1 0 from by omega) (show τ_90.1 22 = σ.1 22 from by omega) G0 G6 G7 G18 G19 (show (τ_90.1 16) ≤ (τ_90.1 0) from by (first | omega | (simp only [st_s] <;> omega) | assumption | omega)) (show (τ_90.1 17) + (τ_90.1 18) ≤ (τ_90.1 0) from by (first | omega | (simp only [st_s] <;> omega) | assumption | omega)) (show oc (τ_90.2.1 6) < 4096 from by (first | omega | (simp only [st_s] <;> omega) | assumption | omega)) (show oc (τ_90.2.1 7) < 4096 from by (first | omega | (simp only [st_s] <;> omega) | assumption | omega)) (show ¬ (σ.1 20) = 0 → (τ_90.1 20) = (σ.1 20) from by (first | omega | (simp only [st_s] <;> omega) | assumption | omega)) (show -1 ≤ u1_90 ∧ u1_90 ≤ 1499 from by (first | omega | (simp only [st_s] <;> omega) | assumption | omega)) (show 0 ≤ 0 ∧ 0 ≤ 1 from by (first | omega | (simp only [st_s] <;> omega) | assumption | omega)) (show 0 ≤ (u3_90 + 1) from by (first | omega | (simp only [st_s] <;> omega) | assumption | omega)) (show (u3_90 + 1) ≤ 300 from by (first | omega | (simp only [st_s] <;> omega) | assumption | omega)) (show (τ_90.1 20) = 0 from by (first | omega | (simp only [st_s] <;> omega) | assumption | omega)) (show (τ_90.1 19) = 1 from by (first | omega | (simp only [st_s] <;> omega) | assumption | omega)) (show 3 * ((τ_90.1 0) - (τ_90.1 16)) + z_0 ((τ_90.1 20)) + 1 - z_0 ((τ_90.1 19)) ≤ (m_9 : Int) from by (first | omega | (simp only [st_s] <;> omega) | assumption | omega)) (show (σ.1 16) ≤ (τ_90.1 16) from by (first | omega | (simp only [st_s] <;> omega) | assumption | omega))
              ·
                refine ⟨(⟨by (first | omega | (simp only [st_s] <;> omega) | assumption | omega), by (first | omega | (simp only [st_s] <;> omega) | assumption | omega)⟩ : rg (u3_90 + 1)), ?_⟩
                exact ih_90 _ _ _ _ (show (301 - (u3_90 + 1) : Int) < ((m_90 : Nat) : Int) from by ((first | omega | (simp only [st_s] <;> omega) | assumption | omega))) hT (show τ_90.1 0 = σ.1 0 from by omega) (show τ_90.1 22 = σ.1 22 from by omega) G0 G6 G7 G18 G19 (show (τ_90.1 16) ≤ (τ_90.1 0) from by (first | omega | (simp only [st_s] <;> omega) | assumption | omega)) (show (τ_90.1 17) + (τ_90.1 18) ≤ (τ_90.1 0) from by (first | omega | (simp only [st_s] <;> omega) | assumption | omega)) (show oc (τ_90.2.1 6) < 4096 from by (first | omega | (simp only [st_s] <;> omega) | assumption | omega)) (show oc (τ_90.2.1 7) < 4096 from by (first | omega | (simp only [st_s] <;> omega) | assumption | omega)) (show ¬ (σ.1 20) = 0 → (τ_90.1 20) = (σ.1 20) from by (first | omega | (simp only [st_s] <;> omega) | assumption | omega)) (show -1 ≤ u1_90 ∧ u1_90 ≤ 1499 from by (first | omega | (simp only [st_s] <;> omega) | assumption | omega)) (show 0 ≤ 1 ∧ 1 ≤ 1 from by (first | omega | (simp only [st_s] <;> omega) | assumption | omega)) (show 0 ≤ (u3_90 + 1) from by (first | omega | (simp only [st_s] <;> omega) | assumption | omega)) (show (u3_90 + 1) ≤ 300 from by (first | omega | (simp only [st_s] <;> omega) | assumption | omega)) (show (τ_90.1 20) = 0 from by (first | omega | (simp only [st_s] <;> omega) | assumption | omega)) (show (τ_90.1 19) = 1 from by (first | omega | (simp only [st_s] <;> omega) | assumption | omega)) (show 3 * ((τ_90.1 0) - (τ_90.1 16)) + z_0 ((τ_90.1 20)) + 1 - z_0 ((τ_90.1 19)) ≤ (m_9 : Int) from by (first | omega | (simp only [st_s] <;> omega) | assumption | omega)) (show (σ.1 16) ≤ (τ_90.1 16) from by (first | omega | (simp only [st_s] <;> omega) | assumption | omega))
      refine h9 τ_9 ?_
      refine ⟨fun c4 => ?_, fun c4 => ?_⟩
      ·
        exact ⟨hT, (show (τ_9.1 16) ≤ (τ_9.1 0) from by (first | omega | (simp only [st_s] <;> omega) | assumption | omega)), (show (τ_9.1 17) + (τ_9.1 18) ≤ (τ_9.1 0) from by (first | omega | (simp only [st_s] <;> omega) | assumption | omega)), (show ¬ (σ.1 20) = 0 → (τ_9.1 20) = (σ.1 20) from by (first | omega | (simp only [st_s] <;> omega) | assumption | omega)), (show oc (τ_9.2.1 6) < 4096 from by (first | omega | (simp only [st_s] <;> omega) | assumption | omega)), (show oc (τ_9.2.1 7) < 4096 from by (first | omega | (simp only [st_s] <;> omega) | assumption | omega)), (show (σ.1 16) ≤ (τ_9.1 16) from by (first | omega | (simp only [st_s] <;> omega) | assumption | omega))⟩
      ·
        refine ⟨fun c5 => ?_, fun c5 => ?_⟩
        ·
          refine h46 _ ?_
          refine ⟨fun c10 => ?_, fun c10 => ?_⟩
          ·
            refine ⟨_, K_X13_stepHere hT (show (τ_9.1 17) + (τ_9.1 18) ≤ (τ_9.1 0) from by (first | omega | (simp only [st_s] <;> omega) | assumption | omega)) (show oc (τ_9.2.1 7) < 4096 from by (first | omega | (simp only [st_s] <;> omega) | assumption | omega)), ?_⟩
            intro x12 r_x12 hq
            obtain ⟨q11_1, q11_2⟩ := hq
            replace q11_1 : -1 ≤ x12 ∧ x12 < (τ_9.1 22) ∨ x12 = -1 := q11_1
            replace q11_2 : -1 ≤ x12 ∧ x12 ≤ 1499 := q11_2
            refine ⟨fun c14 => ?_, fun c14 => ?_⟩
            ·
              exact l_90 ((301 - 0 : Int).toNat + 1) _ _ _ _ (show (301 - 0 : Int) < (((301 - 0 : Int).toNat + 1 : Nat) : Int) from by ((first | omega | (simp only [st_s] <;> omega) | assumption | omega))) hT (show τ_9.1 0 = σ.1 0 from by omega) (show τ_9.1 22 = σ.1 22 from by omega) G0 G6 G7 G18 G19 (show (τ_9.1 16) ≤ (τ_9.1 0) from by (first | omega | (simp only [st_s] <;> omega) | assumption | omega)) (show (τ_9.1 17) + (τ_9.1 18) ≤ (τ_9.1 0) from by (first | omega | (simp only [st_s] <;> omega) | assumption | omega)) (show oc (τ_9.2.1 6) < 4096 from by (first | omega | (simp only [st_s] <;> omega) | assumption | omega)) (show oc (τ_9.2.1 7) < 4096 from by (first | omega | (simp only [st_s] <;> omega) | assumption | omega)) (show ¬ (σ.1 20) = 0 → (τ_9.1 20) = (σ.1 20) from by (first | omega | (simp only [st_s] <;> omega) | assumption | omega)) (show -1 ≤ x12 ∧ x12 ≤ 1499 from by (first | omega | (simp only [st_s] <;> omega) | assumption | omega)) (show 0 ≤ 0 ∧ 0 ≤ 1 from by (first | omega | (simp only [st_s] <;> omega) | assumption | omega)) (show 0 ≤ 0 from by (first | omega | (simp only [st_s] <;> omega) | assumption | omega)) (show 0 ≤ 300 from by (first | omega | (simp only [st_s] <;> omega) | assumption | omega)) (show (τ_9.1 20) = 0 from by (first | omega | (simp only [st_s] <;> omega) | assumption | omega)) (show (τ_9.1 19) = 1 from by (first | omega | (simp only [st_s] <;> omega) | assumption | omega)) (show 3 * ((τ_9.1 0) - (τ_9.1 16)) + z_0 ((τ_9.1 20)) + 1 - z_0 ((τ_9.1 19)) ≤ (m_9 : Int) from by (first | omega | (simp only [st_s] <;> omega) | assumption | omega)) (show (σ.1 16) ≤ (τ_9.1 16) from by (first | omega | (simp only [st_s] <;> omega) | assumption | omega))
            ·
              refine ⟨_, K_X13_isMandatory hT (show 0 ≤ (τ_9.1 22) from by (first | omega | (simp only [st_s] <;> omega) | assumption | omega)) (show (τ_9.1 22) < 1500 from by (first | omega | (simp only [st_s] <;> omega) | assumption | omega)) (show τ_9.2.1 18 (τ_9.1 22) + τ_9.2.1 19 (τ_9.1 22) ≤ 90100 from by (first | omega | (simp only [st_s] <;> omega) | assumption | omega)), ?_⟩
              intro x16 r_x16 hq
              have q15_1 := hq
              replace q15_1 : 0 ≤ x16 ∧ x16 ≤ 1 := q15_1
              refine ⟨fun c18 => ?_, fun c18 => ?_⟩
              ·
                exact l_90 ((301 - 0 : Int).toNat + 1) _ _ _ _ (show (301 - 0 : Int) < (((301 - 0 : Int).toNat + 1 : Nat) : Int) from by ((first | omega | (simp only [st_s] <;> omega) | assumption | omega))) hT (show τ_9.1 0 = σ.1 0 from by omega) (show τ_9.1 22 = σ.1 22 from by omega) G0 G6 G7 G18 G19 (show (τ_9.1 16) ≤ (τ_9.1 0) from by (first | omega | (simp only [st_s] <;> omega) | assumption | omega)) (show (τ_9.1 17) + (τ_9.1 18) ≤ (τ_9.1 0) from by (first | omega | (simp only [st_s] <;> omega) | assumption | omega)) (show oc (τ_9.2.1 6) < 4096 from by (first | omega | (simp only [st_s] <;> omega) | assumption | omega)) (show oc (τ_9.2.1 7) < 4096 from by (first | omega | (simp only [st_s] <;> omega) | assumption | omega)) (show ¬ (σ.1 20) = 0 → (τ_9.1 20) = (σ.1 20) from by (first | omega | (simp only [st_s] <;> omega) | assumption | omega)) (show -1 ≤ x12 ∧ x12 ≤ 1499 from by (first | omega | (simp only [st_s] <;> omega) | assumption | omega)) (show 0 ≤ 0 ∧ 0 ≤ 1 from by (first | omega | (simp only [st_s] <;> omega) | assumption | omega)) (show 0 ≤ 0 from by (first | omega | (simp only [st_s] <;> omega) | assumption | omega)) (show 0 ≤ 300 from by (first | omega | (simp only [st_s] <;> omega) | assumption | omega)) (show (τ_9.1 20) = 0 from by (first | omega | (simp only [st_s] <;> omega) | assumption | omega)) (show (τ_9.1 19) = 1 from by (first | omega | (simp only [st_s] <;> omega) | assumption | omega)) (show 3 * ((τ_9.1 0) - (τ_9.1 16)) + z_0 ((τ_9.1 20)) + 1 - z_0 ((τ_9.1 19)) ≤ (m_9 : Int) from by (first | omega | (simp only [st_s] <;> omega) | assumption | omega)) (show (σ.1 16) ≤ (τ_9.1 16) from by (first | omega | (simp only [st_s] <;> omega) | assumption | omega))
              ·
                exact l_90 ((301 - 0 : Int).toNat + 1) _ _ _ _ (show (301 - 0 : Int) < (((301 - 0 : Int).toNat + 1 : Nat) : Int) from by ((first | omega | (simp only [st_s] <;> omega) | assumption | omega))) hT (show τ_9.1 0 = σ.1 0 from by omega) (show τ_9.1 22 = σ.1 22 from by omega) G0 G6 G7 G18 G19 (show (τ_9.1 16) ≤ (τ_9.1 0) from by (first | omega | (simp only [st_s] <;> omega) | assumption | omega)) (show (τ_9.1 17) + (τ_9.1 18) ≤ (τ_9.1 0) from by (first | omega | (simp only [st_s] <;> omega) | assumption | omega)) (show oc (τ_9.2.1 6) < 4096 from by (first | omega | (simp only [st_s] <;> omega) | assumption | omega)) (show oc (τ_9.2.1 7) < 4096 from by (first | omega | (simp only [st_s] <;> omega) | assumption | omega)) (show ¬ (σ.1 20) = 0 → (τ_9.1 20) = (σ.1 20) from by (first | omega | (simp only [st_s] <;> omega) | assumption | omega)) (show -1 ≤ x12 ∧ x12 ≤ 1499 from by (first | omega | (simp only [st_s] <;> omega) | assumption | omega)) (show 0 ≤ 1 ∧ 1 ≤ 1 from by (first | omega | (simp only [st_s] <;> omega) | assumption | omega)) (show 0 ≤ 0 from by (first | omega | (simp only [st_s] <;> omega) | assumption | omega)) (show 0 ≤ 300 from by (first | omega | (simp only [st_s] <;> omega) | assumption | omega)) (show (τ_9.1 20) = 0 from by (first | omega | (simp only [st_s] <;> omega) | assumption | omega)) (show (τ_9.1 19) = 1 from by (first | omega | (simp only [st_s] <;> omega) | assumption | omega)) (show 3 * ((τ_9.1 0) - (τ_9.1 16)) + z_0 ((τ_9.1 20)) + 1 - z_0 ((τ_9.1 19)) ≤ (m_9 : Int) from by (first | omega | (simp only [st_s] <;> omega) | assumption | omega)) (show (σ.1 16) ≤ (τ_9.1 16) from by (first | omega | (simp only [st_s] <;> omega) | assumption | omega))
          ·
            refine ⟨_, K_X13_failHere hT (show 0 ≤ 4 from by (first | omega | (simp only [st_s] <;> omega) | assumption | omega)) (show 4 ≤ 19 from by (first | omega | (simp only [st_s] <;> omega) | assumption | omega)), ?_⟩
            intro τ21 hn_τ21 hf_τ21 hq
            obtain ⟨hT, q19_1, q19_2⟩ := hq
            replace q19_1 : ¬ (τ_9.1 20) = 0 → (τ21.1 20) = (τ_9.1 20) := q19_1
            replace q19_2 : (τ_9.1 20) = 0 → (τ21.1 20) = 4 := q19_2
            have w0_τ21 : τ21.1 0 = τ_9.1 0 := hf_τ21.1 0 (by decide)
            have w16_τ21 : τ21.1 16 = τ_9.1 16 := hf_τ21.1 16 (by decide)
            have w17_τ21 : τ21.1 17 = τ_9.1 17 := hf_τ21.1 17 (by decide)
            have w18_τ21 : τ21.1 18 = τ_9.1 18 := hf_τ21.1 18 (by decide)
            have w19_τ21 : τ21.1 19 = τ_9.1 19 := hf_τ21.1 19 (by decide)
            have w22_τ21 : τ21.1 22 = τ_9.1 22 := hf_τ21.1 22 (by decide)
            have w25_τ21 : τ21.1 25 = τ_9.1 25 := hf_τ21.1 25 (by decide)
            have g0_τ21 : τ21.2.1 0 = τ_9.2.1 0 := hf_τ21.2.1 0 (by decide)
            have g6_τ21 : τ21.2.1 6 = τ_9.2.1 6 := hf_τ21.2.1 6 (by decide)
            have g7_τ21 : τ21.2.1 7 = τ_9.2.1 7 := hf_τ21.2.1 7 (by decide)
            have g18_τ21 : τ21.2.1 18 = τ_9.2.1 18 := hf_τ21.2.1 18 (by decide)
            have g19_τ21 : τ21.2.1 19 = τ_9.2.1 19 := hf_τ21.2.1 19 (by decide)
            first | (have o6_τ21 := congrArg oc g6_τ21) | skip
            first | (have o7_τ21 := congrArg oc g7_τ21) | skip
            have W0 : τ21.1 0 = σ.1 0 := by omega
            have W22 : τ21.1 22 = σ.1 22 := by omega
            have G0 : τ21.2.1 0 = σ.2.1 0 := (g0_τ21).trans G0
            have G6 : τ21.2.1 6 = σ.2.1 6 := (g6_τ21).trans G6
            have G7 : τ21.2.1 7 = σ.2.1 7 := (g7_τ21).trans G7
            have G18 : τ21.2.1 18 = σ.2.1 18 := (g18_τ21).trans G18
            have G19 : τ21.2.1 19 = σ.2.1 19 := (g19_τ21).trans G19
            have y0_17_τ21 : τ21.2.1 0 (τ21.1 17) = (τ_9.2.1 0) (τ_9.1 17) := by rw [g0_τ21, w17_τ21]
            have y18_22_τ21 : τ21.2.1 18 (τ21.1 22) = (τ_9.2.1 18) (τ_9.1 22) := by rw [g18_τ21, w22_τ21]
            have y19_22_τ21 : τ21.2.1 19 (τ21.1 22) = (τ_9.2.1 19) (τ_9.1 22) := by rw [g19_τ21, w22_τ21]
            have A0 : ∀ j, 0 ≤ τ21.2.1 0 j ∧ τ21.2.1 0 j ≤ 255 := fun j => hT.2 0 j
            have A6 : ∀ j, (-1) ≤ τ21.2.1 6 j ∧ τ21.2.1 6 j ≤ 999 := fun j => hT.2 6 j
            have A7 : ∀ j, (-1) ≤ τ21.2.1 7 j ∧ τ21.2.1 7 j ≤ 1499 := fun j => hT.2 7 j
            have A18 : ∀ j, 0 ≤ τ21.2.1 18 j ∧ τ21.2.1 18 j ≤ 90000 := fun j => hT.2 18 j
            have A19 : ∀ j, 0 ≤ τ21.2.1 19 j ∧ τ21.2.1 19 j ≤ 60 := fun j => hT.2 19 j
            have v0 : 0 ≤ τ21.1 0 ∧ τ21.1 0 ≤ 60000 := hT.1 0
            have v16 : 0 ≤ τ21.1 16 ∧ τ21.1 16 ≤ 60000 := hT.1 16
            have v17 : 0 ≤ τ21.1 17 ∧ τ21.1 17 ≤ 60000 := hT.1 17
            have v18 : 0 ≤ τ21.1 18 ∧ τ21.1 18 ≤ 60000 := hT.1 18
            have v19 : (-1) ≤ τ21.1 19 ∧ τ21.1 19 ≤ 125 := hT.1 19
            have v20 : 0 ≤ τ21.1 20 ∧ τ21.1 20 ≤ 19 := hT.1 20
            have v22 : 0 ≤ τ21.1 22 ∧ τ21.1 22 ≤ 1499 := hT.1 22
            have v25 : 0 ≤ τ21.1 25 ∧ τ21.1 25 ≤ 300 := hT.1 25
            have a0_17 : 0 ≤ τ21.2.1 0 (τ21.1 17) ∧ τ21.2.1 0 (τ21.1 17) ≤ 255 := hT.2 0 _
            have a18_22 : 0 ≤ τ21.2.1 18 (τ21.1 22) ∧ τ21.2.1 18 (τ21.1 22) ≤ 90000 := hT.2 18 _
            have a19_22 : 0 ≤ τ21.2.1 19 (τ21.1 22) ∧ τ21.2.1 19 (τ21.1 22) ≤ 60 := hT.2 19 _
            exact ⟨hT, (show (τ21.1 16) ≤ (τ21.1 0) from by (first | omega | (simp only [st_s] <;> omega) | assumption | omega)), (show (τ21.1 17) + (τ21.1 18) ≤ (τ21.1 0) from by (first | omega | (simp only [st_s] <;> omega) | assumption | omega)), (show ¬ (σ.1 20) = 0 → (τ21.1 20) = (σ.1 20) from by (first | omega | (simp only [st_s] <;> omega) | assumption | omega)), (show oc (τ21.2.1 6) < 4096 from by (first | omega | (simp only [st_s] <;> omega) | assumption | omega)), (show oc (τ21.2.1 7) < 4096 from by (first | omega | (simp only [st_s] <;> omega) | assumption | omega)), (show (σ.1 16) ≤ (τ21.1 16) from by (first | omega | (simp only [st_s] <;> omega) | assumption | omega))⟩
        ·
          refine ⟨fun c6 => ?_, fun c6 => ?_⟩
          ·
            refine h46 _ ?_
            refine ⟨fun c10 => ?_, fun c10 => ?_⟩
            ·
              refine ⟨_, K_X13_stepHere hT (show (τ_9.1 17) + (τ_9.1 18) ≤ (τ_9.1 0) from by (first | omega | (simp only [st_s] <;> omega) | assumption | omega)) (show oc (τ_9.2.1 7) < 4096 from by (first | omega | (simp only [st_s] <;> omega) | assumption | omega)), ?_⟩
              intro x12 r_x12 hq
              obtain ⟨q11_1, q11_2⟩ := hq
              replace q11_1 : -1 ≤ x12 ∧ x12 < (τ_9.1 22) ∨ x12 = -1 := q11_1
              replace q11_2 : -1 ≤ x12 ∧ x12 ≤ 1499 := q11_2
              refine ⟨fun c14 => ?_, fun c14 => ?_⟩
              ·
                exact l_90 ((301 - 0 : Int).toNat + 1) _ _ _ _ (show (301 - 0 : Int) < (((301 - 0 : Int).toNat + 1 : Nat) : Int) from by ((first | omega | (simp only [st_s] <;> omega) | assumption | omega))) hT (show τ_9.1 0 = σ.1 0 from by omega) (show τ_9.1 22 = σ.1 22 from by omega) G0 G6 G7 G18 G19 (show (τ_9.1 16) ≤ (τ_9.1 0) from by (first | omega | (simp only [st_s] <;> omega) | assumption | omega)) (show (τ_9.1 17) + (τ_9.1 18) ≤ (τ_9.1 0) from by (first | omega | (simp only [st_s] <;> omega) | assumption | omega)) (show oc (τ_9.2.1 6) < 4096 from by (first | omega | (simp only [st_s] <;> omega) | assumption | omega)) (show oc (τ_9.2.1 7) < 4096 from by (first | omega | (simp only [st_s] <;> omega) | assumption | omega)) (show ¬ (σ.1 20) = 0 → (τ_9.1 20) = (σ.1 20) from by (first | omega | (simp only [st_s] <;> omega) | assumption | omega)) (show -1 ≤ x12 ∧ x12 ≤ 1499 from by (first | omega | (simp only [st_s] <;> omega) | assumption | omega)) (show 0 ≤ 0 ∧ 0 ≤ 1 from by (first | omega | (simp only [st_s] <;> omega) | assumption | omega)) (show 0 ≤ 0 from by (first | omega | (simp only [st_s] <;> omega) | assumption | omega)) (show 0 ≤ 300 from by (first | omega | (simp only [st_s] <;> omega) | assumption | omega)) (show (τ_9.1 20) = 0 from by (first | omega | (simp only [st_s] <;> omega) | assumption | omega)) (show (τ_9.1 19) = 1 from by (first | omega | (simp only [st_s] <;> omega) | assumption | omega)) (show 3 * ((τ_9.1 0) - (τ_9.1 16)) + z_0 ((τ_9.1 20)) + 1 - z_0 ((τ_9.1 19)) ≤ (m_9 : Int) from by (first | omega | (simp only [st_s] <;> omega) | assumption | omega)) (show (σ.1 16) ≤ (τ_9.1 16) from by (first | omega | (simp only [st_s] <;> omega) | assumption | omega))
              ·
                refine ⟨_, K_X13_isMandatory hT (show 0 ≤ (τ_9.1 22) from by (first | omega | (simp only [st_s] <;> omega) | assumption | omega)) (show (τ_9.1 22) < 1500 from by (first | omega | (simp only [st_s] <;> omega) | assumption | omega)) (show τ_9.2.1 18 (τ_9.1 22) + τ_9.2.1 19 (τ_9.1 22) ≤ 90100 from by (first | omega | (simp only [st_s] <;> omega) | assumption | omega)), ?_⟩
                intro x16 r_x16 hq
                have q15_1 := hq
                replace q15_1 : 0 ≤ x16 ∧ x16 ≤ 1 := q15_1
                refine ⟨fun c18 => ?_, fun c18 => ?_⟩
                ·
                  exact l_90 ((301 - 0 : Int).toNat + 1) _ _ _ _ (show (301 - 0 : Int) < (((301 - 0 : Int).toNat + 1 : Nat) : Int) from by ((first | omega | (simp only [st_s] <;> omega) | assumption | omega))) hT (show τ_9.1 0 = σ.1 0 from by omega) (show τ_9.1 22 = σ.1 22 from by omega) G0 G6 G7 G18 G19 (show (τ_9.1 16) ≤ (τ_9.1 0) from by (first | omega | (simp only [st_s] <;> omega) | assumption | omega)) (show (τ_9.1 17) + (τ_9.1 18) ≤ (τ_9.1 0) from by (first | omega | (simp only [st_s] <;> omega) | assumption | omega)) (show oc (τ_9.2.1 6) < 4096 from by (first | omega | (simp only [st_s] <;> omega) | assumption | omega)) (show oc (τ_9.2.1 7) < 4096 from by (first | omega | (simp only [st_s] <;> omega) | assumption | omega)) (show ¬ (σ.1 20) = 0 → (τ_9.1 20) = (σ.1 20) from by (first | omega | (simp only [st_s] <;> omega) | assumption | omega)) (show -1 ≤ x12 ∧ x12 ≤ 1499 from by (first | omega | (simp only [st_s] <;> omega) | assumption | omega)) (show 0 ≤ 0 ∧ 0 ≤ 1 from by (first | omega | (simp only [st_s] <;> omega) | assumption | omega)) (show 0 ≤ 0 from by (first | omega | (simp only [st_s] <;> omega) | assumption | omega)) (show 0 ≤ 300 from by (first | omega | (simp only [st_s] <;> omega) | assumption | omega)) (show (τ_9.1 20) = 0 from by (first | omega | (simp only [st_s] <;> omega) | assumption | omega)) (show (τ_9.1 19) = 1 from by (first | omega | (simp only [st_s] <;> omega) | assumption | omega)) (show 3 * ((τ_9.1 0) - (τ_9.1 16)) + z_0 ((τ_9.1 20)) + 1 - z_0 ((τ_9.1 19)) ≤ (m_9 : Int) from by (first | omega | (simp only [st_s] <;> omega) | assumption | omega)) (show (σ.1 16) ≤ (τ_9.1 16) from by (first | omega | (simp only [st_s] <;> omega) | assumption | omega))
                ·
                  exact l_90 ((301 - 0 : Int).toNat + 1) _ _ _ _ (show (301 - 0 : Int) < (((301 - 0 : Int).toNat + 1 : Nat) : Int) from by ((first | omega | (simp only [st_s] <;> omega) | assumption | omega))) hT (show τ_9.1 0 = σ.1 0 from by omega) (show τ_9.1 22 = σ.1 22 from by omega) G0 G6 G7 G18 G19 (show (τ_9.1 16) ≤ (τ_9.1 0) from by (first | omega | (simp only [st_s] <;> omega) | assumption | omega)) (show (τ_9.1 17) + (τ_9.1 18) ≤ (τ_9.1 0) from by (first | omega | (simp only [st_s] <;> omega) | assumption | omega)) (show oc (τ_9.2.1 6) < 4096 from by (first | omega | (simp only [st_s] <;> omega) | assumption | omega)) (show oc (τ_9.2.1 7) < 4096 from by (first | omega | (simp only [st_s] <;> omega) | assumption | omega)) (show ¬ (σ.1 20) = 0 → (τ_9.1 20) = (σ.1 20) from by (first | omega | (simp only [st_s] <;> omega) | assumption | omega)) (show -1 ≤ x12 ∧ x12 ≤ 1499 from by (first | omega | (simp only [st_s] <;> omega) | assumption | omega)) (show 0 ≤ 1 ∧ 1 ≤ 1 from by (first | omega | (simp only [st_s] <;> omega) | assumption | omega)) (show 0 ≤ 0 from by (first | omega | (simp only [st_s] <;> omega) | assumption | omega)) (show 0 ≤ 300 from by (first | omega | (simp only [st_s] <;> omega) | assumption | omega)) (show (τ_9.1 20) = 0 from by (first | omega | (simp only [st_s] <;> omega) | assumption | omega)) (show (τ_9.1 19) = 1 from by (first | omega | (simp only [st_s] <;> omega) | assumption | omega)) (show 3 * ((τ_9.1 0) - (τ_9.1 16)) + z_0 ((τ_9.1 20)) + 1 - z_0 ((τ_9.1 19)) ≤ (m_9 : Int) from by (first | omega | (simp only [st_s] <;> omega) | assumption | omega)) (show (σ.1 16) ≤ (τ_9.1 16) from by (first | omega | (simp only [st_s] <;> omega) | assumption | omega))
            ·
              refine ⟨_, K_X13_failHere hT (show 0 ≤ 4 from by (first | omega | (simp only [st_s] <;> omega) | assumption | omega)) (show 4 ≤ 19 from by (first | omega | (simp only [st_s] <;> omega) | assumption | omega)), ?_⟩
              intro τ21 hn_τ21 hf_τ21 hq
              obtain ⟨hT, q19_1, q19_2⟩ := hq
              replace q19_1 : ¬ (τ_9.1 20) = 0 → (τ21.1 20) = (τ_9.1 20) := q19_1
              replace q19_2 : (τ_9.1 20) = 0 → (τ21.1 20) = 4 := q19_2
              have w0_τ21 : τ21.1 0 = τ_9.1 0 := hf_τ21.1 0 (by decide)
              have w16_τ21 : τ21.1 16 = τ_9.1 16 := hf_τ21.1 16 (by decide)
              have w17_τ21 : τ21.1 17 = τ_9.1 17 := hf_τ21.1 17 (by decide)
              have w18_τ21 : τ21.1 18 = τ_9.1 18 := hf_τ21.1 18 (by decide)
              have w19_τ21 : τ21.1 19 = τ_9.1 19 := hf_τ21.1 19 (by decide)
              have w22_τ21 : τ21.1 22 = τ_9.1 22 := hf_τ21.1 22 (by decide)
              have w25_τ21 : τ21.1 25 = τ_9.1 25 := hf_τ21.1 25 (by decide)
              have g0_τ21 : τ21.2.1 0 = τ_9.2.1 0 := hf_τ21.2.1 0 (by decide)
              have g6_τ21 : τ21.2.1 6 = τ_9.2.1 6 := hf_τ21.2.1 6 (by decide)
              have g7_τ21 : τ21.2.1 7 = τ_9.2.1 7 := hf_τ21.2.1 7 (by decide)
              have g18_τ21 : τ21.2.1 18 = τ_9.2.1 18 := hf_τ21.2.1 18 (by decide)
              have g19_τ21 : τ21.2.1 19 = τ_9.2.1 19 := hf_τ21.2.1 19 (by decide)
              first | (have o6_τ21 := congrArg oc g6_τ21) | skip
              first | (have o7_τ21 := congrArg oc g7_τ21) | skip
              have W0 : τ21.1 0 = σ.1 0 := by omega
              have W22 : τ21.1 22 = σ.1 22 := by omega
              have G0 : τ21.2.1 0 = σ.2.1 0 := (g0_τ21).trans G0
              have G6 : τ21.2.1 6 = σ.2.1 6 := (g6_τ21).trans G6
              have G7 : τ21.2.1 7 = σ.2.1 7 := (g7_τ21).trans G7
              have G18 : τ21.2.1 18 = σ.2.1 18 := (g18_τ21).trans G18
              have G19 : τ21.2.1 19 = σ.2.1 19 := (g19_τ21).trans G19
              have y0_17_τ21 : τ21.2.1 0 (τ21.1 17) = (τ_9.2.1 0) (τ_9.1 17) := by rw [g0_τ21, w17_τ21]
              have y18_22_τ21 : τ21.2.1 18 (τ21.1 22) = (τ_9.2.1 18) (τ_9.1 22) := by rw [g18_τ21, w22_τ21]
              have y19_22_τ21 : τ21.2.1 19 (τ21.1 22) = (τ_9.2.1 19) (τ_9.1 22) := by rw [g19_τ21, w22_τ21]
              have A0 : ∀ j, 0 ≤ τ21.2.1 0 j ∧ τ21.2.1 0 j ≤ 255 := fun j => hT.2 0 j
              have A6 : ∀ j, (-1) ≤ τ21.2.1 6 j ∧ τ21.2.1 6 j ≤ 999 := fun j => hT.2 6 j
              have A7 : ∀ j, (-1) ≤ τ21.2.1 7 j ∧ τ21.2.1 7 j ≤ 1499 := fun j => hT.2 7 j
              have A18 : ∀ j, 0 ≤ τ21.2.1 18 j ∧ τ21.2.1 18 j ≤ 90000 := fun j => hT.2 18 j
              have A19 : ∀ j, 0 ≤ τ21.2.1 19 j ∧ τ21.2.1 19 j ≤ 60 := fun j => hT.2 19 j
              have v0 : 0 ≤ τ21.1 0 ∧ τ21.1 0 ≤ 60000 := hT.1 0
              have v16 : 0 ≤ τ21.1 16 ∧ τ21.1 16 ≤ 60000 := hT.1 16
              have v17 : 0 ≤ τ21.1 17 ∧ τ21.1 17 ≤ 60000 := hT.1 17
              have v18 : 0 ≤ τ21.1 18 ∧ τ21.1 18 ≤ 60000 := hT.1 18
              have v19 : (-1) ≤ τ21.1 19 ∧ τ21.1 19 ≤ 125 := hT.1 19
              have v20 : 0 ≤ τ21.1 20 ∧ τ21.1 20 ≤ 19 := hT.1 20
              have v22 : 0 ≤ τ21.1 22 ∧ τ21.1 22 ≤ 1499 := hT.1 22
              have v25 : 0 ≤ τ21.1 25 ∧ τ21.1 25 ≤ 300 := hT.1 25
              have a0_17 : 0 ≤ τ21.2.1 0 (τ21.1 17) ∧ τ21.2.1 0 (τ21.1 17) ≤ 255 := hT.2 0 _
              have a18_22 : 0 ≤ τ21.2.1 18 (τ21.1 22) ∧ τ21.2.1 18 (τ21.1 22) ≤ 90000 := hT.2 18 _
              have a19_22 : 0 ≤ τ21.2.1 19 (τ21.1 22) ∧ τ21.2.1 19 (τ21.1 22) ≤ 60 := hT.2 19 _
              exact ⟨hT, (show (τ21.1 16) ≤ (τ21.1 0) from by (first | omega | (simp only [st_s] <;> omega) | assumption | omega)), (show (τ21.1 17) + (τ21.1 18) ≤ (τ21.1 0) from by (first | omega | (simp only [st_s] <;> omega) | assumption | omega)), (show ¬ (σ.1 20) = 0 → (τ21.1 20) = (σ.1 20) from by (first | omega | (simp only [st_s] <;> omega) | assumption | omega)), (show oc (τ21.2.1 6) < 4096 from by (first | omega | (simp only [st_s] <;> omega) | assumption | omega)), (show oc (τ21.2.1 7) < 4096 from by (first | omega | (simp only [st_s] <;> omega) | assumption | omega)), (show (σ.1 16) ≤ (τ21.1 16) from by (first | omega | (simp only [st_s] <;> omega) | assumption | omega))⟩
          ·
            refine ⟨(show 0 ≤ τ_9.1 17 ∧ τ_9.1 17 < 60000 from by (first | omega | (simp only [st_s] <;> omega) | assumption | omega)), ?_⟩
            intro x8 r_x8 e_x8
            have b_x8 : 0 ≤ x8 ∧ x8 ≤ 255 := by rw [e_x8]; exact hT.2 0 _
            refine ⟨fun c9 => ?_, fun c9 => ?_⟩
            ·
              exact ⟨hT, (show (τ_9.1 16) ≤ (τ_9.1 0) from by (first | omega | (simp only [st_s] <;> omega) | assumption | omega)), (show (τ_9.1 17) + (τ_9.1 18) ≤ (τ_9.1 0) from by (first | omega | (simp only [st_s] <;> omega) | assumption | omega)), (show ¬ (σ.1 20) = 0 → (τ_9.1 20) = (σ.1 20) from by (first | omega | (simp only [st_s] <;> omega) | assumption | omega)), (show oc (τ_9.2.1 6) < 4096 from by (first | omega | (simp only [st_s] <;> omega) | assumption | omega)), (show oc (τ_9.2.1 7) < 4096 from by (first | omega | (simp only [st_s] <;> omega) | assumption | omega)), (show (σ.1 16) ≤ (τ_9.1 16) from by (first | omega | (simp only [st_s] <;> omega) | assumption | omega))⟩
            ·
              refine h46 _ ?_
              refine ⟨fun c10 => ?_, fun c10 => ?_⟩
              ·
                refine ⟨_, K_X13_stepHere hT (show (τ_9.1 17) + (τ_9.1 18) ≤ (τ_9.1 0) from by (first | omega | (simp only [st_s] <;> omega) | assumption | omega)) (show oc (τ_9.2.1 7) < 4096 from by (first | omega | (simp only [st_s] <;> omega) | assumption | omega)), ?_⟩
                intro x12 r_x12 hq
                obtain ⟨q11_1, q11_2⟩ := hq
                replace q11_1 : -1 ≤ x12 ∧ x12 < (τ_9.1 22) ∨ x12 = -1 := q11_1
                replace q11_2 : -1 ≤ x12 ∧ x12 ≤ 1499 := q11_2
                refine ⟨fun c14 => ?_, fun c14 => ?_⟩
                ·
                  exact l_90 ((301 - 0 : Int).toNat + 1) _ _ _ _ (show (301 - 0 : Int) < (((301 - 0 : Int).toNat + 1 : Nat) : Int) from by ((first | omega | (simp only [st_s] <;> omega) | assumption | omega))) hT (show τ_9.1 0 = σ.1 0 from by omega) (show τ_9.1 22 = σ.1 22 from by omega) G0 G6 G7 G18 G19 (show (τ_9.1 16) ≤ (τ_9.1 0) from by (first | omega | (simp only [st_s] <;> omega) | assumption | omega)) (show (τ_9.1 17) + (τ_9.1 18) ≤ (τ_9.1 0) from by (first | omega | (simp only [st_s] <;> omega) | assumption | omega)) (show oc (τ_9.2.1 6) < 4096 from by (first | omega | (simp only [st_s] <;> omega) | assumption | omega)) (show oc (τ_9.2.1 7) < 4096 from by (first | omega | (simp only [st_s] <;> omega) | assumption | omega)) (show ¬ (σ.1 20) = 0 → (τ_9.1 20) = (σ.1 20) from by (first | omega | (simp only [st_s] <;> omega) | assumption | omega)) (show -1 ≤ x12 ∧ x12 ≤ 1499 from by (first | omega | (simp only [st_s] <;> omega) | assumption | omega)) (show 0 ≤ 0 ∧ 0 ≤ 1 from by (first | omega | (simp only [st_s] <;> omega) | assumption | omega)) (show 0 ≤ 0 from by (first | omega | (simp only [st_s] <;> omega) | assumption | omega)) (show 0 ≤ 300 from by (first | omega | (simp only [st_s] <;> omega) | assumption | omega)) (show (τ_9.1 20) = 0 from by (first | omega | (simp only [st_s] <;> omega) | assumption | omega)) (show (τ_9.1 19) = 1 from by (first | omega | (simp only [st_s] <;> omega) | assumption | omega)) (show 3 * ((τ_9.1 0) - (τ_9.1 16)) + z_0 ((τ_9.1 20)) + 1 - z_0 ((τ_9.1 19)) ≤ (m_9 : Int) from by (first | omega | (simp only [st_s] <;> omega) | assumption | omega)) (show (σ.1 16) ≤ (τ_9.1 16) from by (first | omega | (simp only [st_s] <;> omega) | assumption | omega))
                ·
                  refine ⟨_, K_X13_isMandatory hT (show 0 ≤ (τ_9.1 22) from by (first | omega | (simp only [st_s] <;> omega) | assumption | omega)) (show (τ_9.1 22) < 1500 from by (first | omega | (simp only [st_s] <;> omega) | assumption | omega)) (show τ_9.2.1 18 (τ_9.1 22) + τ_9.2.1 19 (τ_9.1 22) ≤ 90100 from by (first | omega | (simp only [st_s] <;> omega) | assumption | omega)), ?_⟩
                  intro x16 r_x16 hq
                  have q15_1 := hq
                  replace q15_1 : 0 ≤ x16 ∧ x16 ≤ 1 := q15_1
                  refine ⟨fun c18 => ?_, fun c18 => ?_⟩
                  ·
                    exact l_90 ((301 - 0 : Int).toNat + 1) _ _ _ _ (show (301 - 0 : Int) < (((301 - 0 : Int).toNat + 1 : Nat) : Int) from by ((first | omega | (simp only [st_s] <;> omega) | assumption | omega))) hT (show τ_9.1 0 = σ.1 0 from by omega) (show τ_9.1 22 = σ.1 22 from by omega) G0 G6 G7 G18 G19 (show (τ_9.1 16) ≤ (τ_9.1 0) from by (first | omega | (simp only [st_s] <;> omega) | assumption | omega)) (show (τ_9.1 17) + (τ_9.1 18) ≤ (τ_9.1 0) from by (first | omega | (simp only [st_s] <;> omega) | assumption | omega)) (show oc (τ_9.2.1 6) < 4096 from by (first | omega | (simp only [st_s] <;> omega) | assumption | omega)) (show oc (τ_9.2.1 7) < 4096 from by (first | omega | (simp only [st_s] <;> omega) | assumption | omega)) (show ¬ (σ.1 20) = 0 → (τ_9.1 20) = (σ.1 20) from by (first | omega | (simp only [st_s] <;> omega) | assumption | omega)) (show -1 ≤ x12 ∧ x12 ≤ 1499 from by (first | omega | (simp only [st_s] <;> omega) | assumption | omega)) (show 0 ≤ 0 ∧ 0 ≤ 1 from by (first | omega | (simp only [st_s] <;> omega) | assumption | omega)) (show 0 ≤ 0 from by (first | omega | (simp only [st_s] <;> omega) | assumption | omega)) (show 0 ≤ 300 from by (first | omega | (simp only [st_s] <;> omega) | assumption | omega)) (show (τ_9.1 20) = 0 from by (first | omega | (simp only [st_s] <;> omega) | assumption | omega)) (show (τ_9.1 19) = 1 from by (first | omega | (simp only [st_s] <;> omega) | assumption | omega)) (show 3 * ((τ_9.1 0) - (τ_9.1 16)) + z_0 ((τ_9.1 20)) + 1 - z_0 ((τ_9.1 19)) ≤ (m_9 : Int) from by (first | omega | (simp only [st_s] <;> omega) | assumption | omega)) (show (σ.1 16) ≤ (τ_9.1 16) from by (first | omega | (simp only [st_s] <;> omega) | assumption | omega))
                  ·
                    exact l_90 ((301 - 0 : Int).toNat + 1) _ _ _ _ (show (301 - 0 : Int) < (((301 - 0 : Int).toNat + 1 : Nat) : Int) from by ((first | omega | (simp only [st_s] <;> omega) | assumption | omega))) hT (show τ_9.1 0 = σ.1 0 from by omega) (show τ_9.1 22 = σ.1 22 from by omega) G0 G6 G7 G18 G19 (show (τ_9.1 16) ≤ (τ_9.1 0) from by (first | omega | (simp only [st_s] <;> omega) | assumption | omega)) (show (τ_9.1 17) + (τ_9.1 18) ≤ (τ_9.1 0) from by (first | omega | (simp only [st_s] <;> omega) | assumption | omega)) (show oc (τ_9.2.1 6) < 4096 from by (first | omega | (simp only [st_s] <;> omega) | assumption | omega)) (show oc (τ_9.2.1 7) < 4096 from by (first | omega | (simp only [st_s] <;> omega) | assumption | omega)) (show ¬ (σ.1 20) = 0 → (τ_9.1 20) = (σ.1 20) from by (first | omega | (simp only [st_s] <;> omega) | assumption | omega)) (show -1 ≤ x12 ∧ x12 ≤ 1499 from by (first | omega | (simp only [st_s] <;> omega) | assumption | omega)) (show 0 ≤ 1 ∧ 1 ≤ 1 from by (first | omega | (simp only [st_s] <;> omega) | assumption | omega)) (show 0 ≤ 0 from by (first | omega | (simp only [st_s] <;> omega) | assumption | omega)) (show 0 ≤ 300 from by (first | omega | (simp only [st_s] <;> omega) | assumption | omega)) (show (τ_9.1 20) = 0 from by (first | omega | (simp only [st_s] <;> omega) | assumption | omega)) (show (τ_9.1 19) = 1 from by (first | omega | (simp only [st_s] <;> omega) | assumption | omega)) (show 3 * ((τ_9.1 0) - (τ_9.1 16)) + z_0 ((τ_9.1 20)) + 1 - z_0 ((τ_9.1 19)) ≤ (m_9 : Int) from by (first | omega | (simp only [st_s] <;> omega) | assumption | omega)) (show (σ.1 16) ≤ (τ_9.1 16) from by (first | omega | (simp only [st_s] <;> omega) | assumption | omega))
              ·
                refine ⟨_, K_X13_failHere hT (show 0 ≤ 4 from by (first | omega | (simp only [st_s] <;> omega) | assumption | omega)) (show 4 ≤ 19 from by (first | omega | (simp only [st_s] <;> omega) | assumption | omega)), ?_⟩
                intro τ21 hn_τ21 hf_τ21 hq
                obtain ⟨hT, q19_1, q19_2⟩ := hq
                replace q19_1 : ¬ (τ_9.1 20) = 0 → (τ21.1 20) = (τ_9.1 20) := q19_1
                replace q19_2 : (τ_9.1 20) = 0 → (τ21.1 20) = 4 := q19_2
                have w0_τ21 : τ21.1 0 = τ_9.1 0 := hf_τ21.1 0 (by decide)
                have w16_τ21 : τ21.1 16 = τ_9.1 16 := hf_τ21.1 16 (by decide)
                have w17_τ21 : τ21.1 17 = τ_9.1 17 := hf_τ21.1 17 (by decide)
                have w18_τ21 : τ21.1 18 = τ_9.1 18 := hf_τ21.1 18 (by decide)
                have w19_τ21 : τ21.1 19 = τ_9.1 19 := hf_τ21.1 19 (by decide)
                have w22_τ21 : τ21.1 22 = τ_9.1 22 := hf_τ21.1 22 (by decide)
                have w25_τ21 : τ21.1 25 = τ_9.1 25 := hf_τ21.1 25 (by decide)
                have g0_τ21 : τ21.2.1 0 = τ_9.2.1 0 := hf_τ21.2.1 0 (by decide)
                have g6_τ21 : τ21.2.1 6 = τ_9.2.1 6 := hf_τ21.2.1 6 (by decide)
                have g7_τ21 : τ21.2.1 7 = τ_9.2.1 7 := hf_τ21.2.1 7 (by decide)
                have g18_τ21 : τ21.2.1 18 = τ_9.2.1 18 := hf_τ21.2.1 18 (by decide)
                have g19_τ21 : τ21.2.1 19 = τ_9.2.1 19 := hf_τ21.2.1 19 (by decide)
                first | (have o6_τ21 := congrArg oc g6_τ21) | skip
                first | (have o7_τ21 := congrArg oc g7_τ21) | skip
                have W0 : τ21.1 0 = σ.1 0 := by omega
                have W22 : τ21.1 22 = σ.1 22 := by omega
                have G0 : τ21.2.1 0 = σ.2.1 0 := (g0_τ21).trans G0
                have G6 : τ21.2.1 6 = σ.2.1 6 := (g6_τ21).trans G6
                have G7 : τ21.2.1 7 = σ.2.1 7 := (g7_τ21).trans G7
                have G18 : τ21.2.1 18 = σ.2.1 18 := (g18_τ21).trans G18
                have G19 : τ21.2.1 19 = σ.2.1 19 := (g19_τ21).trans G19
                have y0_17_τ21 : τ21.2.1 0 (τ21.1 17) = (τ_9.2.1 0) (τ_9.1 17) := by rw [g0_τ21, w17_τ21]
                have y18_22_τ21 : τ21.2.1 18 (τ21.1 22) = (τ_9.2.1 18) (τ_9.1 22) := by rw [g18_τ21, w22_τ21]
                have y19_22_τ21 : τ21.2.1 19 (τ21.1 22) = (τ_9.2.1 19) (τ_9.1 22) := by rw [g19_τ21, w22_τ21]
                have A0 : ∀ j, 0 ≤ τ21.2.1 0 j ∧ τ21.2.1 0 j ≤ 255 := fun j => hT.2 0 j
                have A6 : ∀ j, (-1) ≤ τ21.2.1 6 j ∧ τ21.2.1 6 j ≤ 999 := fun j => hT.2 6 j
                have A7 : ∀ j, (-1) ≤ τ21.2.1 7 j ∧ τ21.2.1 7 j ≤ 1499 := fun j => hT.2 7 j
                have A18 : ∀ j, 0 ≤ τ21.2.1 18 j ∧ τ21.2.1 18 j ≤ 90000 := fun j => hT.2 18 j
                have A19 : ∀ j, 0 ≤ τ21.2.1 19 j ∧ τ21.2.1 19 j ≤ 60 := fun j => hT.2 19 j
                have v0 : 0 ≤ τ21.1 0 ∧ τ21.1 0 ≤ 60000 := hT.1 0
                have v16 : 0 ≤ τ21.1 16 ∧ τ21.1 16 ≤ 60000 := hT.1 16
                have v17 : 0 ≤ τ21.1 17 ∧ τ21.1 17 ≤ 60000 := hT.1 17
                have v18 : 0 ≤ τ21.1 18 ∧ τ21.1 18 ≤ 60000 := hT.1 18
                have v19 : (-1) ≤ τ21.1 19 ∧ τ21.1 19 ≤ 125 := hT.1 19
                have v20 : 0 ≤ τ21.1 20 ∧ τ21.1 20 ≤ 19 := hT.1 20
                have v22 : 0 ≤ τ21.1 22 ∧ τ21.1 22 ≤ 1499 := hT.1 22
                have v25 : 0 ≤ τ21.1 25 ∧ τ21.1 25 ≤ 300 := hT.1 25
                have a0_17 : 0 ≤ τ21.2.1 0 (τ21.1 17) ∧ τ21.2.1 0 (τ21.1 17) ≤ 255 := hT.2 0 _
                have a18_22 : 0 ≤ τ21.2.1 18 (τ21.1 22) ∧ τ21.2.1 18 (τ21.1 22) ≤ 90000 := hT.2 18 _
                have a19_22 : 0 ≤ τ21.2.1 19 (τ21.1 22) ∧ τ21.2.1 19 (τ21.1 22) ≤ 60 := hT.2 19 _
                exact ⟨hT, (show (τ21.1 16) ≤ (τ21.1 0) from by (first | omega | (simp only [st_s] <;> omega) | assumption | omega)), (show (τ21.1 17) + (τ21.1 18) ≤ (τ21.1 0) from by (first | omega | (simp only [st_s] <;> omega) | assumption | omega)), (show ¬ (σ.1 20) = 0 → (τ21.1 20) = (σ.1 20) from by (first | omega | (simp only [st_s] <;> omega) | assumption | omega)), (show oc (τ21.2.1 6) < 4096 from by (first | omega | (simp only [st_s] <;> omega) | assumption | omega)), (show oc (τ21.2.1 7) < 4096 from by (first | omega | (simp only [st_s] <;> omega) | assumption | omega)), (show (σ.1 16) ≤ (τ21.1 16) from by (first | omega | (simp only [st_s] <;> omega) | assumption | omega))⟩
  replace hT := mT_v (i := 25) hT (show (0 : Int) ≤ 0 ∧ 0 ≤ 300 from by (first | omega | (simp only [st_s] <;> omega) | assumption | omega))
  refine ⟨_, K_X13_next hT (show (σ.1 16) ≤ (σ.1 0) from by (first | omega | (simp only [st_s] <;> omega) | assumption | omega)), ?_⟩
  intro τ3 hn_τ3 hf_τ3 hq
  obtain ⟨hT, q1_1, q1_2, q1_3, q1_4, q1_5⟩ := hq
  replace q1_1 : (τ3.1 16) ≤ (τ3.1 0) := q1_1
  replace q1_2 : (τ3.1 17) + (τ3.1 18) ≤ (τ3.1 0) := q1_2
  replace q1_3 : (σ.1 16) ≤ (τ3.1 16) := q1_3
  replace q1_4 : ¬ (σ.1 20) = 0 → (τ3.1 20) = (σ.1 20) := q1_4
  replace q1_5 : (τ3.1 20) = 0 → ¬ (τ3.1 19) = 0 → (σ.1 16) < (τ3.1 16) ∧ 0 < (τ3.1 18) := q1_5
  have w0_τ3 : τ3.1 0 = σ.1 0 := hf_τ3.1 0 (by decide)
  have w22_τ3 : τ3.1 22 = σ.1 22 := hf_τ3.1 22 (by decide)
  have w25_τ3 : τ3.1 25 = 0 := hf_τ3.1 25 (by decide)
  have g0_τ3 : τ3.2.1 0 = σ.2.1 0 := hf_τ3.2.1 0 (by decide)
  have g6_τ3 : τ3.2.1 6 = σ.2.1 6 := hf_τ3.2.1 6 (by decide)
  have g7_τ3 : τ3.2.1 7 = σ.2.1 7 := hf_τ3.2.1 7 (by decide)
  have g18_τ3 : τ3.2.1 18 = σ.2.1 18 := hf_τ3.2.1 18 (by decide)
  have g19_τ3 : τ3.2.1 19 = σ.2.1 19 := hf_τ3.2.1 19 (by decide)
  first | (have o6_τ3 := congrArg oc g6_τ3) | skip
  first | (have o7_τ3 := congrArg oc g7_τ3) | skip
  have W0 : τ3.1 0 = σ.1 0 := by omega
  have W22 : τ3.1 22 = σ.1 22 := by omega
  have G0 : τ3.2.1 0 = σ.2.1 0 := (g0_τ3).trans G0
  have G6 : τ3.2.1 6 = σ.2.1 6 := (g6_τ3).trans G6
  have G7 : τ3.2.1 7 = σ.2.1 7 := (g7_τ3).trans G7
  have G18 : τ3.2.1 18 = σ.2.1 18 := (g18_τ3).trans G18
  have G19 : τ3.2.1 19 = σ.2.1 19 := (g19_τ3).trans G19
  have y18_22_τ3 : τ3.2.1 18 (τ3.1 22) = (σ.2.1 18) (σ.1 22) := by rw [g18_τ3, w22_τ3]
  have y19_22_τ3 : τ3.2.1 19 (τ3.1 22) = (σ.2.1 19) (σ.1 22) := by rw [g19_τ3, w22_τ3]
  have A0 : ∀ j, 0 ≤ τ3.2.1 0 j ∧ τ3.2.1 0 j ≤ 255 := fun j => hT.2 0 j
  have A6 : ∀ j, (-1) ≤ τ3.2.1 6 j ∧ τ3.2.1 6 j ≤ 999 := fun j => hT.2 6 j
  have A7 : ∀ j, (-1) ≤ τ3.2.1 7 j ∧ τ3.2.1 7 j ≤ 1499 := fun j => hT.2 7 j
  have A18 : ∀ j, 0 ≤ τ3.2.1 18 j ∧ τ3.2.1 18 j ≤ 90000 := fun j => hT.2 18 j
  have A19 : ∀ j, 0 ≤ τ3.2.1 19 j ∧ τ3.2.1 19 j ≤ 60 := fun j => hT.2 19 j
  have v0 : 0 ≤ τ3.1 0 ∧ τ3.1 0 ≤ 60000 := hT.1 0
  have v16 : 0 ≤ τ3.1 16 ∧ τ3.1 16 ≤ 60000 := hT.1 16
  have v17 : 0 ≤ τ3.1 17 ∧ τ3.1 17 ≤ 60000 := hT.1 17
  have v18 : 0 ≤ τ3.1 18 ∧ τ3.1 18 ≤ 60000 := hT.1 18
  have v19 : (-1) ≤ τ3.1 19 ∧ τ3.1 19 ≤ 125 := hT.1 19
  have v20 : 0 ≤ τ3.1 20 ∧ τ3.1 20 ≤ 19 := hT.1 20
  have v22 : 0 ≤ τ3.1 22 ∧ τ3.1 22 ≤ 1499 := hT.1 22
  have v25 : 0 ≤ τ3.1 25 ∧ τ3.1 25 ≤ 300 := hT.1 25
  have a0_17 : 0 ≤ τ3.2.1 0 (τ3.1 17) ∧ τ3.2.1 0 (τ3.1 17) ≤ 255 := hT.2 0 _
  have a18_22 : 0 ≤ τ3.2.1 18 (τ3.1 22) ∧ τ3.2.1 18 (τ3.1 22) ≤ 90000 := hT.2 18 _
  have a19_22 : 0 ≤ τ3.2.1 19 (τ3.1 22) ∧ τ3.2.1 19 (τ3.1 22) ≤ 60 := hT.2 19 _
  exact l_9 ((3 * ((τ3.1 0) - (τ3.1 16)) + z_0 ((τ3.1 20)) + 1 - z_0 ((τ3.1 19)) : Int).toNat + 1) _ (show (3 * ((τ3.1 0) - (τ3.1 16)) + z_0 ((τ3.1 20)) + 1 - z_0 ((τ3.1 19)) : Int) < (((3 * ((τ3.1 0) - (τ3.1 16)) + z_0 ((τ3.1 20)) + 1 - z_0 ((τ3.1 19)) : Int).toNat + 1 : Nat) : Int) from by (have zz0 := z_e ((τ3.1 20)); have zz1 := z_e ((τ3.1 19)); (first | omega | (simp only [st_s] <;> omega) | assumption | omega))) hT (show τ3.1 0 = σ.1 0 from by omega) (show τ3.1 22 = σ.1 22 from by omega) G0 G6 G7 G18 G19 (show (τ3.1 16) ≤ (τ3.1 0) from by (first | omega | (simp only [st_s] <;> omega) | assumption | omega)) (show (τ3.1 17) + (τ3.1 18) ≤ (τ3.1 0) from by (first | omega | (simp only [st_s] <;> omega) | assumption | omega)) (show oc (τ3.2.1 6) < 4096 from by (first | omega | (simp only [st_s] <;> omega) | assumption | omega)) (show oc (τ3.2.1 7) < 4096 from by (first | omega | (simp only [st_s] <;> omega) | assumption | omega)) (show ¬ (σ.1 20) = 0 → (τ3.1 20) = (σ.1 20) from by (first | omega | (simp only [st_s] <;> omega) | assumption | omega)) (show (σ.1 16) ≤ (τ3.1 16) from by (first | omega | (simp only [st_s] <;> omega) | assumption | omega))
