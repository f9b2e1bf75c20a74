-- pure: the class's reader, symbols of statements
set_option maxHeartbeats 1000000 in
theorem K_X7_floatingVariable {n1 : Int} {σ : S0} (hT : c_T σ) (p1 : -1 ≤ n1) (p2 : n1 < 1000) (p3 : n1 < (σ.1 5)) (p4 : (σ.1 6) < 30000) (p5 : (σ.1 7) < 1500) (p6 : σ.2.1 14 (σ.1 7) < 30000) (p7 : ∀ s : Int, 0 ≤ s → s < (σ.1 5) → 0 ≤ σ.2.1 9 s → σ.2.1 14 (σ.2.1 9 s) < 30000) (p8 : J_vs (σ.1 6) (σ.1 5) (σ.2.1 15)) (p9 : J_ip (σ.1 7) (σ.1 6) (σ.1 37) (σ.2.1 14) (σ.2.1 15) (σ.2.1 16) (σ.2.1 19)) (p10 : (σ.1 37) = 0) (p11 : (σ.1 6) = σ.2.1 14 (σ.1 7) + 1) : W_X7_floatingVariable n1 σ (fun (x : Int) (τ : S0) => (c_T τ) ∧ (0 ≤ x ∧ x ≤ 19) ∧ (J_vs (τ.1 6) (τ.1 5) (τ.2.1 15)) ∧ (x = 0 → (τ.1 6) = (σ.1 6) + 1 ∧ τ.2.1 14 ((τ.1 7) + 1) = (τ.1 6)) ∧ (x = 0 → J_ip (τ.1 7) (τ.1 6) (τ.1 37) (τ.2.1 14) (τ.2.1 15) (τ.2.1 16) (τ.2.1 19)) ∧ (c_ag σ τ)) := by
  have A8 : ∀ j, 0 ≤ σ.2.1 8 j ∧ σ.2.1 8 j ≤ 1 := fun j => hT.2 8 j
  have A9 : ∀ j, (-1) ≤ σ.2.1 9 j ∧ σ.2.1 9 j ≤ 1499 := fun j => hT.2 9 j
  have A14 : ∀ j, 0 ≤ σ.2.1 14 j ∧ σ.2.1 14 j ≤ 30000 := fun j => hT.2 14 j
  have A15 : ∀ j, 0 ≤ σ.2.1 15 j ∧ σ.2.1 15 j ≤ 999 := fun j => hT.2 15 j
  have A16 : ∀ j, (-1) ≤ σ.2.1 16 j ∧ σ.2.1 16 j ≤ 1499 := fun j => hT.2 16 j
  have A19 : ∀ j, (-1) ≤ σ.2.1 19 j ∧ σ.2.1 19 j ≤ 1499 := fun j => hT.2 19 j
  have v3 : 0 ≤ σ.1 3 ∧ σ.1 3 ≤ 2500 := hT.1 3
  have v5 : 0 ≤ σ.1 5 ∧ σ.1 5 ≤ 1000 := hT.1 5
  have v6 : 0 ≤ σ.1 6 ∧ σ.1 6 ≤ 30000 := hT.1 6
  have v7 : 0 ≤ σ.1 7 ∧ σ.1 7 ≤ 1500 := hT.1 7
  have v13 : 0 ≤ σ.1 13 ∧ σ.1 13 ≤ 90000 := hT.1 13
  have v14 : 0 ≤ σ.1 14 ∧ σ.1 14 ≤ 20000 := hT.1 14
  have v15 : 0 ≤ σ.1 15 ∧ σ.1 15 ≤ 20000 := hT.1 15
  have v16 : 0 ≤ σ.1 16 ∧ σ.1 16 ≤ 20000 := hT.1 16
  have v37 : 0 ≤ σ.1 37 ∧ σ.1 37 ≤ 4 := hT.1 37
  have a14_7 : 0 ≤ σ.2.1 14 (σ.1 7) ∧ σ.2.1 14 (σ.1 7) ≤ 30000 := hT.2 14 _
  have W3 : σ.1 3 = σ.1 3 := rfl
  have W5 : σ.1 5 = σ.1 5 := rfl
  have W7 : σ.1 7 = σ.1 7 := rfl
  have W13 : σ.1 13 = σ.1 13 := rfl
  have W14 : σ.1 14 = σ.1 14 := rfl
  have W15 : σ.1 15 = σ.1 15 := rfl
  have W16 : σ.1 16 = σ.1 16 := rfl
  have W37 : σ.1 37 = σ.1 37 := rfl
  have G8 : σ.2.1 8 = σ.2.1 8 := rfl
  have G9 : σ.2.1 9 = σ.2.1 9 := rfl
  have G19 : σ.2.1 19 = σ.2.1 19 := rfl
  have ag : c_ag σ σ := ag_0 σ
  intro P21 P95 h21 h95
  have TX : J_vs (σ.1 6) (σ.1 5) (σ.2.1 15) := p8
  have IP : J_ip (σ.1 7) (σ.1 6) (σ.1 37) (σ.2.1 14) (σ.2.1 15) (σ.2.1 16) (σ.2.1 19) := p9
  have IP_0 := IP
  have TX_0 := TX
  refine ⟨fun c1 => ?_, fun c1 => ?_⟩
  ·
    refine h21 _ _ ?_
    refine ⟨_, K_X9_isKnown hT (show -1 ≤ n1 from by (first | omega | (simp only [st_s] <;> omega) | assumption | omega | fail)) (show n1 < 1000 from by (first | omega | (simp only [st_s] <;> omega) | assumption | omega | fail)), ?_⟩
    intro x6 r_x6 hq
    obtain ⟨q5_1, q5_2, q5_3, q5_4⟩ := hq
    replace q5_1 : 0 ≤ x6 ∧ x6 ≤ 1 := q5_1
    replace q5_2 : ¬ x6 = 0 → 0 ≤ n1 := q5_2
    replace q5_3 : ¬ x6 = 0 → σ.2.1 8 n1 = 0 ∨ ¬ σ.2.1 18 n1 = 0 := q5_3
    replace q5_4 : 0 ≤ n1 → (σ.2.1 8 n1 = 0 ∨ ¬ σ.2.1 18 n1 = 0) → ¬ x6 = 0 := q5_4
    refine ⟨fun c8 => ?_, fun c8 => ?_⟩
    ·
      refine ⟨(show 0 ≤ n1 ∧ n1 < 1000 from by (first | omega | (simp only [st_s] <;> omega) | assumption | omega | fail)), ?_⟩
      intro x10 r_x10 e_x10
      have b_x10 : 0 ≤ x10 ∧ x10 ≤ 1 := by rw [e_x10]; exact hT.2 8 _
      refine ⟨fun c11 => ?_, fun c11 => ?_⟩
      ·
        intro x12 r_x12 e_x12
        have b_x12 : (-1) ≤ x12 ∧ x12 ≤ 1499 := by rw [e_x12]; exact hT.2 9 _
        have ff := p7 n1 (by omega) (by omega)
        rw [← e_x12] at ff
        refine ⟨fun c13 => ?_, fun c13 => ?_⟩
        ·
          refine h95 _ _ _ ?_
          refine ⟨_, K2_X3_append hT (show 0 ≤ n1 from by (first | omega | (simp only [st_s] <;> omega) | assumption | omega | fail)) (show n1 < 1000 from by (first | omega | (simp only [st_s] <;> omega) | assumption | omega | fail)) (show -1 ≤ (σ.1 7) from by (first | omega | (simp only [st_s] <;> omega) | assumption | omega | fail)) (show (σ.1 7) < 1500 from by (first | omega | (simp only [st_s] <;> omega) | assumption | omega | fail)) (show (σ.1 6) < 30000 from by (first | omega | (simp only [st_s] <;> omega) | assumption | omega | fail)) (show (σ.1 7) < 1500 from by (first | omega | (simp only [st_s] <;> omega) | assumption | omega | fail)), ?_⟩
          intro τ23 hn_τ23 hf_τ23 hq
          obtain ⟨hT, q21_1, q21_2, q21_3, q21_4, q21_5⟩ := hq
          replace q21_1 : (τ23.1 6) = (σ.1 6) + 1 := q21_1
          replace q21_2 : τ23.2.1 14 = st (σ.2.1 14) ((σ.1 7) + 1) ((σ.1 6) + 1) := q21_2
          replace q21_3 : τ23.2.1 15 = st (σ.2.1 15) (σ.1 6) n1 := q21_3
          replace q21_4 : τ23.2.1 16 = st (σ.2.1 16) (σ.1 6) (σ.1 7) := q21_4
          replace q21_5 : c_ag σ τ23 := q21_5
          replace ag : c_ag σ τ23 := ag_t ag q21_5 rfl
          have w3_τ23 : τ23.1 3 = σ.1 3 := hf_τ23.1 3 (by decide)
          have w5_τ23 : τ23.1 5 = σ.1 5 := hf_τ23.1 5 (by decide)
          have w7_τ23 : τ23.1 7 = σ.1 7 := hf_τ23.1 7 (by decide)
          have w13_τ23 : τ23.1 13 = σ.1 13 := hf_τ23.1 13 (by decide)
          have w14_τ23 : τ23.1 14 = σ.1 14 := hf_τ23.1 14 (by decide)
          have w15_τ23 : τ23.1 15 = σ.1 15 := hf_τ23.1 15 (by decide)
          have w16_τ23 : τ23.1 16 = σ.1 16 := hf_τ23.1 16 (by decide)
          have w37_τ23 : τ23.1 37 = σ.1 37 := hf_τ23.1 37 (by decide)
          have g8_τ23 : τ23.2.1 8 = σ.2.1 8 := hf_τ23.2.1 8 (by decide)
          have g9_τ23 : τ23.2.1 9 = σ.2.1 9 := hf_τ23.2.1 9 (by decide)
          have g19_τ23 : τ23.2.1 19 = σ.2.1 19 := hf_τ23.2.1 19 (by decide)
          have W3 : τ23.1 3 = σ.1 3 := by first | exact w3_τ23.trans W3 | omega
          have W5 : τ23.1 5 = σ.1 5 := by first | exact w5_τ23.trans W5 | omega
          have W7 : τ23.1 7 = σ.1 7 := by first | exact w7_τ23.trans W7 | omega
          have W13 : τ23.1 13 = σ.1 13 := by first | exact w13_τ23.trans W13 | omega
          have W14 : τ23.1 14 = σ.1 14 := by first | exact w14_τ23.trans W14 | omega
          have W15 : τ23.1 15 = σ.1 15 := by first | exact w15_τ23.trans W15 | omega
          have W16 : τ23.1 16 = σ.1 16 := by first | exact w16_τ23.trans W16 | omega
          have W37 : τ23.1 37 = σ.1 37 := by first | exact w37_τ23.trans W37 | omega
          have G8 : τ23.2.1 8 = σ.2.1 8 := (g8_τ23).trans G8
          have G9 : τ23.2.1 9 = σ.2.1 9 := (g9_τ23).trans G9
          have G19 : τ23.2.1 19 = σ.2.1 19 := (g19_τ23).trans G19
          have A8 : ∀ j, 0 ≤ τ23.2.1 8 j ∧ τ23.2.1 8 j ≤ 1 := fun j => hT.2 8 j
          have A9 : ∀ j, (-1) ≤ τ23.2.1 9 j ∧ τ23.2.1 9 j ≤ 1499 := fun j => hT.2 9 j
          have A14 : ∀ j, 0 ≤ τ23.2.1 14 j ∧ τ23.2.1 14 j ≤ 30000 := fun j => hT.2 14 j
          have A15 : ∀ j, 0 ≤ τ23.2.1 15 j ∧ τ23.2.1 15 j ≤ 999 := fun j => hT.2 15 j
          have A16 : ∀ j, (-1) ≤ τ23.2.1 16 j ∧ τ23.2.1 16 j ≤ 1499 := fun j => hT.2 16 j
          have A19 : ∀ j, (-1) ≤ τ23.2.1 19 j ∧ τ23.2.1 19 j ≤ 1499 := fun j => hT.2 19 j
          have v3 : 0 ≤ τ23.1 3 ∧ τ23.1 3 ≤ 2500 := hT.1 3
          have v5 : 0 ≤ τ23.1 5 ∧ τ23.1 5 ≤ 1000 := hT.1 5
          have v6 : 0 ≤ τ23.1 6 ∧ τ23.1 6 ≤ 30000 := hT.1 6
          have v7 : 0 ≤ τ23.1 7 ∧ τ23.1 7 ≤ 1500 := hT.1 7
          have v13 : 0 ≤ τ23.1 13 ∧ τ23.1 13 ≤ 90000 := hT.1 13
          have v14 : 0 ≤ τ23.1 14 ∧ τ23.1 14 ≤ 20000 := hT.1 14
          have v15 : 0 ≤ τ23.1 15 ∧ τ23.1 15 ≤ 20000 := hT.1 15
          have v16 : 0 ≤ τ23.1 16 ∧ τ23.1 16 ≤ 20000 := hT.1 16
          have v37 : 0 ≤ τ23.1 37 ∧ τ23.1 37 ≤ 4 := hT.1 37
          have a14_7 : 0 ≤ τ23.2.1 14 (τ23.1 7) ∧ τ23.2.1 14 (τ23.1 7) ≤ 30000 := hT.2 14 _
          have av6 : σ.1 6 ≤ τ23.1 6 := ag.1 6 (by decide)
          have afn : σ.2.1 19 n1 < 0 := by first | (exfalso; omega) | (rw [← e_x3]; omega)
          have TX : J_vs (τ23.1 6) (τ23.1 5) (τ23.2.1 15) := by rw [q21_1, q21_3, w5_τ23]; exact J_vs_a TX (Int.le_refl _) (by omega)
          have IPn : J_ip (τ23.1 7) (τ23.1 6) (τ23.1 37) (τ23.2.1 14) (τ23.2.1 15) (τ23.2.1 16) (τ23.2.1 19) := by rw [q21_1, q21_2, q21_3, q21_4, w7_τ23, w37_τ23, g19_τ23]; exact J_ip_a IP_0 (st_n _ _ (by omega)) (Or.inr (Or.inr ⟨p10, p11, rfl⟩)) (fun _ _ => afn) (fun z => by exfalso; omega)
          exact ⟨hT, (show 0 ≤ 0 ∧ 0 ≤ 19 from by (first | omega | (simp only [st_s] <;> omega) | assumption | omega | fail)), (show J_vs (τ23.1 6) (τ23.1 5) (τ23.2.1 15) from TX), (show 0 = 0 → (τ23.1 6) = (σ.1 6) + 1 ∧ τ23.2.1 14 ((τ23.1 7) + 1) = (τ23.1 6) from by (first | (intro z; exfalso; omega) | (intro _; refine ⟨by omega, ?_⟩; rw [q21_2, w7_τ23, st_s, q21_1]) | fail)), (show 0 = 0 → J_ip (τ23.1 7) (τ23.1 6) (τ23.1 37) (τ23.2.1 14) (τ23.2.1 15) (τ23.2.1 16) (τ23.2.1 19) from by (first | (intro z; exfalso; omega) | (intro _; exact IPn) | fail)), ag⟩
        ·
          refine ⟨_, K_X3_typeOf hT (show 0 ≤ x12 from by (first | omega | (simp only [st_s] <;> omega) | assumption | omega | fail)) (show x12 ≤ 1500 from by (first | omega | (simp only [st_s] <;> omega) | assumption | omega | fail)) (show σ.2.1 14 x12 < 30000 from by (first | omega | (simp only [st_s] <;> omega) | assumption | omega | fail)), ?_⟩
          intro x15 r_x15 hq
          obtain ⟨q14_1, q14_2⟩ := hq
          replace q14_1 : x15 = σ.2.1 15 (σ.2.1 14 x12) := q14_1
          replace q14_2 : 0 ≤ x15 ∧ x15 ≤ 999 := q14_2
          refine ⟨_, K_X3_typeOf hT (show 0 ≤ (σ.1 7) from by (first | omega | (simp only [st_s] <;> omega) | assumption | omega | fail)) (show (σ.1 7) ≤ 1500 from by (first | omega | (simp only [st_s] <;> omega) | assumption | omega | fail)) (show σ.2.1 14 (σ.1 7) < 30000 from by (first | omega | (simp only [st_s] <;> omega) | assumption | omega | fail)), ?_⟩
          intro x18 r_x18 hq
          obtain ⟨q17_1, q17_2⟩ := hq
          replace q17_1 : x18 = σ.2.1 15 (σ.2.1 14 (σ.1 7)) := q17_1
          replace q17_2 : 0 ≤ x18 ∧ x18 ≤ 999 := q17_2
          refine ⟨fun c20 => ?_, fun c20 => ?_⟩
          ·
            refine h95 _ _ _ ?_
            refine ⟨_, K2_X3_append hT (show 0 ≤ n1 from by (first | omega | (simp only [st_s] <;> omega) | assumption | omega | fail)) (show n1 < 1000 from by (first | omega | (simp only [st_s] <;> omega) | assumption | omega | fail)) (show -1 ≤ (σ.1 7) from by (first | omega | (simp only [st_s] <;> omega) | assumption | omega | fail)) (show (σ.1 7) < 1500 from by (first | omega | (simp only [st_s] <;> omega) | assumption | omega | fail)) (show (σ.1 6) < 30000 from by (first | omega | (simp only [st_s] <;> omega) | assumption | omega | fail)) (show (σ.1 7) < 1500 from by (first | omega | (simp only [st_s] <;> omega) | assumption | omega | fail)), ?_⟩
            intro τ23 hn_τ23 hf_τ23 hq
            obtain ⟨hT, q21_1, q21_2, q21_3, q21_4, q21_5⟩ := hq
            replace q21_1 : (τ23.1 6) = (σ.1 6) + 1 := q21_1
            replace q21_2 : τ23.2.1 14 = st (σ.2.1 14) ((σ.1 7) + 1) ((σ.1 6) + 1) := q21_2
            replace q21_3 : τ23.2.1 15 = st (σ.2.1 15) (σ.1 6) n1 := q21_3
            replace q21_4 : τ23.2.1 16 = st (σ.2.1 16) (σ.1 6) (σ.1 7) := q21_4
            replace q21_5 : c_ag σ τ23 := q21_5
            replace ag : c_ag σ τ23 := ag_t ag q21_5 rfl
            have w3_τ23 : τ23.1 3 = σ.1 3 := hf_τ23.1 3 (by decide)
            have w5_τ23 : τ23.1 5 = σ.1 5 := hf_τ23.1 5 (by decide)
            have w7_τ23 : τ23.1 7 = σ.1 7 := hf_τ23.1 7 (by decide)
            have w13_τ23 : τ23.1 13 = σ.1 13 := hf_τ23.1 13 (by decide)
            have w14_τ23 : τ23.1 14 = σ.1 14 := hf_τ23.1 14 (by decide)
            have w15_τ23 : τ23.1 15 = σ.1 15 := hf_τ23.1 15 (by decide)
            have w16_τ23 : τ23.1 16 = σ.1 16 := hf_τ23.1 16 (by decide)
            have w37_τ23 : τ23.1 37 = σ.1 37 := hf_τ23.1 37 (by decide)
            have g8_τ23 : τ23.2.1 8 = σ.2.1 8 := hf_τ23.2.1 8 (by decide)
            have g9_τ23 : τ23.2.1 9 = σ.2.1 9 := hf_τ23.2.1 9 (by decide)
            have g19_τ23 : τ23.2.1 19 = σ.2.1 19 := hf_τ23.2.1 19 (by decide)
            have W3 : τ23.1 3 = σ.1 3 := by first | exact w3_τ23.trans W3 | omega
            have W5 : τ23.1 5 = σ.1 5 := by first | exact w5_τ23.trans W5 | omega
            have W7 : τ23.1 7 = σ.1 7 := by first | exact w7_τ23.trans W7 | omega
            have W13 : τ23.1 13 = σ.1 13 := by first | exact w13_τ23.trans W13 | omega
            have W14 : τ23.1 14 = σ.1 14 := by first | exact w14_τ23.trans W14 | omega
            have W15 : τ23.1 15 = σ.1 15 := by first | exact w15_τ23.trans W15 | omega
            have W16 : τ23.1 16 = σ.1 16 := by first | exact w16_τ23.trans W16 | omega
            have W37 : τ23.1 37 = σ.1 37 := by first | exact w37_τ23.trans W37 | omega
            have G8 : τ23.2.1 8 = σ.2.1 8 := (g8_τ23).trans G8
            have G9 : τ23.2.1 9 = σ.2.1 9 := (g9_τ23).trans G9
            have G19 : τ23.2.1 19 = σ.2.1 19 := (g19_τ23).trans G19
            have A8 : ∀ j, 0 ≤ τ23.2.1 8 j ∧ τ23.2.1 8 j ≤ 1 := fun j => hT.2 8 j
            have A9 : ∀ j, (-1) ≤ τ23.2.1 9 j ∧ τ23.2.1 9 j ≤ 1499 := fun j => hT.2 9 j
            have A14 : ∀ j, 0 ≤ τ23.2.1 14 j ∧ τ23.2.1 14 j ≤ 30000 := fun j => hT.2 14 j
            have A15 : ∀ j, 0 ≤ τ23.2.1 15 j ∧ τ23.2.1 15 j ≤ 999 := fun j => hT.2 15 j
            have A16 : ∀ j, (-1) ≤ τ23.2.1 16 j ∧ τ23.2.1 16 j ≤ 1499 := fun j => hT.2 16 j
            have A19 : ∀ j, (-1) ≤ τ23.2.1 19 j ∧ τ23.2.1 19 j ≤ 1499 := fun j => hT.2 19 j
            have v3 : 0 ≤ τ23.1 3 ∧ τ23.1 3 ≤ 2500 := hT.1 3
            have v5 : 0 ≤ τ23.1 5 ∧ τ23.1 5 ≤ 1000 := hT.1 5
            have v6 : 0 ≤ τ23.1 6 ∧ τ23.1 6 ≤ 30000 := hT.1 6
            have v7 : 0 ≤ τ23.1 7 ∧ τ23.1 7 ≤ 1500 := hT.1 7
            have v13 : 0 ≤ τ23.1 13 ∧ τ23.1 13 ≤ 90000 := hT.1 13
            have v14 : 0 ≤ τ23.1 14 ∧ τ23.1 14 ≤ 20000 := hT.1 14
            have v15 : 0 ≤ τ23.1 15 ∧ τ23.1 15 ≤ 20000 := hT.1 15
            have v16 : 0 ≤ τ23.1 16 ∧ τ23.1 16 ≤ 20000 := hT.1 16
            have v37 : 0 ≤ τ23.1 37 ∧ τ23.1 37 ≤ 4 := hT.1 37
            have a14_7 : 0 ≤ τ23.2.1 14 (τ23.1 7) ∧ τ23.2.1 14 (τ23.1 7) ≤ 30000 := hT.2 14 _
            have av6 : σ.1 6 ≤ τ23.1 6 := ag.1 6 (by decide)
            have afn : σ.2.1 19 n1 < 0 := by first | (exfalso; omega) | (rw [← e_x3]; omega)
            have TX : J_vs (τ23.1 6) (τ23.1 5) (τ23.2.1 15) := by rw [q21_1, q21_3, w5_τ23]; exact J_vs_a TX (Int.le_refl _) (by omega)
            have IPn : J_ip (τ23.1 7) (τ23.1 6) (τ23.1 37) (τ23.2.1 14) (τ23.2.1 15) (τ23.2.1 16) (τ23.2.1 19) := by rw [q21_1, q21_2, q21_3, q21_4, w7_τ23, w37_τ23, g19_τ23]; exact J_ip_a IP_0 (st_n _ _ (by omega)) (Or.inr (Or.inr ⟨p10, p11, rfl⟩)) (fun _ _ => afn) (fun z => by exfalso; omega)
            exact ⟨hT, (show 0 ≤ 0 ∧ 0 ≤ 19 from by (first | omega | (simp only [st_s] <;> omega) | assumption | omega | fail)), (show J_vs (τ23.1 6) (τ23.1 5) (τ23.2.1 15) from TX), (show 0 = 0 → (τ23.1 6) = (σ.1 6) + 1 ∧ τ23.2.1 14 ((τ23.1 7) + 1) = (τ23.1 6) from by (first | (intro z; exfalso; omega) | (intro _; refine ⟨by omega, ?_⟩; rw [q21_2, w7_τ23, st_s, q21_1]) | fail)), (show 0 = 0 → J_ip (τ23.1 7) (τ23.1 6) (τ23.1 37) (τ23.2.1 14) (τ23.2.1 15) (τ23.2.1 16) (τ23.2.1 19) from by (first | (intro z; exfalso; omega) | (intro _; exact IPn) | fail)), ag⟩
          ·
            exact ⟨hT, (show 0 ≤ 12 ∧ 12 ≤ 19 from by (first | omega | (simp only [st_s] <;> omega) | assumption | omega | fail)), (show J_vs (σ.1 6) (σ.1 5) (σ.2.1 15) from TX), (show 12 = 0 → (σ.1 6) = (σ.1 6) + 1 ∧ σ.2.1 14 ((σ.1 7) + 1) = (σ.1 6) from by (first | (intro z; exfalso; omega) | (intro _; refine ⟨by omega, ?_⟩; rw [q21_2, w7_τ23, st_s, q21_1]) | fail)), (show 12 = 0 → J_ip (σ.1 7) (σ.1 6) (σ.1 37) (σ.2.1 14) (σ.2.1 15) (σ.2.1 16) (σ.2.1 19) from by (first | (intro z; exfalso; omega) | (intro _; exact IPn) | fail)), ag⟩
      ·
        exact ⟨hT, (show 0 ≤ 10 ∧ 10 ≤ 19 from by (first | omega | (simp only [st_s] <;> omega) | assumption | omega | fail)), (show J_vs (σ.1 6) (σ.1 5) (σ.2.1 15) from TX), (show 10 = 0 → (σ.1 6) = (σ.1 6) + 1 ∧ σ.2.1 14 ((σ.1 7) + 1) = (σ.1 6) from by (first | (intro z; exfalso; omega) | (intro _; refine ⟨by omega, ?_⟩; rw [q21_2, w7_τ23, st_s, q21_1]) | fail)), (show 10 = 0 → J_ip (σ.1 7) (σ.1 6) (σ.1 37) (σ.2.1 14) (σ.2.1 15) (σ.2.1 16) (σ.2.1 19) from by (first | (intro z; exfalso; omega) | (intro _; exact IPn) | fail)), ag⟩
    ·
      exact ⟨hT, (show 0 ≤ 9 ∧ 9 ≤ 19 from by (first | omega | (simp only [st_s] <;> omega) | assumption | omega | fail)), (show J_vs (σ.1 6) (σ.1 5) (σ.2.1 15) from TX), (show 9 = 0 → (σ.1 6) = (σ.1 6) + 1 ∧ σ.2.1 14 ((σ.1 7) + 1) = (σ.1 6) from by (first | (intro z; exfalso; omega) | (intro _; refine ⟨by omega, ?_⟩; rw [q21_2, w7_τ23, st_s, q21_1]) | fail)), (show 9 = 0 → J_ip (σ.1 7) (σ.1 6) (σ.1 37) (σ.2.1 14) (σ.2.1 15) (σ.2.1 16) (σ.2.1 19) from by (first | (intro z; exfalso; omega) | (intro _; exact IPn) | fail)), ag⟩
  ·
    refine ⟨(show 0 ≤ n1 ∧ n1 < 1000 from by (first | omega | (simp only [st_s] <;> omega) | assumption | omega | fail)), ?_⟩
    intro x3 r_x3 e_x3
    have b_x3 : (-1) ≤ x3 ∧ x3 ≤ 1499 := by rw [e_x3]; exact hT.2 19 _
    refine ⟨fun c4 => ?_, fun c4 => ?_⟩
    ·
      refine h21 _ _ ?_
      refine ⟨_, K_X9_isKnown hT (show -1 ≤ n1 from by (first | omega | (simp only [st_s] <;> omega) | assumption | omega | fail)) (show n1 < 1000 from by (first | omega | (simp only [st_s] <;> omega) | assumption | omega | fail)), ?_⟩
      intro x6 r_x6 hq
      obtain ⟨q5_1, q5_2, q5_3, q5_4⟩ := hq
      replace q5_1 : 0 ≤ x6 ∧ x6 ≤ 1 := q5_1
      replace q5_2 : ¬ x6 = 0 → 0 ≤ n1 := q5_2
      replace q5_3 : ¬ x6 = 0 → σ.2.1 8 n1 = 0 ∨ ¬ σ.2.1 18 n1 = 0 := q5_3
      replace q5_4 : 0 ≤ n1 → (σ.2.1 8 n1 = 0 ∨ ¬ σ.2.1 18 n1 = 0) → ¬ x6 = 0 := q5_4
      refine ⟨fun c8 => ?_, fun c8 => ?_⟩
      ·
        refine ⟨(show 0 ≤ n1 ∧ n1 < 1000 from by (first | omega | (simp only [st_s] <;> omega) | assumption | omega | fail)), ?_⟩
        intro x10 r_x10 e_x10
        have b_x10 : 0 ≤ x10 ∧ x10 ≤ 1 := by rw [e_x10]; exact hT.2 8 _
        refine ⟨fun c11 => ?_, fun c11 => ?_⟩
        ·
          intro x12 r_x12 e_x12
          have b_x12 : (-1) ≤ x12 ∧ x12 ≤ 1499 := by rw [e_x12]; exact hT.2 9 _
          have ff := p7 n1 (by omega) (by omega)
          rw [← e_x12] at ff
          refine ⟨fun c13 => ?_, fun c13 => ?_⟩
          ·
            refine h95 _ _ _ ?_
            refine ⟨_, K2_X3_append hT (show 0 ≤ n1 from by (first | omega | (simp only [st_s] <;> omega) | assumption | omega | fail)) (show n1 < 1000 from by (first | omega | (simp only [st_s] <;> omega) | assumption | omega | fail)) (show -1 ≤ (σ.1 7) from by (first | omega | (simp only [st_s] <;> omega) | assumption | omega | fail)) (show (σ.1 7) < 1500 from by (first | omega | (simp only [st_s] <;> omega) | assumption | omega | fail)) (show (σ.1 6) < 30000 from by (first | omega | (simp only [st_s] <;> omega) | assumption | omega | fail)) (show (σ.1 7) < 1500 from by (first | omega | (simp only [st_s] <;> omega) | assumption | omega | fail)), ?_⟩
            intro τ23 hn_τ23 hf_τ23 hq
            obtain ⟨hT, q21_1, q21_2, q21_3, q21_4, q21_5⟩ := hq
            replace q21_1 : (τ23.1 6) = (σ.1 6) + 1 := q21_1
            replace q21_2 : τ23.2.1 14 = st (σ.2.1 14) ((σ.1 7) + 1) ((σ.1 6) + 1) := q21_2
            replace q21_3 : τ23.2.1 15 = st (σ.2.1 15) (σ.1 6) n1 := q21_3
            replace q21_4 : τ23.2.1 16 = st (σ.2.1 16) (σ.1 6) (σ.1 7) := q21_4
            replace q21_5 : c_ag σ τ23 := q21_5
            replace ag : c_ag σ τ23 := ag_t ag q21_5 rfl
            have w3_τ23 : τ23.1 3 = σ.1 3 := hf_τ23.1 3 (by decide)
            have w5_τ23 : τ23.1 5 = σ.1 5 := hf_τ23.1 5 (by decide)
            have w7_τ23 : τ23.1 7 = σ.1 7 := hf_τ23.1 7 (by decide)
            have w13_τ23 : τ23.1 13 = σ.1 13 := hf_τ23.1 13 (by decide)
            have w14_τ23 : τ23.1 14 = σ.1 14 := hf_τ23.1 14 (by decide)
            have w15_τ23 : τ23.1 15 = σ.1 15 := hf_τ23.1 15 (by decide)
            have w16_τ23 : τ23.1 16 = σ.1 16 := hf_τ23.1 16 (by decide)
            have w37_τ23 : τ23.1 37 = σ.1 37 := hf_τ23.1 37 (by decide)
            have g8_τ23 : τ23.2.1 8 = σ.2.1 8 := hf_τ23.2.1 8 (by decide)
            have g9_τ23 : τ23.2.1 9 = σ.2.1 9 := hf_τ23.2.1 9 (by decide)
            have g19_τ23 : τ23.2.1 19 = σ.2.1 19 := hf_τ23.2.1 19 (by decide)
            have W3 : τ23.1 3 = σ.1 3 := by first | exact w3_τ23.trans W3 | omega
            have W5 : τ23.1 5 = σ.1 5 := by first | exact w5_τ23.trans W5 | omega
            have W7 : τ23.1 7 = σ.1 7 := by first | exact w7_τ23.trans W7 | omega
            have W13 : τ23.1 13 = σ.1 13 := by first | exact w13_τ23.trans W13 | omega
            have W14 : τ23.1 14 = σ.1 14 := by first | exact w14_τ23.trans W14 | omega
            have W15 : τ23.1 15 = σ.1 15 := by first | exact w15_τ23.trans W15 | omega
            have W16 : τ23.1 16 = σ.1 16 := by first | exact w16_τ23.trans W16 | omega
            have W37 : τ23.1 37 = σ.1 37 := by first | exact w37_τ23.trans W37 | omega
            have G8 : τ23.2.1 8 = σ.2.1 8 := (g8_τ23).trans G8
            have G9 : τ23.2.1 9 = σ.2.1 9 := (g9_τ23).trans G9
            have G19 : τ23.2.1 19 = σ.2.1 19 := (g19_τ23).trans G19
            have A8 : ∀ j, 0 ≤ τ23.2.1 8 j ∧ τ23.2.1 8 j ≤ 1 := fun j => hT.2 8 j
            have A9 : ∀ j, (-1) ≤ τ23.2.1 9 j ∧ τ23.2.1 9 j ≤ 1499 := fun j => hT.2 9 j
            have A14 : ∀ j, 0 ≤ τ23.2.1 14 j ∧ τ23.2.1 14 j ≤ 30000 := fun j => hT.2 14 j
            have A15 : ∀ j, 0 ≤ τ23.2.1 15 j ∧ τ23.2.1 15 j ≤ 999 := fun j => hT.2 15 j
            have A16 : ∀ j, (-1) ≤ τ23.2.1 16 j ∧ τ23.2.1 16 j ≤ 1499 := fun j => hT.2 16 j
            have A19 : ∀ j, (-1) ≤ τ23.2.1 19 j ∧ τ23.2.1 19 j ≤ 1499 := fun j => hT.2 19 j
            have v3 : 0 ≤ τ23.1 3 ∧ τ23.1 3 ≤ 2500 := hT.1 3
            have v5 : 0 ≤ τ23.1 5 ∧ τ23.1 5 ≤ 1000 := hT.1 5
            have v6 : 0 ≤ τ23.1 6 ∧ τ23.1 6 ≤ 30000 := hT.1 6
            have v7 : 0 ≤ τ23.1 7 ∧ τ23.1 7 ≤ 1500 := hT.1 7
            have v13 : 0 ≤ τ23.1 13 ∧ τ23.1 13 ≤ 90000 := hT.1 13
            have v14 : 0 ≤ τ23.1 14 ∧ τ23.1 14 ≤ 20000 := hT.1 14
            have v15 : 0 ≤ τ23.1 15 ∧ τ23.1 15 ≤ 20000 := hT.1 15
            have v16 : 0 ≤ τ23.1 16 ∧ τ23.1 16 ≤ 20000 := hT.1 16
            have v37 : 0 ≤ τ23.1 37 ∧ τ23.1 37 ≤ 4 := hT.1 37
            have a14_7 : 0 ≤ τ23.2.1 14 (τ23.1 7) ∧ τ23.2.1 14 (τ23.1 7) ≤ 30000 := hT.2 14 _
            have av6 : σ.1 6 ≤ τ23.1 6 := ag.1 6 (by decide)
            have afn : σ.2.1 19 n1 < 0 := by first | (exfalso; omega) | (rw [← e_x3]; omega)
            have TX : J_vs (τ23.1 6) (τ23.1 5) (τ23.2.1 15) := by rw [q21_1, q21_3, w5_τ23]; exact J_vs_a TX (Int.le_refl _) (by omega)
            have IPn : J_ip (τ23.1 7) (τ23.1 6) (τ23.1 37) (τ23.2.1 14) (τ23.2.1 15) (τ23.2.1 16) (τ23.2.1 19) := by rw [q21_1, q21_2, q21_3, q21_4, w7_τ23, w37_τ23, g19_τ23]; exact J_ip_a IP_0 (st_n _ _ (by omega)) (Or.inr (Or.inr ⟨p10, p11, rfl⟩)) (fun _ _ => afn) (fun z => by exfalso; omega)
            exact ⟨hT, (show 0 ≤ 0 ∧ 0 ≤ 19 from by (first | omega | (simp only [st_s] <;> omega) | assumption | omega | fail)), (show J_vs (τ23.1 6) (τ23.1 5) (τ23.2.1 15) from TX), (show 0 = 0 → (τ23.1 6) = (σ.1 6) + 1 ∧ τ23.2.1 14 ((τ23.1 7) + 1) = (τ23.1 6) from by (first | (intro z; exfalso; omega) | (intro _; refine ⟨by omega, ?_⟩; rw [q21_2, w7_τ23, st_s, q21_1]) | fail)), (show 0 = 0 → J_ip (τ23.1 7) (τ23.1 6) (τ23.1 37) (τ23.2.1 14) (τ23.2.1 15) (τ23.2.1 16) (τ23.2.1 19) from by (first | (intro z; exfalso; omega) | (intro _; exact IPn) | fail)), ag⟩
          ·
            refine ⟨_, K_X3_typeOf hT (show 0 ≤ x12 from by (first | omega | (simp only [st_s] <;> omega) | assumption | omega | fail)) (show x12 ≤ 1500 from by (first | omega | (simp only [st_s] <;> omega) | assumption | omega | fail)) (show σ.2.1 14 x12 < 30000 from by (first | omega | (simp only [st_s] <;> omega) | assumption | omega | fail)), ?_⟩
            intro x15 r_x15 hq
            obtain ⟨q14_1, q14_2⟩ := hq
            replace q14_1 : x15 = σ.2.1 15 (σ.2.1 14 x12) := q14_1
            replace q14_2 : 0 ≤ x15 ∧ x15 ≤ 999 := q14_2
            refine ⟨_, K_X3_typeOf hT (show 0 ≤ (σ.1 7) from by (first | omega | (simp only [st_s] <;> omega) | assumption | omega | fail)) (show (σ.1 7) ≤ 1500 from by (first | omega | (simp only [st_s] <;> omega) | assumption | omega | fail)) (show σ.2.1 14 (σ.1 7) < 30000 from by (first | omega | (simp only [st_s] <;> omega) | assumption | omega | fail)), ?_⟩
            intro x18 r_x18 hq
            obtain ⟨q17_1, q17_2⟩ := hq
            replace q17_1 : x18 = σ.2.1 15 (σ.2.1 14 (σ.1 7)) := q17_1
            replace q17_2 : 0 ≤ x18 ∧ x18 ≤ 999 := q17_2
            refine ⟨fun c20 => ?_, fun c20 => ?_⟩
            ·
              refine h95 _ _ _ ?_
              refine ⟨_, K2_X3_append hT (show 0 ≤ n1 from by (first | omega | (simp only [st_s] <;> omega) | assumption | omega | fail)) (show n1 < 1000 from by (first | omega | (simp only [st_s] <;> omega) | assumption | omega | fail)) (show -1 ≤ (σ.1 7) from by (first | omega | (simp only [st_s] <;> omega) | assumption | omega | fail)) (show (σ.1 7) < 1500 from by (first | omega | (simp only [st_s] <;> omega) | assumption | omega | fail)) (show (σ.1 6) < 30000 from by (first | omega | (simp only [st_s] <;> omega) | assumption | omega | fail)) (show (σ.1 7) < 1500 from by (first | omega | (simp only [st_s] <;> omega) | assumption | omega | fail)), ?_⟩
              intro τ23 hn_τ23 hf_τ23 hq
              obtain ⟨hT, q21_1, q21_2, q21_3, q21_4, q21_5⟩ := hq
              replace q21_1 : (τ23.1 6) = (σ.1 6) + 1 := q21_1
              replace q21_2 : τ23.2.1 14 = st (σ.2.1 14) ((σ.1 7) + 1) ((σ.1 6) + 1) := q21_2
              replace q21_3 : τ23.2.1 15 = st (σ.2.1 15) (σ.1 6) n1 := q21_3
              replace q21_4 : τ23.2.1 16 = st (σ.2.1 16) (σ.1 6) (σ.1 7) := q21_4
              replace q21_5 : c_ag σ τ23 := q21_5
              replace ag : c_ag σ τ23 := ag_t ag q21_5 rfl
              have w3_τ23 : τ23.1 3 = σ.1 3 := hf_τ23.1 3 (by decide)
              have w5_τ23 : τ23.1 5 = σ.1 5 := hf_τ23.1 5 (by decide)
              have w7_τ23 : τ23.1 7 = σ.1 7 := hf_τ23.1 7 (by decide)
              have w13_τ23 : τ23.1 13 = σ.1 13 := hf_τ23.1 13 (by decide)
              have w14_τ23 : τ23.1 14 = σ.1 14 := hf_τ23.1 14 (by decide)
              have w15_τ23 : τ23.1 15 = σ.1 15 := hf_τ23.1 15 (by decide)
              have w16_τ23 : τ23.1 16 = σ.1 16 := hf_τ23.1 16 (by decide)
              have w37_τ23 : τ23.1 37 = σ.1 37 := hf_τ23.1 37 (by decide)
              have g8_τ23 : τ23.2.1 8 = σ.2.1 8 := hf_τ23.2.1 8 (by decide)
              have g9_τ23 : τ23.2.1 9 = σ.2.1 9 := hf_τ23.2.1 9 (by decide)
              have g19_τ23 : τ23.2.1 19 = σ.2.1 19 := hf_τ23.2.1 19 (by decide)
              have W3 : τ23.1 3 = σ.1 3 := by first | exact w3_τ23.trans W3 | omega
              have W5 : τ23.1 5 = σ.1 5 := by first | exact w5_τ23.trans W5 | omega
              have W7 : τ23.1 7 = σ.1 7 := by first | exact w7_τ23.trans W7 | omega
              have W13 : τ23.1 13 = σ.1 13 := by first | exact w13_τ23.trans W13 | omega
              have W14 : τ23.1 14 = σ.1 14 := by first | exact w14_τ23.trans W14 | omega
              have W15 : τ23.1 15 = σ.1 15 := by first | exact w15_τ23.trans W15 | omega
              have W16 : τ23.1 16 = σ.1 16 := by first | exact w16_τ23.trans W16 | omega
              have W37 : τ23.1 37 = σ.1 37 := by first | exact w37_τ23.trans W37 | omega
              have G8 : τ23.2.1 8 = σ.2.1 8 := (g8_τ23).trans G8
              have G9 : τ23.2.1 9 = σ.2.1 9 := (g9_τ23).trans G9
              have G19 : τ23.2.1 19 = σ.2.1 19 := (g19_τ23).trans G19
              have A8 : ∀ j, 0 ≤ τ23.2.1 8 j ∧ τ23.2.1 8 j ≤ 1 := fun j => hT.2 8 j
              have A9 : ∀ j, (-1) ≤ τ23.2.1 9 j ∧ τ23.2.1 9 j ≤ 1499 := fun j => hT.2 9 j
              have A14 : ∀ j, 0 ≤ τ23.2.1 14 j ∧ τ23.2.1 14 j ≤ 30000 := fun j => hT.2 14 j
              have A15 : ∀ j, 0 ≤ τ23.2.1 15 j ∧ τ23.2.1 15 j ≤ 999 := fun j => hT.2 15 j
              have A16 : ∀ j, (-1) ≤ τ23.2.1 16 j ∧ τ23.2.1 16 j ≤ 1499 := fun j => hT.2 16 j
              have A19 : ∀ j, (-1) ≤ τ23.2.1 19 j ∧ τ23.2.1 19 j ≤ 1499 := fun j => hT.2 19 j
              have v3 : 0 ≤ τ23.1 3 ∧ τ23.1 3 ≤ 2500 := hT.1 3
              have v5 : 0 ≤ τ23.1 5 ∧ τ23.1 5 ≤ 1000 := hT.1 5
              have v6 : 0 ≤ τ23.1 6 ∧ τ23.1 6 ≤ 30000 := hT.1 6
              have v7 : 0 ≤ τ23.1 7 ∧ τ23.1 7 ≤ 1500 := hT.1 7
              have v13 : 0 ≤ τ23.1 13 ∧ τ23.1 13 ≤ 90000 := hT.1 13
              have v14 : 0 ≤ τ23.1 14 ∧ τ23.1 14 ≤ 20000 := hT.1 14
              have v15 : 0 ≤ τ23.1 15 ∧ τ23.1 15 ≤ 20000 := hT.1 15
              have v16 : 0 ≤ τ23.1 16 ∧ τ23.1 16 ≤ 20000 := hT.1 16
              have v37 : 0 ≤ τ23.1 37 ∧ τ23.1 37 ≤ 4 := hT.1 37
              have a14_7 : 0 ≤ τ23.2.1 14 (τ23.1 7) ∧ τ23.2.1 14 (τ23.1 7) ≤ 30000 := hT.2 14 _
              have av6 : σ.1 6 ≤ τ23.1 6 := ag.1 6 (by decide)
              have afn : σ.2.1 19 n1 < 0 := by first | (exfalso; omega) | (rw [← e_x3]; omega)
              have TX : J_vs (τ23.1 6) (τ23.1 5) (τ23.2.1 15) := by rw [q21_1, q21_3, w5_τ23]; exact J_vs_a TX (Int.le_refl _) (by omega)
              have IPn : J_ip (τ23.1 7) (τ23.1 6) (τ23.1 37) (τ23.2.1 14) (τ23.2.1 15) (τ23.2.1 16) (τ23.2.1 19) := by rw [q21_1, q21_2, q21_3, q21_4, w7_τ23, w37_τ23, g19_τ23]; exact J_ip_a IP_0 (st_n _ _ (by omega)) (Or.inr (Or.inr ⟨p10, p11, rfl⟩)) (fun _ _ => afn) (fun z => by exfalso; omega)
              exact ⟨hT, (show 0 ≤ 0 ∧ 0 ≤ 19 from by (first | omega | (simp only [st_s] <;> omega) | assumption | omega | fail)), (show J_vs (τ23.1 6) (τ23.1 5) (τ23.2.1 15) from TX), (show 0 = 0 → (τ23.1 6) = (σ.1 6) + 1 ∧ τ23.2.1 14 ((τ23.1 7) + 1) = (τ23.1 6) from by (first | (intro z; exfalso; omega) | (intro _; refine ⟨by omega, ?_⟩; rw [q21_2, w7_τ23, st_s, q21_1]) | fail)), (show 0 = 0 → J_ip (τ23.1 7) (τ23.1 6) (τ23.1 37) (τ23.2.1 14) (τ23.2.1 15) (τ23.2.1 16) (τ23.2.1 19) from by (first | (intro z; exfalso; omega) | (intro _; exact IPn) | fail)), ag⟩
            ·
              exact ⟨hT, (show 0 ≤ 12 ∧ 12 ≤ 19 from by (first | omega | (simp only [st_s] <;> omega) | assumption | omega | fail)), (show J_vs (σ.1 6) (σ.1 5) (σ.2.1 15) from TX), (show 12 = 0 → (σ.1 6) = (σ.1 6) + 1 ∧ σ.2.1 14 ((σ.1 7) + 1) = (σ.1 6) from by (first | (intro z; exfalso; omega) | (intro _; refine ⟨by omega, ?_⟩; rw [q21_2, w7_τ23, st_s, q21_1]) | fail)), (show 12 = 0 → J_ip (σ.1 7) (σ.1 6) (σ.1 37) (σ.2.1 14) (σ.2.1 15) (σ.2.1 16) (σ.2.1 19) from by (first | (intro z; exfalso; omega) | (intro _; exact IPn) | fail)), ag⟩
        ·
          exact ⟨hT, (show 0 ≤ 10 ∧ 10 ≤ 19 from by (first | omega | (simp only [st_s] <;> omega) | assumption | omega | fail)), (show J_vs (σ.1 6) (σ.1 5) (σ.2.1 15) from TX), (show 10 = 0 → (σ.1 6) = (σ.1 6) + 1 ∧ σ.2.1 14 ((σ.1 7) + 1) = (σ.1 6) from by (first | (intro z; exfalso; omega) | (intro _; refine ⟨by omega, ?_⟩; rw [q21_2, w7_τ23, st_s, q21_1]) | fail)), (show 10 = 0 → J_ip (σ.1 7) (σ.1 6) (σ.1 37) (σ.2.1 14) (σ.2.1 15) (σ.2.1 16) (σ.2.1 19) from by (first | (intro z; exfalso; omega) | (intro _; exact IPn) | fail)), ag⟩
      ·
        exact ⟨hT, (show 0 ≤ 9 ∧ 9 ≤ 19 from by (first | omega | (simp only [st_s] <;> omega) | assumption | omega | fail)), (show J_vs (σ.1 6) (σ.1 5) (σ.2.1 15) from TX), (show 9 = 0 → (σ.1 6) = (σ.1 6) + 1 ∧ σ.2.1 14 ((σ.1 7) + 1) = (σ.1 6) from by (first | (intro z; exfalso; omega) | (intro _; refine ⟨by omega, ?_⟩; rw [q21_2, w7_τ23, st_s, q21_1]) | fail)), (show 9 = 0 → J_ip (σ.1 7) (σ.1 6) (σ.1 37) (σ.2.1 14) (σ.2.1 15) (σ.2.1 16) (σ.2.1 19) from by (first | (intro z; exfalso; omega) | (intro _; exact IPn) | fail)), ag⟩
    ·
      exact ⟨hT, (show 0 ≤ 7 ∧ 7 ≤ 19 from by (first | omega | (simp only [st_s] <;> omega) | assumption | omega | fail)), (show J_vs (σ.1 6) (σ.1 5) (σ.2.1 15) from TX), (show 7 = 0 → (σ.1 6) = (σ.1 6) + 1 ∧ σ.2.1 14 ((σ.1 7) + 1) = (σ.1 6) from by (first | (intro z; exfalso; omega) | (intro _; refine ⟨by omega, ?_⟩; rw [q21_2, w7_τ23, st_s, q21_1]) | fail)), (show 7 = 0 → J_ip (σ.1 7) (σ.1 6) (σ.1 37) (σ.2.1 14) (σ.2.1 15) (σ.2.1 16) (σ.2.1 19) from by (first | (intro z; exfalso; omega) | (intro _; exact IPn) | fail)), ag⟩
set_option maxHeartbeats 1000000 in
theorem K_X7_firstSymbol {n1 : Int} {σ : S0} (hT : c_T σ) (p1 : -1 ≤ n1) (p2 : n1 < 1000) (p3 : n1 < (σ.1 5)) (p4 : σ.2.1 14 (σ.1 7) = (σ.1 6)) (p5 : (σ.1 6) < 30000) (p6 : (σ.1 7) < 1500) (p7 : J_vs (σ.1 6) (σ.1 5) (σ.2.1 15)) (p8 : J_rks (σ.1 5) (σ.1 4) (σ.2.1 10) (σ.2.1 11)) (p9 : J_ip (σ.1 7) (σ.1 6) (σ.1 37) (σ.2.1 14) (σ.2.1 15) (σ.2.1 16) (σ.2.1 19)) : W_X7_firstSymbol n1 σ (fun (x : Int) (τ : S0) => (c_T τ) ∧ (0 ≤ x ∧ x ≤ 19) ∧ (J_vs (τ.1 6) (τ.1 5) (τ.2.1 15)) ∧ (J_rks (τ.1 5) (τ.1 4) (τ.2.1 10) (τ.2.1 11)) ∧ (j_rr ((σ.1 5)) (σ.2.1 10) (τ.2.1 10)) ∧ (x = 0 → (τ.1 6) = (σ.1 6) + 1 ∧ τ.2.1 14 ((τ.1 7) + 1) = (τ.1 6) ∧ 0 ≤ τ.2.1 10 (τ.2.1 15 (τ.2.1 14 (τ.1 7)))) ∧ (x = 0 → J_ip (τ.1 7) (τ.1 6) (τ.1 37) (τ.2.1 14) (τ.2.1 15) (τ.2.1 16) (τ.2.1 19)) ∧ (c_Y σ τ) ∧ (c_ag σ τ)) := by
  have A8 : ∀ j, 0 ≤ σ.2.1 8 j ∧ σ.2.1 8 j ≤ 1 := fun j => hT.2 8 j
  have A10 : ∀ j, (-1) ≤ σ.2.1 10 j ∧ σ.2.1 10 j ≤ 99 := fun j => hT.2 10 j
  have A11 : ∀ j, 0 ≤ σ.2.1 11 j ∧ σ.2.1 11 j ≤ 999 := fun j => hT.2 11 j
  have A14 : ∀ j, 0 ≤ σ.2.1 14 j ∧ σ.2.1 14 j ≤ 30000 := fun j => hT.2 14 j
  have A15 : ∀ j, 0 ≤ σ.2.1 15 j ∧ σ.2.1 15 j ≤ 999 := fun j => hT.2 15 j
  have A16 : ∀ j, (-1) ≤ σ.2.1 16 j ∧ σ.2.1 16 j ≤ 1499 := fun j => hT.2 16 j
  have A19 : ∀ j, (-1) ≤ σ.2.1 19 j ∧ σ.2.1 19 j ≤ 1499 := fun j => hT.2 19 j
  have A20 : ∀ j, 0 ≤ σ.2.1 20 j ∧ σ.2.1 20 j ≤ 999 := fun j => hT.2 20 j
  have A22 : ∀ j, 0 ≤ σ.2.1 22 j ∧ σ.2.1 22 j ≤ 1499 := fun j => hT.2 22 j
  have v3 : 0 ≤ σ.1 3 ∧ σ.1 3 ≤ 2500 := hT.1 3
  have v4 : 0 ≤ σ.1 4 ∧ σ.1 4 ≤ 100 := hT.1 4
  have v5 : 0 ≤ σ.1 5 ∧ σ.1 5 ≤ 1000 := hT.1 5
  have v6 : 0 ≤ σ.1 6 ∧ σ.1 6 ≤ 30000 := hT.1 6
  have v7 : 0 ≤ σ.1 7 ∧ σ.1 7 ≤ 1500 := hT.1 7
  have v13 : 0 ≤ σ.1 13 ∧ σ.1 13 ≤ 90000 := hT.1 13
  have v14 : 0 ≤ σ.1 14 ∧ σ.1 14 ≤ 20000 := hT.1 14
  have v15 : 0 ≤ σ.1 15 ∧ σ.1 15 ≤ 20000 := hT.1 15
  have v16 : 0 ≤ σ.1 16 ∧ σ.1 16 ≤ 20000 := hT.1 16
  have v37 : 0 ≤ σ.1 37 ∧ σ.1 37 ≤ 4 := hT.1 37
  have a14_7 : 0 ≤ σ.2.1 14 (σ.1 7) ∧ σ.2.1 14 (σ.1 7) ≤ 30000 := hT.2 14 _
  have W3 : σ.1 3 = σ.1 3 := rfl
  have W5 : σ.1 5 = σ.1 5 := rfl
  have W7 : σ.1 7 = σ.1 7 := rfl
  have W13 : σ.1 13 = σ.1 13 := rfl
  have W14 : σ.1 14 = σ.1 14 := rfl
  have W15 : σ.1 15 = σ.1 15 := rfl
  have W16 : σ.1 16 = σ.1 16 := rfl
  have W37 : σ.1 37 = σ.1 37 := rfl
  have G8 : σ.2.1 8 = σ.2.1 8 := rfl
  have G19 : σ.2.1 19 = σ.2.1 19 := rfl
  have G20 : σ.2.1 20 = σ.2.1 20 := rfl
  have G22 : σ.2.1 22 = σ.2.1 22 := rfl
  have G25 : σ.2.1 25 = σ.2.1 25 := rfl
  have ag : c_ag σ σ := ag_0 σ
  intro P22 P54 h22 h54
  have A10o := A10
  have TX : J_vs (σ.1 6) (σ.1 5) (σ.2.1 15) := p7
  have RKS : J_rks (σ.1 5) (σ.1 4) (σ.2.1 10) (σ.2.1 11) := p8
  have IP : J_ip (σ.1 7) (σ.1 6) (σ.1 37) (σ.2.1 14) (σ.2.1 15) (σ.2.1 16) (σ.2.1 19) := p9
  have IP_0 := IP
  have RKS_0 := RKS
  have TX_0 := TX
  refine ⟨fun c1 => ?_, fun c1 => ?_⟩
  ·
    refine h22 _ _ _ ?_
    refine ⟨fun c5 => ?_, fun c5 => ?_⟩
    ·
      refine h54 _ _ _ ?_
      refine ⟨fun c10 => ?_, fun c10 => ?_⟩
      ·
        refine ⟨_, K2_X3_giveRank hT (show 0 ≤ n1 from by (first | omega | (simp only [st_s] <;> omega) | assumption | omega | fail)) (show n1 < 1000 from by (first | omega | (simp only [st_s] <;> omega) | assumption | omega | fail)) (show σ.2.1 10 n1 = -1 → (σ.1 4) < 100 from by (first | omega | (simp only [st_s] <;> omega) | assumption | omega | fail)), ?_⟩
        intro τ13 hn_τ13 hf_τ13 hq
        obtain ⟨hT, q11_1, q11_2⟩ := hq
        replace q11_1 : ¬ σ.2.1 10 n1 = -1 → τ13.2.1 10 = σ.2.1 10 ∧ τ13.2.1 11 = σ.2.1 11 ∧ (τ13.1 4) = (σ.1 4) := q11_1
        replace q11_2 : σ.2.1 10 n1 = -1 → τ13.2.1 10 = st (σ.2.1 10) n1 (σ.1 4) ∧ τ13.2.1 11 = st (σ.2.1 11) (σ.1 4) n1 ∧ (τ13.1 4) = (σ.1 4) + 1 := q11_2
        replace ag : c_ag σ τ13 := ag_r ag hf_τ13 rfl rfl
        have w3_τ13 : τ13.1 3 = σ.1 3 := hf_τ13.1 3 (by decide)
        have w5_τ13 : τ13.1 5 = σ.1 5 := hf_τ13.1 5 (by decide)
        have w6_τ13 : τ13.1 6 = σ.1 6 := hf_τ13.1 6 (by decide)
        have w7_τ13 : τ13.1 7 = σ.1 7 := hf_τ13.1 7 (by decide)
        have w13_τ13 : τ13.1 13 = σ.1 13 := hf_τ13.1 13 (by decide)
        have w14_τ13 : τ13.1 14 = σ.1 14 := hf_τ13.1 14 (by decide)
        have w15_τ13 : τ13.1 15 = σ.1 15 := hf_τ13.1 15 (by decide)
        have w16_τ13 : τ13.1 16 = σ.1 16 := hf_τ13.1 16 (by decide)
        have w37_τ13 : τ13.1 37 = σ.1 37 := hf_τ13.1 37 (by decide)
        have g8_τ13 : τ13.2.1 8 = σ.2.1 8 := hf_τ13.2.1 8 (by decide)
        have g14_τ13 : τ13.2.1 14 = σ.2.1 14 := hf_τ13.2.1 14 (by decide)
        have g15_τ13 : τ13.2.1 15 = σ.2.1 15 := hf_τ13.2.1 15 (by decide)
        have g16_τ13 : τ13.2.1 16 = σ.2.1 16 := hf_τ13.2.1 16 (by decide)
        have g19_τ13 : τ13.2.1 19 = σ.2.1 19 := hf_τ13.2.1 19 (by decide)
        have g20_τ13 : τ13.2.1 20 = σ.2.1 20 := hf_τ13.2.1 20 (by decide)
        have g22_τ13 : τ13.2.1 22 = σ.2.1 22 := hf_τ13.2.1 22 (by decide)
        have g25_τ13 : τ13.2.1 25 = σ.2.1 25 := hf_τ13.2.1 25 (by decide)
        have W3 : τ13.1 3 = σ.1 3 := by first | exact w3_τ13.trans W3 | omega
        have W5 : τ13.1 5 = σ.1 5 := by first | exact w5_τ13.trans W5 | omega
        have W7 : τ13.1 7 = σ.1 7 := by first | exact w7_τ13.trans W7 | omega
        have W13 : τ13.1 13 = σ.1 13 := by first | exact w13_τ13.trans W13 | omega
        have W14 : τ13.1 14 = σ.1 14 := by first | exact w14_τ13.trans W14 | omega
        have W15 : τ13.1 15 = σ.1 15 := by first | exact w15_τ13.trans W15 | omega
        have W16 : τ13.1 16 = σ.1 16 := by first | exact w16_τ13.trans W16 | omega
        have W37 : τ13.1 37 = σ.1 37 := by first | exact w37_τ13.trans W37 | omega
        have G8 : τ13.2.1 8 = σ.2.1 8 := (g8_τ13).trans G8
        have G19 : τ13.2.1 19 = σ.2.1 19 := (g19_τ13).trans G19
        have G20 : τ13.2.1 20 = σ.2.1 20 := (g20_τ13).trans G20
        have G22 : τ13.2.1 22 = σ.2.1 22 := (g22_τ13).trans G22
        have G25 : τ13.2.1 25 = σ.2.1 25 := (g25_τ13).trans G25
        have y14_7_τ13 : τ13.2.1 14 (τ13.1 7) = (σ.2.1 14) (σ.1 7) := by rw [g14_τ13, w7_τ13]
        have TX : J_vs (τ13.1 6) (τ13.1 5) (τ13.2.1 15) := by rw [show (J_vs (τ13.1 6) (τ13.1 5) (τ13.2.1 15)) = (J_vs (σ.1 6) (σ.1 5) (σ.2.1 15)) from by rw [w5_τ13, w6_τ13, g15_τ13]]; exact TX
        have IP : J_ip (τ13.1 7) (τ13.1 6) (τ13.1 37) (τ13.2.1 14) (τ13.2.1 15) (τ13.2.1 16) (τ13.2.1 19) := by rw [show (J_ip (τ13.1 7) (τ13.1 6) (τ13.1 37) (τ13.2.1 14) (τ13.2.1 15) (τ13.2.1 16) (τ13.2.1 19)) = (J_ip (σ.1 7) (σ.1 6) (σ.1 37) (σ.2.1 14) (σ.2.1 15) (σ.2.1 16) (σ.2.1 19)) from by rw [w6_τ13, w7_τ13, w37_τ13, g14_τ13, g15_τ13, g16_τ13, g19_τ13]]; exact IP
        have A8 : ∀ j, 0 ≤ τ13.2.1 8 j ∧ τ13.2.1 8 j ≤ 1 := fun j => hT.2 8 j
        have A10 : ∀ j, (-1) ≤ τ13.2.1 10 j ∧ τ13.2.1 10 j ≤ 99 := fun j => hT.2 10 j
        have A11 : ∀ j, 0 ≤ τ13.2.1 11 j ∧ τ13.2.1 11 j ≤ 999 := fun j => hT.2 11 j
        have A14 : ∀ j, 0 ≤ τ13.2.1 14 j ∧ τ13.2.1 14 j ≤ 30000 := fun j => hT.2 14 j
        have A15 : ∀ j, 0 ≤ τ13.2.1 15 j ∧ τ13.2.1 15 j ≤ 999 := fun j => hT.2 15 j
        have A16 : ∀ j, (-1) ≤ τ13.2.1 16 j ∧ τ13.2.1 16 j ≤ 1499 := fun j => hT.2 16 j
        have A19 : ∀ j, (-1) ≤ τ13.2.1 19 j ∧ τ13.2.1 19 j ≤ 1499 := fun j => hT.2 19 j
        have A20 : ∀ j, 0 ≤ τ13.2.1 20 j ∧ τ13.2.1 20 j ≤ 999 := fun j => hT.2 20 j
        have A22 : ∀ j, 0 ≤ τ13.2.1 22 j ∧ τ13.2.1 22 j ≤ 1499 := fun j => hT.2 22 j
        have v3 : 0 ≤ τ13.1 3 ∧ τ13.1 3 ≤ 2500 := hT.1 3
        have v4 : 0 ≤ τ13.1 4 ∧ τ13.1 4 ≤ 100 := hT.1 4
        have v5 : 0 ≤ τ13.1 5 ∧ τ13.1 5 ≤ 1000 := hT.1 5
        have v6 : 0 ≤ τ13.1 6 ∧ τ13.1 6 ≤ 30000 := hT.1 6
        have v7 : 0 ≤ τ13.1 7 ∧ τ13.1 7 ≤ 1500 := hT.1 7
        have v13 : 0 ≤ τ13.1 13 ∧ τ13.1 13 ≤ 90000 := hT.1 13
        have v14 : 0 ≤ τ13.1 14 ∧ τ13.1 14 ≤ 20000 := hT.1 14
        have v15 : 0 ≤ τ13.1 15 ∧ τ13.1 15 ≤ 20000 := hT.1 15
        have v16 : 0 ≤ τ13.1 16 ∧ τ13.1 16 ≤ 20000 := hT.1 16
        have v37 : 0 ≤ τ13.1 37 ∧ τ13.1 37 ≤ 4 := hT.1 37
        have a14_7 : 0 ≤ τ13.2.1 14 (τ13.1 7) ∧ τ13.2.1 14 (τ13.1 7) ≤ 30000 := hT.2 14 _
        have av6 : σ.1 6 ≤ τ13.1 6 := ag.1 6 (by decide)
        have RK2 : J_rks (τ13.1 5) (τ13.1 4) (τ13.2.1 10) (τ13.2.1 11) ∧ 0 ≤ τ13.2.1 10 n1 ∧ j_rr (σ.1 5) (σ.2.1 10) (τ13.2.1 10) ∧ j_eq (σ.1 4) (σ.2.1 11) (τ13.2.1 11) ∧ σ.1 4 ≤ τ13.1 4 := by by_cases z : σ.2.1 10 n1 = -1; (obtain ⟨e1, e2, e3⟩ := q11_2 z; rw [e1, e2, e3, w5_τ13, st_s]; exact ⟨J_rks_g RKS_0 (by omega) (by omega) z, by omega, j_rrs (by omega), j_eqs (j_eq0 _ _) (Int.le_refl _), by omega⟩); (obtain ⟨e1, e2, e3⟩ := q11_1 z; rw [e1, e2, e3, w5_τ13]; exact ⟨RKS_0, by have := A10o n1; omega, j_rr0 _ _, j_eq0 _ _, Int.le_refl _⟩)
        obtain ⟨RKS, rk0, RR0, RY0, RZ0⟩ := RK2
        refine ⟨_, K2_X3_append hT (show 0 ≤ n1 from by (first | omega | (simp only [st_s] <;> omega) | assumption | omega | fail)) (show n1 < 1000 from by (first | omega | (simp only [st_s] <;> omega) | assumption | omega | fail)) (show -1 ≤ (-1 : Int) from by (first | omega | (simp only [st_s] <;> omega) | assumption | omega | fail)) (show (-1 : Int) < 1500 from by (first | omega | (simp only [st_s] <;> omega) | assumption | omega | fail)) (show (τ13.1 6) < 30000 from by (first | omega | (simp only [st_s] <;> omega) | assumption | omega | fail)) (show (τ13.1 7) < 1500 from by (first | omega | (simp only [st_s] <;> omega) | assumption | omega | fail)), ?_⟩
        intro τ16 hn_τ16 hf_τ16 hq
        obtain ⟨hT, q14_1, q14_2, q14_3, q14_4, q14_5⟩ := hq
        replace q14_1 : (τ16.1 6) = (τ13.1 6) + 1 := q14_1
        replace q14_2 : τ16.2.1 14 = st (τ13.2.1 14) ((τ13.1 7) + 1) ((τ13.1 6) + 1) := q14_2
        replace q14_3 : τ16.2.1 15 = st (τ13.2.1 15) (τ13.1 6) n1 := q14_3
        replace q14_4 : τ16.2.1 16 = st (τ13.2.1 16) (τ13.1 6) (-1 : Int) := q14_4
        replace q14_5 : c_ag τ13 τ16 := q14_5
        replace ag : c_ag σ τ16 := ag_t ag q14_5 rfl
        have w3_τ16 : τ16.1 3 = τ13.1 3 := hf_τ16.1 3 (by decide)
        have w4_τ16 : τ16.1 4 = τ13.1 4 := hf_τ16.1 4 (by decide)
        have w5_τ16 : τ16.1 5 = τ13.1 5 := hf_τ16.1 5 (by decide)
        have w7_τ16 : τ16.1 7 = τ13.1 7 := hf_τ16.1 7 (by decide)
        have w13_τ16 : τ16.1 13 = τ13.1 13 := hf_τ16.1 13 (by decide)
        have w14_τ16 : τ16.1 14 = τ13.1 14 := hf_τ16.1 14 (by decide)
        have w15_τ16 : τ16.1 15 = τ13.1 15 := hf_τ16.1 15 (by decide)
        have w16_τ16 : τ16.1 16 = τ13.1 16 := hf_τ16.1 16 (by decide)
        have w37_τ16 : τ16.1 37 = τ13.1 37 := hf_τ16.1 37 (by decide)
        have g8_τ16 : τ16.2.1 8 = τ13.2.1 8 := hf_τ16.2.1 8 (by decide)
        have g10_τ16 : τ16.2.1 10 = τ13.2.1 10 := hf_τ16.2.1 10 (by decide)
        have g11_τ16 : τ16.2.1 11 = τ13.2.1 11 := hf_τ16.2.1 11 (by decide)
        have g19_τ16 : τ16.2.1 19 = τ13.2.1 19 := hf_τ16.2.1 19 (by decide)
        have g20_τ16 : τ16.2.1 20 = τ13.2.1 20 := hf_τ16.2.1 20 (by decide)
        have g22_τ16 : τ16.2.1 22 = τ13.2.1 22 := hf_τ16.2.1 22 (by decide)
        have g25_τ16 : τ16.2.1 25 = τ13.2.1 25 := hf_τ16.2.1 25 (by decide)
        have W3 : τ16.1 3 = σ.1 3 := by first | exact w3_τ16.trans W3 | omega
        have W5 : τ16.1 5 = σ.1 5 := by first | exact w5_τ16.trans W5 | omega
        have W7 : τ16.1 7 = σ.1 7 := by first | exact w7_τ16.trans W7 | omega
        have W13 : τ16.1 13 = σ.1 13 := by first | exact w13_τ16.trans W13 | omega
        have W14 : τ16.1 14 = σ.1 14 := by first | exact w14_τ16.trans W14 | omega
        have W15 : τ16.1 15 = σ.1 15 := by first | exact w15_τ16.trans W15 | omega
        have W16 : τ16.1 16 = σ.1 16 := by first | exact w16_τ16.trans W16 | omega
        have W37 : τ16.1 37 = σ.1 37 := by first | exact w37_τ16.trans W37 | omega
        have G8 : τ16.2.1 8 = σ.2.1 8 := (g8_τ16).trans G8
        have G19 : τ16.2.1 19 = σ.2.1 19 := (g19_τ16).trans G19
        have G20 : τ16.2.1 20 = σ.2.1 20 := (g20_τ16).trans G20
        have G22 : τ16.2.1 22 = σ.2.1 22 := (g22_τ16).trans G22
        have G25 : τ16.2.1 25 = σ.2.1 25 := (g25_τ16).trans G25
        have RKS : J_rks (τ16.1 5) (τ16.1 4) (τ16.2.1 10) (τ16.2.1 11) := by rw [show (J_rks (τ16.1 5) (τ16.1 4) (τ16.2.1 10) (τ16.2.1 11)) = (J_rks (τ13.1 5) (τ13.1 4) (τ13.2.1 10) (τ13.2.1 11)) from by rw [w4_τ16, w5_τ16, g10_τ16, g11_τ16]]; exact RKS
        have A8 : ∀ j, 0 ≤ τ16.2.1 8 j ∧ τ16.2.1 8 j ≤ 1 := fun j => hT.2 8 j
        have A10 : ∀ j, (-1) ≤ τ16.2.1 10 j ∧ τ16.2.1 10 j ≤ 99 := fun j => hT.2 10 j
        have A11 : ∀ j, 0 ≤ τ16.2.1 11 j ∧ τ16.2.1 11 j ≤ 999 := fun j => hT.2 11 j
        have A14 : ∀ j, 0 ≤ τ16.2.1 14 j ∧ τ16.2.1 14 j ≤ 30000 := fun j => hT.2 14 j
        have A15 : ∀ j, 0 ≤ τ16.2.1 15 j ∧ τ16.2.1 15 j ≤ 999 := fun j => hT.2 15 j
        have A16 : ∀ j, (-1) ≤ τ16.2.1 16 j ∧ τ16.2.1 16 j ≤ 1499 := fun j => hT.2 16 j
        have A19 : ∀ j, (-1) ≤ τ16.2.1 19 j ∧ τ16.2.1 19 j ≤ 1499 := fun j => hT.2 19 j
        have A20 : ∀ j, 0 ≤ τ16.2.1 20 j ∧ τ16.2.1 20 j ≤ 999 := fun j => hT.2 20 j
        have A22 : ∀ j, 0 ≤ τ16.2.1 22 j ∧ τ16.2.1 22 j ≤ 1499 := fun j => hT.2 22 j
        have v3 : 0 ≤ τ16.1 3 ∧ τ16.1 3 ≤ 2500 := hT.1 3
        have v4 : 0 ≤ τ16.1 4 ∧ τ16.1 4 ≤ 100 := hT.1 4
        have v5 : 0 ≤ τ16.1 5 ∧ τ16.1 5 ≤ 1000 := hT.1 5
        have v6 : 0 ≤ τ16.1 6 ∧ τ16.1 6 ≤ 30000 := hT.1 6
        have v7 : 0 ≤ τ16.1 7 ∧ τ16.1 7 ≤ 1500 := hT.1 7
        have v13 : 0 ≤ τ16.1 13 ∧ τ16.1 13 ≤ 90000 := hT.1 13
        have v14 : 0 ≤ τ16.1 14 ∧ τ16.1 14 ≤ 20000 := hT.1 14
        have v15 : 0 ≤ τ16.1 15 ∧ τ16.1 15 ≤ 20000 := hT.1 15
        have v16 : 0 ≤ τ16.1 16 ∧ τ16.1 16 ≤ 20000 := hT.1 16
        have v37 : 0 ≤ τ16.1 37 ∧ τ16.1 37 ≤ 4 := hT.1 37
        have a14_7 : 0 ≤ τ16.2.1 14 (τ16.1 7) ∧ τ16.2.1 14 (τ16.1 7) ≤ 30000 := hT.2 14 _
        have av6 : σ.1 6 ≤ τ16.1 6 := ag.1 6 (by decide)
        have TX : J_vs (τ16.1 6) (τ16.1 5) (τ16.2.1 15) := by rw [q14_1, q14_3, w5_τ16]; exact J_vs_a TX (Int.le_refl _) (by omega)
        have IPn : J_ip (τ16.1 7) (τ16.1 6) (τ16.1 37) (τ16.2.1 14) (τ16.2.1 15) (τ16.2.1 16) (τ16.2.1 19) := by rw [q14_1, q14_2, q14_3, q14_4, w7_τ16, w37_τ16, g19_τ16, w6_τ13, w7_τ13, w37_τ13, g14_τ13, g15_τ13, g16_τ13, g19_τ13]; exact J_ip_a IP_0 (st_n _ _ (by omega)) (Or.inl rfl) (fun _ z => by exfalso; omega) (fun _ => rfl)
        exact ⟨hT, (show 0 ≤ 0 ∧ 0 ≤ 19 from by (first | omega | (simp only [st_s] <;> omega) | assumption | omega | fail)), (show J_vs (τ16.1 6) (τ16.1 5) (τ16.2.1 15) from TX), (show J_rks (τ16.1 5) (τ16.1 4) (τ16.2.1 10) (τ16.2.1 11) from RKS), (show j_rr ((σ.1 5)) (σ.2.1 10) (τ16.2.1 10) from by (first | exact j_rr0 _ _ | (rw [g10_τ16]; exact RR0) | fail)), (show 0 = 0 → (τ16.1 6) = (σ.1 6) + 1 ∧ τ16.2.1 14 ((τ16.1 7) + 1) = (τ16.1 6) ∧ 0 ≤ τ16.2.1 10 (τ16.2.1 15 (τ16.2.1 14 (τ16.1 7))) from by (first | (intro z; exfalso; omega) | (intro _; refine ⟨by omega, by rw [q14_2, w7_τ16, st_s, q14_1], ?_⟩; rw [q14_2, w7_τ16, st_n _ _ (by omega), q14_3, g14_τ13, w7_τ13, p4, w6_τ13, st_s, g10_τ16]; exact rk0) | fail)), (show 0 = 0 → J_ip (τ16.1 7) (τ16.1 6) (τ16.1 37) (τ16.2.1 14) (τ16.2.1 15) (τ16.2.1 16) (τ16.2.1 19) from by (first | (intro z; exfalso; omega) | (intro _; exact IPn) | fail)), (show c_Y σ τ16 from by (first | exact c_Y0 _ | (exact ⟨⟨by rw [g20_τ16, g20_τ13]; exact j_eq0 _ _, by rw [g22_τ16, g22_τ13]; exact j_eq0 _ _, by rw [g11_τ16]; exact RY0, by omega⟩, by rw [g25_τ16, g25_τ13], by rw [g25_τ16, g25_τ13], by rw [g25_τ16, g25_τ13]⟩) | fail)), ag⟩
      ·
        refine ⟨_, K_X9_isKnown hT (show -1 ≤ n1 from by (first | omega | (simp only [st_s] <;> omega) | assumption | omega | fail)) (show n1 < 1000 from by (first | omega | (simp only [st_s] <;> omega) | assumption | omega | fail)), ?_⟩
        intro x18 r_x18 hq
        obtain ⟨q17_1, q17_2, q17_3, q17_4⟩ := hq
        replace q17_1 : 0 ≤ x18 ∧ x18 ≤ 1 := q17_1
        replace q17_2 : ¬ x18 = 0 → 0 ≤ n1 := q17_2
        replace q17_3 : ¬ x18 = 0 → σ.2.1 8 n1 = 0 ∨ ¬ σ.2.1 18 n1 = 0 := q17_3
        replace q17_4 : 0 ≤ n1 → (σ.2.1 8 n1 = 0 ∨ ¬ σ.2.1 18 n1 = 0) → ¬ x18 = 0 := q17_4
        refine ⟨fun c20 => ?_, fun c20 => ?_⟩
        ·
          exact ⟨hT, (show 0 ≤ 9 ∧ 9 ≤ 19 from by (first | omega | (simp only [st_s] <;> omega) | assumption | omega | fail)), (show J_vs (σ.1 6) (σ.1 5) (σ.2.1 15) from TX), (show J_rks (σ.1 5) (σ.1 4) (σ.2.1 10) (σ.2.1 11) from RKS), (show j_rr ((σ.1 5)) (σ.2.1 10) (σ.2.1 10) from by (first | exact j_rr0 _ _ | (rw [g10_τ16]; exact RR0) | fail)), (show 9 = 0 → (σ.1 6) = (σ.1 6) + 1 ∧ σ.2.1 14 ((σ.1 7) + 1) = (σ.1 6) ∧ 0 ≤ σ.2.1 10 (σ.2.1 15 (σ.2.1 14 (σ.1 7))) from by (first | (intro z; exfalso; omega) | (intro _; refine ⟨by omega, by rw [q14_2, w7_τ16, st_s, q14_1], ?_⟩; rw [q14_2, w7_τ16, st_n _ _ (by omega), q14_3, g14_τ13, w7_τ13, p4, w6_τ13, st_s, g10_τ16]; exact rk0) | fail)), (show 9 = 0 → J_ip (σ.1 7) (σ.1 6) (σ.1 37) (σ.2.1 14) (σ.2.1 15) (σ.2.1 16) (σ.2.1 19) from by (first | (intro z; exfalso; omega) | (intro _; exact IPn) | fail)), (show c_Y σ σ from by (first | exact c_Y0 _ | (exact ⟨⟨by rw [g20_τ16, g20_τ13]; exact j_eq0 _ _, by rw [g22_τ16, g22_τ13]; exact j_eq0 _ _, by rw [g11_τ16]; exact RY0, by omega⟩, by rw [g25_τ16, g25_τ13], by rw [g25_τ16, g25_τ13], by rw [g25_τ16, g25_τ13]⟩) | fail)), ag⟩
        ·
          exact ⟨hT, (show 0 ≤ 10 ∧ 10 ≤ 19 from by (first | omega | (simp only [st_s] <;> omega) | assumption | omega | fail)), (show J_vs (σ.1 6) (σ.1 5) (σ.2.1 15) from TX), (show J_rks (σ.1 5) (σ.1 4) (σ.2.1 10) (σ.2.1 11) from RKS), (show j_rr ((σ.1 5)) (σ.2.1 10) (σ.2.1 10) from by (first | exact j_rr0 _ _ | (rw [g10_τ16]; exact RR0) | fail)), (show 10 = 0 → (σ.1 6) = (σ.1 6) + 1 ∧ σ.2.1 14 ((σ.1 7) + 1) = (σ.1 6) ∧ 0 ≤ σ.2.1 10 (σ.2.1 15 (σ.2.1 14 (σ.1 7))) from by (first | (intro z; exfalso; omega) | (intro _; refine ⟨by omega, by rw [q14_2, w7_τ16, st_s, q14_1], ?_⟩; rw [q14_2, w7_τ16, st_n _ _ (by omega), q14_3, g14_τ13, w7_τ13, p4, w6_τ13, st_s, g10_τ16]; exact rk0) | fail)), (show 10 = 0 → J_ip (σ.1 7) (σ.1 6) (σ.1 37) (σ.2.1 14) (σ.2.1 15) (σ.2.1 16) (σ.2.1 19) from by (first | (intro z; exfalso; omega) | (intro _; exact IPn) | fail)), (show c_Y σ σ from by (first | exact c_Y0 _ | (exact ⟨⟨by rw [g20_τ16, g20_τ13]; exact j_eq0 _ _, by rw [g22_τ16, g22_τ13]; exact j_eq0 _ _, by rw [g11_τ16]; exact RY0, by omega⟩, by rw [g25_τ16, g25_τ13], by rw [g25_τ16, g25_τ13], by rw [g25_τ16, g25_τ13]⟩) | fail)), ag⟩
    ·
      refine ⟨(show 0 ≤ n1 ∧ n1 < 1000 from by (first | omega | (simp only [st_s] <;> omega) | assumption | omega | fail)), ?_⟩
      intro x7 r_x7 e_x7
      have b_x7 : (-1) ≤ x7 ∧ x7 ≤ 99 := by rw [e_x7]; exact hT.2 10 _
      refine ⟨fun c8 => ?_, fun c8 => ?_⟩
      ·
        refine h54 _ _ _ ?_
        refine ⟨fun c10 => ?_, fun c10 => ?_⟩
        ·
          refine ⟨_, K2_X3_giveRank hT (show 0 ≤ n1 from by (first | omega | (simp only [st_s] <;> omega) | assumption | omega | fail)) (show n1 < 1000 from by (first | omega | (simp only [st_s] <;> omega) | assumption | omega | fail)) (show σ.2.1 10 n1 = -1 → (σ.1 4) < 100 from by (first | omega | (simp only [st_s] <;> omega) | assumption | omega | fail)), ?_⟩
          intro τ13 hn_τ13 hf_τ13 hq
          obtain ⟨hT, q11_1, q11_2⟩ := hq
          replace q11_1 : ¬ σ.2.1 10 n1 = -1 → τ13.2.1 10 = σ.2.1 10 ∧ τ13.2.1 11 = σ.2.1 11 ∧ (τ13.1 4) = (σ.1 4) := q11_1
          replace q11_2 : σ.2.1 10 n1 = -1 → τ13.2.1 10 = st (σ.2.1 10) n1 (σ.1 4) ∧ τ13.2.1 11 = st (σ.2.1 11) (σ.1 4) n1 ∧ (τ13.1 4) = (σ.1 4) + 1 := q11_2
          replace ag : c_ag σ τ13 := ag_r ag hf_τ13 rfl rfl
          have w3_τ13 : τ13.1 3 = σ.1 3 := hf_τ13.1 3 (by decide)
          have w5_τ13 : τ13.1 5 = σ.1 5 := hf_τ13.1 5 (by decide)
          have w6_τ13 : τ13.1 6 = σ.1 6 := hf_τ13.1 6 (by decide)
          have w7_τ13 : τ13.1 7 = σ.1 7 := hf_τ13.1 7 (by decide)
          have w13_τ13 : τ13.1 13 = σ.1 13 := hf_τ13.1 13 (by decide)
          have w14_τ13 : τ13.1 14 = σ.1 14 := hf_τ13.1 14 (by decide)
          have w15_τ13 : τ13.1 15 = σ.1 15 := hf_τ13.1 15 (by decide)
          have w16_τ13 : τ13.1 16 = σ.1 16 := hf_τ13.1 16 (by decide)
          have w37_τ13 : τ13.1 37 = σ.1 37 := hf_τ13.1 37 (by decide)
          have g8_τ13 : τ13.2.1 8 = σ.2.1 8 := hf_τ13.2.1 8 (by decide)
          have g14_τ13 : τ13.2.1 14 = σ.2.1 14 := hf_τ13.2.1 14 (by decide)
          have g15_τ13 : τ13.2.1 15 = σ.2.1 15 := hf_τ13.2.1 15 (by decide)
          have g16_τ13 : τ13.2.1 16 = σ.2.1 16 := hf_τ13.2.1 16 (by decide)
          have g19_τ13 : τ13.2.1 19 = σ.2.1 19 := hf_τ13.2.1 19 (by decide)
          have g20_τ13 : τ13.2.1 20 = σ.2.1 20 := hf_τ13.2.1 20 (by decide)
          have g22_τ13 : τ13.2.1 22 = σ.2.1 22 := hf_τ13.2.1 22 (by decide)
          have g25_τ13 : τ13.2.1 25 = σ.2.1 25 := hf_τ13.2.1 25 (by decide)
          have W3 : τ13.1 3 = σ.1 3 := by first | exact w3_τ13.trans W3 | omega
          have W5 : τ13.1 5 = σ.1 5 := by first | exact w5_τ13.trans W5 | omega
          have W7 : τ13.1 7 = σ.1 7 := by first | exact w7_τ13.trans W7 | omega
          have W13 : τ13.1 13 = σ.1 13 := by first | exact w13_τ13.trans W13 | omega
          have W14 : τ13.1 14 = σ.1 14 := by first | exact w14_τ13.trans W14 | omega
          have W15 : τ13.1 15 = σ.1 15 := by first | exact w15_τ13.trans W15 | omega
          have W16 : τ13.1 16 = σ.1 16 := by first | exact w16_τ13.trans W16 | omega
          have W37 : τ13.1 37 = σ.1 37 := by first | exact w37_τ13.trans W37 | omega
          have G8 : τ13.2.1 8 = σ.2.1 8 := (g8_τ13).trans G8
          have G19 : τ13.2.1 19 = σ.2.1 19 := (g19_τ13).trans G19
          have G20 : τ13.2.1 20 = σ.2.1 20 := (g20_τ13).trans G20
          have G22 : τ13.2.1 22 = σ.2.1 22 := (g22_τ13).trans G22
          have G25 : τ13.2.1 25 = σ.2.1 25 := (g25_τ13).trans G25
          have y14_7_τ13 : τ13.2.1 14 (τ13.1 7) = (σ.2.1 14) (σ.1 7) := by rw [g14_τ13, w7_τ13]
          have TX : J_vs (τ13.1 6) (τ13.1 5) (τ13.2.1 15) := by rw [show (J_vs (τ13.1 6) (τ13.1 5) (τ13.2.1 15)) = (J_vs (σ.1 6) (σ.1 5) (σ.2.1 15)) from by rw [w5_τ13, w6_τ13, g15_τ13]]; exact TX
          have IP : J_ip (τ13.1 7) (τ13.1 6) (τ13.1 37) (τ13.2.1 14) (τ13.2.1 15) (τ13.2.1 16) (τ13.2.1 19) := by rw [show (J_ip (τ13.1 7) (τ13.1 6) (τ13.1 37) (τ13.2.1 14) (τ13.2.1 15) (τ13.2.1 16) (τ13.2.1 19)) = (J_ip (σ.1 7) (σ.1 6) (σ.1 37) (σ.2.1 14) (σ.2.1 15) (σ.2.1 16) (σ.2.1 19)) from by rw [w6_τ13, w7_τ13, w37_τ13, g14_τ13, g15_τ13, g16_τ13, g19_τ13]]; exact IP
          have A8 : ∀ j, 0 ≤ τ13.2.1 8 j ∧ τ13.2.1 8 j ≤ 1 := fun j => hT.2 8 j
          have A10 : ∀ j, (-1) ≤ τ13.2.1 10 j ∧ τ13.2.1 10 j ≤ 99 := fun j => hT.2 10 j
          have A11 : ∀ j, 0 ≤ τ13.2.1 11 j ∧ τ13.2.1 11 j ≤ 999 := fun j => hT.2 11 j
          have A14 : ∀ j, 0 ≤ τ13.2.1 14 j ∧ τ13.2.1 14 j ≤ 30000 := fun j => hT.2 14 j
          have A15 : ∀ j, 0 ≤ τ13.2.1 15 j ∧ τ13.2.1 15 j ≤ 999 := fun j => hT.2 15 j
          have A16 : ∀ j, (-1) ≤ τ13.2.1 16 j ∧ τ13.2.1 16 j ≤ 1499 := fun j => hT.2 16 j
          have A19 : ∀ j, (-1) ≤ τ13.2.1 19 j ∧ τ13.2.1 19 j ≤ 1499 := fun j => hT.2 19 j
          have A20 : ∀ j, 0 ≤ τ13.2.1 20 j ∧ τ13.2.1 20 j ≤ 999 := fun j => hT.2 20 j
          have A22 : ∀ j, 0 ≤ τ13.2.1 22 j ∧ τ13.2.1 22 j ≤ 1499 := fun j => hT.2 22 j
          have v3 : 0 ≤ τ13.1 3 ∧ τ13.1 3 ≤ 2500 := hT.1 3
          have v4 : 0 ≤ τ13.1 4 ∧ τ13.1 4 ≤ 100 := hT.1 4
          have v5 : 0 ≤ τ13.1 5 ∧ τ13.1 5 ≤ 1000 := hT.1 5
          have v6 : 0 ≤ τ13.1 6 ∧ τ13.1 6 ≤ 30000 := hT.1 6
          have v7 : 0 ≤ τ13.1 7 ∧ τ13.1 7 ≤ 1500 := hT.1 7
          have v13 : 0 ≤ τ13.1 13 ∧ τ13.1 13 ≤ 90000 := hT.1 13
          have v14 : 0 ≤ τ13.1 14 ∧ τ13.1 14 ≤ 20000 := hT.1 14
          have v15 : 0 ≤ τ13.1 15 ∧ τ13.1 15 ≤ 20000 := hT.1 15
          have v16 : 0 ≤ τ13.1 16 ∧ τ13.1 16 ≤ 20000 := hT.1 16
          have v37 : 0 ≤ τ13.1 37 ∧ τ13.1 37 ≤ 4 := hT.1 37
          have a14_7 : 0 ≤ τ13.2.1 14 (τ13.1 7) ∧ τ13.2.1 14 (τ13.1 7) ≤ 30000 := hT.2 14 _
          have av6 : σ.1 6 ≤ τ13.1 6 := ag.1 6 (by decide)
          have RK2 : J_rks (τ13.1 5) (τ13.1 4) (τ13.2.1 10) (τ13.2.1 11) ∧ 0 ≤ τ13.2.1 10 n1 ∧ j_rr (σ.1 5) (σ.2.1 10) (τ13.2.1 10) ∧ j_eq (σ.1 4) (σ.2.1 11) (τ13.2.1 11) ∧ σ.1 4 ≤ τ13.1 4 := by by_cases z : σ.2.1 10 n1 = -1; (obtain ⟨e1, e2, e3⟩ := q11_2 z; rw [e1, e2, e3, w5_τ13, st_s]; exact ⟨J_rks_g RKS_0 (by omega) (by omega) z, by omega, j_rrs (by omega), j_eqs (j_eq0 _ _) (Int.le_refl _), by omega⟩); (obtain ⟨e1, e2, e3⟩ := q11_1 z; rw [e1, e2, e3, w5_τ13]; exact ⟨RKS_0, by have := A10o n1; omega, j_rr0 _ _, j_eq0 _ _, Int.le_refl _⟩)
          obtain ⟨RKS, rk0, RR0, RY0, RZ0⟩ := RK2
          refine ⟨_, K2_X3_append hT (show 0 ≤ n1 from by (first | omega | (simp only [st_s] <;> omega) | assumption | omega | fail)) (show n1 < 1000 from by (first | omega | (simp only [st_s] <;> omega) | assumption | omega | fail)) (show -1 ≤ (-1 : Int) from by (first | omega | (simp only [st_s] <;> omega) | assumption | omega | fail)) (show (-1 : Int) < 1500 from by (first | omega | (simp only [st_s] <;> omega) | assumption | omega | fail)) (show (τ13.1 6) < 30000 from by (first | omega | (simp only [st_s] <;> omega) | assumption | omega | fail)) (show (τ13.1 7) < 1500 from by (first | omega | (simp only [st_s] <;> omega) | assumption | omega | fail)), ?_⟩
          intro τ16 hn_τ16 hf_τ16 hq
          obtain ⟨hT, q14_1, q14_2, q14_3, q14_4, q14_5⟩ := hq
          replace q14_1 : (τ16.1 6) = (τ13.1 6) + 1 := q14_1
          replace q14_2 : τ16.2.1 14 = st (τ13.2.1 14) ((τ13.1 7) + 1) ((τ13.1 6) + 1) := q14_2
          replace q14_3 : τ16.2.1 15 = st (τ13.2.1 15) (τ13.1 6) n1 := q14_3
          replace q14_4 : τ16.2.1 16 = st (τ13.2.1 16) (τ13.1 6) (-1 : Int) := q14_4
          replace q14_5 : c_ag τ13 τ16 := q14_5
          replace ag : c_ag σ τ16 := ag_t ag q14_5 rfl
          have w3_τ16 : τ16.1 3 = τ13.1 3 := hf_τ16.1 3 (by decide)
          have w4_τ16 : τ16.1 4 = τ13.1 4 := hf_τ16.1 4 (by decide)
          have w5_τ16 : τ16.1 5 = τ13.1 5 := hf_τ16.1 5 (by decide)
          have w7_τ16 : τ16.1 7 = τ13.1 7 := hf_τ16.1 7 (by decide)
          have w13_τ16 : τ16.1 13 = τ13.1 13 := hf_τ16.1 13 (by decide)
          have w14_τ16 : τ16.1 14 = τ13.1 14 := hf_τ16.1 14 (by decide)
          have w15_τ16 : τ16.1 15 = τ13.1 15 := hf_τ16.1 15 (by decide)
          have w16_τ16 : τ16.1 16 = τ13.1 16 := hf_τ16.1 16 (by decide)
          have w37_τ16 : τ16.1 37 = τ13.1 37 := hf_τ16.1 37 (by decide)
          have g8_τ16 : τ16.2.1 8 = τ13.2.1 8 := hf_τ16.2.1 8 (by decide)
          have g10_τ16 : τ16.2.1 10 = τ13.2.1 10 := hf_τ16.2.1 10 (by decide)
          have g11_τ16 : τ16.2.1 11 = τ13.2.1 11 := hf_τ16.2.1 11 (by decide)
          have g19_τ16 : τ16.2.1 19 = τ13.2.1 19 := hf_τ16.2.1 19 (by decide)
          have g20_τ16 : τ16.2.1 20 = τ13.2.1 20 := hf_τ16.2.1 20 (by decide)
          have g22_τ16 : τ16.2.1 22 = τ13.2.1 22 := hf_τ16.2.1 22 (by decide)
          have g25_τ16 : τ16.2.1 25 = τ13.2.1 25 := hf_τ16.2.1 25 (by decide)
          have W3 : τ16.1 3 = σ.1 3 := by first | exact w3_τ16.trans W3 | omega
          have W5 : τ16.1 5 = σ.1 5 := by first | exact w5_τ16.trans W5 | omega
          have W7 : τ16.1 7 = σ.1 7 := by first | exact w7_τ16.trans W7 | omega
          have W13 : τ16.1 13 = σ.1 13 := by first | exact w13_τ16.trans W13 | omega
          have W14 : τ16.1 14 = σ.1 14 := by first | exact w14_τ16.trans W14 | omega
          have W15 : τ16.1 15 = σ.1 15 := by first | exact w15_τ16.trans W15 | omega
          have W16 : τ16.1 16 = σ.1 16 := by first | exact w16_τ16.trans W16 | omega
          have W37 : τ16.1 37 = σ.1 37 := by first | exact w37_τ16.trans W37 | omega
          have G8 : τ16.2.1 8 = σ.2.1 8 := (g8_τ16).trans G8
          have G19 : τ16.2.1 19 = σ.2.1 19 := (g19_τ16).trans G19
          have G20 : τ16.2.1 20 = σ.2.1 20 := (g20_τ16).trans G20
          have G22 : τ16.2.1 22 = σ.2.1 22 := (g22_τ16).trans G22
          have G25 : τ16.2.1 25 = σ.2.1 25 := (g25_τ16).trans G25
          have RKS : J_rks (τ16.1 5) (τ16.1 4) (τ16.2.1 10) (τ16.2.1 11) := by rw [show (J_rks (τ16.1 5) (τ16.1 4) (τ16.2.1 10) (τ16.2.1 11)) = (J_rks (τ13.1 5) (τ13.1 4) (τ13.2.1 10) (τ13.2.1 11)) from by rw [w4_τ16, w5_τ16, g10_τ16, g11_τ16]]; exact RKS
          have A8 : ∀ j, 0 ≤ τ16.2.1 8 j ∧ τ16.2.1 8 j ≤ 1 := fun j => hT.2 8 j
          have A10 : ∀ j, (-1) ≤ τ16.2.1 10 j ∧ τ16.2.1 10 j ≤ 99 := fun j => hT.2 10 j
          have A11 : ∀ j, 0 ≤ τ16.2.1 11 j ∧ τ16.2.1 11 j ≤ 999 := fun j => hT.2 11 j
          have A14 : ∀ j, 0 ≤ τ16.2.1 14 j ∧ τ16.2.1 14 j ≤ 30000 := fun j => hT.2 14 j
          have A15 : ∀ j, 0 ≤ τ16.2.1 15 j ∧ τ16.2.1 15 j ≤ 999 := fun j => hT.2 15 j
          have A16 : ∀ j, (-1) ≤ τ16.2.1 16 j ∧ τ16.2.1 16 j ≤ 1499 := fun j => hT.2 16 j
          have A19 : ∀ j, (-1) ≤ τ16.2.1 19 j ∧ τ16.2.1 19 j ≤ 1499 := fun j => hT.2 19 j
          have A20 : ∀ j, 0 ≤ τ16.2.1 20 j ∧ τ16.2.1 20 j ≤ 999 := fun j => hT.2 20 j
          have A22 : ∀ j, 0 ≤ τ16.2.1 22 j ∧ τ16.2.1 22 j ≤ 1499 := fun j => hT.2 22 j
          have v3 : 0 ≤ τ16.1 3 ∧ τ16.1 3 ≤ 2500 := hT.1 3
          have v4 : 0 ≤ τ16.1 4 ∧ τ16.1 4 ≤ 100 := hT.1 4
          have v5 : 0 ≤ τ16.1 5 ∧ τ16.1 5 ≤ 1000 := hT.1 5
          have v6 : 0 ≤ τ16.1 6 ∧ τ16.1 6 ≤ 30000 := hT.1 6
          have v7 : 0 ≤ τ16.1 7 ∧ τ16.1 7 ≤ 1500 := hT.1 7
          have v13 : 0 ≤ τ16.1 13 ∧ τ16.1 13 ≤ 90000 := hT.1 13
          have v14 : 0 ≤ τ16.1 14 ∧ τ16.1 14 ≤ 20000 := hT.1 14
          have v15 : 0 ≤ τ16.1 15 ∧ τ16.1 15 ≤ 20000 := hT.1 15
          have v16 : 0 ≤ τ16.1 16 ∧ τ16.1 16 ≤ 20000 := hT.1 16
          have v37 : 0 ≤ τ16.1 37 ∧ τ16.1 37 ≤ 4 := hT.1 37
          have a14_7 : 0 ≤ τ16.2.1 14 (τ16.1 7) ∧ τ16.2.1 14 (τ16.1 7) ≤ 30000 := hT.2 14 _
          have av6 : σ.1 6 ≤ τ16.1 6 := ag.1 6 (by decide)
          have TX : J_vs (τ16.1 6) (τ16.1 5) (τ16.2.1 15) := by rw [q14_1, q14_3, w5_τ16]; exact J_vs_a TX (Int.le_refl _) (by omega)
          have IPn : J_ip (τ16.1 7) (τ16.1 6) (τ16.1 37) (τ16.2.1 14) (τ16.2.1 15) (τ16.2.1 16) (τ16.2.1 19) := by rw [q14_1, q14_2, q14_3, q14_4, w7_τ16, w37_τ16, g19_τ16, w6_τ13, w7_τ13, w37_τ13, g14_τ13, g15_τ13, g16_τ13, g19_τ13]; exact J_ip_a IP_0 (st_n _ _ (by omega)) (Or.inl rfl) (fun _ z => by exfalso; omega) (fun _ => rfl)
          exact ⟨hT, (show 0 ≤ 0 ∧ 0 ≤ 19 from by (first | omega | (simp only [st_s] <;> omega) | assumption | omega | fail)), (show J_vs (τ16.1 6) (τ16.1 5) (τ16.2.1 15) from TX), (show J_rks (τ16.1 5) (τ16.1 4) (τ16.2.1 10) (τ16.2.1 11) from RKS), (show j_rr ((σ.1 5)) (σ.2.1 10) (τ16.2.1 10) from by (first | exact j_rr0 _ _ | (rw [g10_τ16]; exact RR0) | fail)), (show 0 = 0 → (τ16.1 6) = (σ.1 6) + 1 ∧ τ16.2.1 14 ((τ16.1 7) + 1) = (τ16.1 6) ∧ 0 ≤ τ16.2.1 10 (τ16.2.1 15 (τ16.2.1 14 (τ16.1 7))) from by (first | (intro z; exfalso; omega) | (intro _; refine ⟨by omega, by rw [q14_2, w7_τ16, st_s, q14_1], ?_⟩; rw [q14_2, w7_τ16, st_n _ _ (by omega), q14_3, g14_τ13, w7_τ13, p4, w6_τ13, st_s, g10_τ16]; exact rk0) | fail)), (show 0 = 0 → J_ip (τ16.1 7) (τ16.1 6) (τ16.1 37) (τ16.2.1 14) (τ16.2.1 15) (τ16.2.1 16) (τ16.2.1 19) from by (first | (intro z; exfalso; omega) | (intro _; exact IPn) | fail)), (show c_Y σ τ16 from by (first | exact c_Y0 _ | (exact ⟨⟨by rw [g20_τ16, g20_τ13]; exact j_eq0 _ _, by rw [g22_τ16, g22_τ13]; exact j_eq0 _ _, by rw [g11_τ16]; exact RY0, by omega⟩, by rw [g25_τ16, g25_τ13], by rw [g25_τ16, g25_τ13], by rw [g25_τ16, g25_τ13]⟩) | fail)), ag⟩
        ·
          refine ⟨_, K_X9_isKnown hT (show -1 ≤ n1 from by (first | omega | (simp only [st_s] <;> omega) | assumption | omega | fail)) (show n1 < 1000 from by (first | omega | (simp only [st_s] <;> omega) | assumption | omega | fail)), ?_⟩
          intro x18 r_x18 hq
          obtain ⟨q17_1, q17_2, q17_3, q17_4⟩ := hq
          replace q17_1 : 0 ≤ x18 ∧ x18 ≤ 1 := q17_1
          replace q17_2 : ¬ x18 = 0 → 0 ≤ n1 := q17_2
          replace q17_3 : ¬ x18 = 0 → σ.2.1 8 n1 = 0 ∨ ¬ σ.2.1 18 n1 = 0 := q17_3
          replace q17_4 : 0 ≤ n1 → (σ.2.1 8 n1 = 0 ∨ ¬ σ.2.1 18 n1 = 0) → ¬ x18 = 0 := q17_4
          refine ⟨fun c20 => ?_, fun c20 => ?_⟩
          ·
            exact ⟨hT, (show 0 ≤ 9 ∧ 9 ≤ 19 from by (first | omega | (simp only [st_s] <;> omega) | assumption | omega | fail)), (show J_vs (σ.1 6) (σ.1 5) (σ.2.1 15) from TX), (show J_rks (σ.1 5) (σ.1 4) (σ.2.1 10) (σ.2.1 11) from RKS), (show j_rr ((σ.1 5)) (σ.2.1 10) (σ.2.1 10) from by (first | exact j_rr0 _ _ | (rw [g10_τ16]; exact RR0) | fail)), (show 9 = 0 → (σ.1 6) = (σ.1 6) + 1 ∧ σ.2.1 14 ((σ.1 7) + 1) = (σ.1 6) ∧ 0 ≤ σ.2.1 10 (σ.2.1 15 (σ.2.1 14 (σ.1 7))) from by (first | (intro z; exfalso; omega) | (intro _; refine ⟨by omega, by rw [q14_2, w7_τ16, st_s, q14_1], ?_⟩; rw [q14_2, w7_τ16, st_n _ _ (by omega), q14_3, g14_τ13, w7_τ13, p4, w6_τ13, st_s, g10_τ16]; exact rk0) | fail)), (show 9 = 0 → J_ip (σ.1 7) (σ.1 6) (σ.1 37) (σ.2.1 14) (σ.2.1 15) (σ.2.1 16) (σ.2.1 19) from by (first | (intro z; exfalso; omega) | (intro _; exact IPn) | fail)), (show c_Y σ σ from by (first | exact c_Y0 _ | (exact ⟨⟨by rw [g20_τ16, g20_τ13]; exact j_eq0 _ _, by rw [g22_τ16, g22_τ13]; exact j_eq0 _ _, by rw [g11_τ16]; exact RY0, by omega⟩, by rw [g25_τ16, g25_τ13], by rw [g25_τ16, g25_τ13], by rw [g25_τ16, g25_τ13]⟩) | fail)), ag⟩
          ·
            exact ⟨hT, (show 0 ≤ 10 ∧ 10 ≤ 19 from by (first | omega | (simp only [st_s] <;> omega) | assumption | omega | fail)), (show J_vs (σ.1 6) (σ.1 5) (σ.2.1 15) from TX), (show J_rks (σ.1 5) (σ.1 4) (σ.2.1 10) (σ.2.1 11) from RKS), (show j_rr ((σ.1 5)) (σ.2.1 10) (σ.2.1 10) from by (first | exact j_rr0 _ _ | (rw [g10_τ16]; exact RR0) | fail)), (show 10 = 0 → (σ.1 6) = (σ.1 6) + 1 ∧ σ.2.1 14 ((σ.1 7) + 1) = (σ.1 6) ∧ 0 ≤ σ.2.1 10 (σ.2.1 15 (σ.2.1 14 (σ.1 7))) from by (first | (intro z; exfalso; omega) | (intro _; refine ⟨by omega, by rw [q14_2, w7_τ16, st_s, q14_1], ?_⟩; rw [q14_2, w7_τ16, st_n _ _ (by omega), q14_3, g14_τ13, w7_τ13, p4, w6_τ13, st_s, g10_τ16]; exact rk0) | fail)), (show 10 = 0 → J_ip (σ.1 7) (σ.1 6) (σ.1 37) (σ.2.1 14) (σ.2.1 15) (σ.2.1 16) (σ.2.1 19) from by (first | (intro z; exfalso; omega) | (intro _; exact IPn) | fail)), (show c_Y σ σ from by (first | exact c_Y0 _ | (exact ⟨⟨by rw [g20_τ16, g20_τ13]; exact j_eq0 _ _, by rw [g22_τ16, g22_τ13]; exact j_eq0 _ _, by rw [g11_τ16]; exact RY0, by omega⟩, by rw [g25_τ16, g25_τ13], by rw [g25_τ16, g25_τ13], by rw [g25_τ16, g25_τ13]⟩) | fail)), ag⟩
      ·
        refine ⟨fun c9 => ?_, fun c9 => ?_⟩
        ·
          refine h54 _ _ _ ?_
          refine ⟨fun c10 => ?_, fun c10 => ?_⟩
          ·
            refine ⟨_, K2_X3_giveRank hT (show 0 ≤ n1 from by (first | omega | (simp only [st_s] <;> omega) | assumption | omega | fail)) (show n1 < 1000 from by (first | omega | (simp only [st_s] <;> omega) | assumption | omega | fail)) (show σ.2.1 10 n1 = -1 → (σ.1 4) < 100 from by (first | omega | (simp only [st_s] <;> omega) | assumption | omega | fail)), ?_⟩
            intro τ13 hn_τ13 hf_τ13 hq
            obtain ⟨hT, q11_1, q11_2⟩ := hq
            replace q11_1 : ¬ σ.2.1 10 n1 = -1 → τ13.2.1 10 = σ.2.1 10 ∧ τ13.2.1 11 = σ.2.1 11 ∧ (τ13.1 4) = (σ.1 4) := q11_1
            replace q11_2 : σ.2.1 10 n1 = -1 → τ13.2.1 10 = st (σ.2.1 10) n1 (σ.1 4) ∧ τ13.2.1 11 = st (σ.2.1 11) (σ.1 4) n1 ∧ (τ13.1 4) = (σ.1 4) + 1 := q11_2
            replace ag : c_ag σ τ13 := ag_r ag hf_τ13 rfl rfl
            have w3_τ13 : τ13.1 3 = σ.1 3 := hf_τ13.1 3 (by decide)
            have w5_τ13 : τ13.1 5 = σ.1 5 := hf_τ13.1 5 (by decide)
            have w6_τ13 : τ13.1 6 = σ.1 6 := hf_τ13.1 6 (by decide)
            have w7_τ13 : τ13.1 7 = σ.1 7 := hf_τ13.1 7 (by decide)
            have w13_τ13 : τ13.1 13 = σ.1 13 := hf_τ13.1 13 (by decide)
            have w14_τ13 : τ13.1 14 = σ.1 14 := hf_τ13.1 14 (by decide)
            have w15_τ13 : τ13.1 15 = σ.1 15 := hf_τ13.1 15 (by decide)
            have w16_τ13 : τ13.1 16 = σ.1 16 := hf_τ13.1 16 (by decide)
            have w37_τ13 : τ13.1 37 = σ.1 37 := hf_τ13.1 37 (by decide)
            have g8_τ13 : τ13.2.1 8 = σ.2.1 8 := hf_τ13.2.1 8 (by decide)
            have g14_τ13 : τ13.2.1 14 = σ.2.1 14 := hf_τ13.2.1 14 (by decide)
            have g15_τ13 : τ13.2.1 15 = σ.2.1 15 := hf_τ13.2.1 15 (by decide)
            have g16_τ13 : τ13.2.1 16 = σ.2.1 16 := hf_τ13.2.1 16 (by decide)
            have g19_τ13 : τ13.2.1 19 = σ.2.1 19 := hf_τ13.2.1 19 (by decide)
            have g20_τ13 : τ13.2.1 20 = σ.2.1 20 := hf_τ13.2.1 20 (by decide)
            have g22_τ13 : τ13.2.1 22 = σ.2.1 22 := hf_τ13.2.1 22 (by decide)
            have g25_τ13 : τ13.2.1 25 = σ.2.1 25 := hf_τ13.2.1 25 (by decide)
            have W3 : τ13.1 3 = σ.1 3 := by first | exact w3_τ13.trans W3 | omega
            have W5 : τ13.1 5 = σ.1 5 := by first | exact w5_τ13.trans W5 | omega
            have W7 : τ13.1 7 = σ.1 7 := by first | exact w7_τ13.trans W7 | omega
            have W13 : τ13.1 13 = σ.1 13 := by first | exact w13_τ13.trans W13 | omega
            have W14 : τ13.1 14 = σ.1 14 := by first | exact w14_τ13.trans W14 | omega
            have W15 : τ13.1 15 = σ.1 15 := by first | exact w15_τ13.trans W15 | omega
            have W16 : τ13.1 16 = σ.1 16 := by first | exact w16_τ13.trans W16 | omega
            have W37 : τ13.1 37 = σ.1 37 := by first | exact w37_τ13.trans W37 | omega
            have G8 : τ13.2.1 8 = σ.2.1 8 := (g8_τ13).trans G8
            have G19 : τ13.2.1 19 = σ.2.1 19 := (g19_τ13).trans G19
            have G20 : τ13.2.1 20 = σ.2.1 20 := (g20_τ13).trans G20
            have G22 : τ13.2.1 22 = σ.2.1 22 := (g22_τ13).trans G22
            have G25 : τ13.2.1 25 = σ.2.1 25 := (g25_τ13).trans G25
            have y14_7_τ13 : τ13.2.1 14 (τ13.1 7) = (σ.2.1 14) (σ.1 7) := by rw [g14_τ13, w7_τ13]
            have TX : J_vs (τ13.1 6) (τ13.1 5) (τ13.2.1 15) := by rw [show (J_vs (τ13.1 6) (τ13.1 5) (τ13.2.1 15)) = (J_vs (σ.1 6) (σ.1 5) (σ.2.1 15)) from by rw [w5_τ13, w6_τ13, g15_τ13]]; exact TX
            have IP : J_ip (τ13.1 7) (τ13.1 6) (τ13.1 37) (τ13.2.1 14) (τ13.2.1 15) (τ13.2.1 16) (τ13.2.1 19) := by rw [show (J_ip (τ13.1 7) (τ13.1 6) (τ13.1 37) (τ13.2.1 14) (τ13.2.1 15) (τ13.2.1 16) (τ13.2.1 19)) = (J_ip (σ.1 7) (σ.1 6) (σ.1 37) (σ.2.1 14) (σ.2.1 15) (σ.2.1 16) (σ.2.1 19)) from by rw [w6_τ13, w7_τ13, w37_τ13, g14_τ13, g15_τ13, g16_τ13, g19_τ13]]; exact IP
            have A8 : ∀ j, 0 ≤ τ13.2.1 8 j ∧ τ13.2.1 8 j ≤ 1 := fun j => hT.2 8 j
            have A10 : ∀ j, (-1) ≤ τ13.2.1 10 j ∧ τ13.2.1 10 j ≤ 99 := fun j => hT.2 10 j
            have A11 : ∀ j, 0 ≤ τ13.2.1 11 j ∧ τ13.2.1 11 j ≤ 999 := fun j => hT.2 11 j
            have A14 : ∀ j, 0 ≤ τ13.2.1 14 j ∧ τ13.2.1 14 j ≤ 30000 := fun j => hT.2 14 j
            have A15 : ∀ j, 0 ≤ τ13.2.1 15 j ∧ τ13.2.1 15 j ≤ 999 := fun j => hT.2 15 j
            have A16 : ∀ j, (-1) ≤ τ13.2.1 16 j ∧ τ13.2.1 16 j ≤ 1499 := fun j => hT.2 16 j
            have A19 : ∀ j, (-1) ≤ τ13.2.1 19 j ∧ τ13.2.1 19 j ≤ 1499 := fun j => hT.2 19 j
            have A20 : ∀ j, 0 ≤ τ13.2.1 20 j ∧ τ13.2.1 20 j ≤ 999 := fun j => hT.2 20 j
            have A22 : ∀ j, 0 ≤ τ13.2.1 22 j ∧ τ13.2.1 22 j ≤ 1499 := fun j => hT.2 22 j
            have v3 : 0 ≤ τ13.1 3 ∧ τ13.1 3 ≤ 2500 := hT.1 3
            have v4 : 0 ≤ τ13.1 4 ∧ τ13.1 4 ≤ 100 := hT.1 4
            have v5 : 0 ≤ τ13.1 5 ∧ τ13.1 5 ≤ 1000 := hT.1 5
            have v6 : 0 ≤ τ13.1 6 ∧ τ13.1 6 ≤ 30000 := hT.1 6
            have v7 : 0 ≤ τ13.1 7 ∧ τ13.1 7 ≤ 1500 := hT.1 7
            have v13 : 0 ≤ τ13.1 13 ∧ τ13.1 13 ≤ 90000 := hT.1 13
            have v14 : 0 ≤ τ13.1 14 ∧ τ13.1 14 ≤ 20000 := hT.1 14
            have v15 : 0 ≤ τ13.1 15 ∧ τ13.1 15 ≤ 20000 := hT.1 15
            have v16 : 0 ≤ τ13.1 16 ∧ τ13.1 16 ≤ 20000 := hT.1 16
            have v37 : 0 ≤ τ13.1 37 ∧ τ13.1 37 ≤ 4 := hT.1 37
            have a14_7 : 0 ≤ τ13.2.1 14 (τ13.1 7) ∧ τ13.2.1 14 (τ13.1 7) ≤ 30000 := hT.2 14 _
            have av6 : σ.1 6 ≤ τ13.1 6 := ag.1 6 (by decide)
            have RK2 : J_rks (τ13.1 5) (τ13.1 4) (τ13.2.1 10) (τ13.2.1 11) ∧ 0 ≤ τ13.2.1 10 n1 ∧ j_rr (σ.1 5) (σ.2.1 10) (τ13.2.1 10) ∧ j_eq (σ.1 4) (σ.2.1 11) (τ13.2.1 11) ∧ σ.1 4 ≤ τ13.1 4 := by by_cases z : σ.2.1 10 n1 = -1; (obtain ⟨e1, e2, e3⟩ := q11_2 z; rw [e1, e2, e3, w5_τ13, st_s]; exact ⟨J_rks_g RKS_0 (by omega) (by omega) z, by omega, j_rrs (by omega), j_eqs (j_eq0 _ _) (Int.le_refl _), by omega⟩); (obtain ⟨e1, e2, e3⟩ := q11_1 z; rw [e1, e2, e3, w5_τ13]; exact ⟨RKS_0, by have := A10o n1; omega, j_rr0 _ _, j_eq0 _ _, Int.le_refl _⟩)
            obtain ⟨RKS, rk0, RR0, RY0, RZ0⟩ := RK2
            refine ⟨_, K2_X3_append hT (show 0 ≤ n1 from by (first | omega | (simp only [st_s] <;> omega) | assumption | omega | fail)) (show n1 < 1000 from by (first | omega | (simp only [st_s] <;> omega) | assumption | omega | fail)) (show -1 ≤ (-1 : Int) from by (first | omega | (simp only [st_s] <;> omega) | assumption | omega | fail)) (show (-1 : Int) < 1500 from by (first | omega | (simp only [st_s] <;> omega) | assumption | omega | fail)) (show (τ13.1 6) < 30000 from by (first | omega | (simp only [st_s] <;> omega) | assumption | omega | fail)) (show (τ13.1 7) < 1500 from by (first | omega | (simp only [st_s] <;> omega) | assumption | omega | fail)), ?_⟩
            intro τ16 hn_τ16 hf_τ16 hq
            obtain ⟨hT, q14_1, q14_2, q14_3, q14_4, q14_5⟩ := hq
            replace q14_1 : (τ16.1 6) = (τ13.1 6) + 1 := q14_1
            replace q14_2 : τ16.2.1 14 = st (τ13.2.1 14) ((τ13.1 7) + 1) ((τ13.1 6) + 1) := q14_2
            replace q14_3 : τ16.2.1 15 = st (τ13.2.1 15) (τ13.1 6) n1 := q14_3
            replace q14_4 : τ16.2.1 16 = st (τ13.2.1 16) (τ13.1 6) (-1 : Int) := q14_4
            replace q14_5 : c_ag τ13 τ16 := q14_5
            replace ag : c_ag σ τ16 := ag_t ag q14_5 rfl
            have w3_τ16 : τ16.1 3 = τ13.1 3 := hf_τ16.1 3 (by decide)
            have w4_τ16 : τ16.1 4 = τ13.1 4 := hf_τ16.1 4 (by decide)
            have w5_τ16 : τ16.1 5 = τ13.1 5 := hf_τ16.1 5 (by decide)
            have w7_τ16 : τ16.1 7 = τ13.1 7 := hf_τ16.1 7 (by decide)
            have w13_τ16 : τ16.1 13 = τ13.1 13 := hf_τ16.1 13 (by decide)
            have w14_τ16 : τ16.1 14 = τ13.1 14 := hf_τ16.1 14 (by decide)
            have w15_τ16 : τ16.1 15 = τ13.1 15 := hf_τ16.1 15 (by decide)
            have w16_τ16 : τ16.1 16 = τ13.1 16 := hf_τ16.1 16 (by decide)
            have w37_τ16 : τ16.1 37 = τ13.1 37 := hf_τ16.1 37 (by decide)
            have g8_τ16 : τ16.2.1 8 = τ13.2.1 8 := hf_τ16.2.1 8 (by decide)
            have g10_τ16 : τ16.2.1 10 = τ13.2.1 10 := hf_τ16.2.1 10 (by decide)
            have g11_τ16 : τ16.2.1 11 = τ13.2.1 11 := hf_τ16.2.1 11 (by decide)
            have g19_τ16 : τ16.2.1 19 = τ13.2.1 19 := hf_τ16.2.1 19 (by decide)
            have g20_τ16 : τ16.2.1 20 = τ13.2.1 20 := hf_τ16.2.1 20 (by decide)
            have g22_τ16 : τ16.2.1 22 = τ13.2.1 22 := hf_τ16.2.1 22 (by decide)
            have g25_τ16 : τ16.2.1 25 = τ13.2.1 25 := hf_τ16.2.1 25 (by decide)
            have W3 : τ16.1 3 = σ.1 3 := by first | exact w3_τ16.trans W3 | omega
            have W5 : τ16.1 5 = σ.1 5 := by first | exact w5_τ16.trans W5 | omega
            have W7 : τ16.1 7 = σ.1 7 := by first | exact w7_τ16.trans W7 | omega
            have W13 : τ16.1 13 = σ.1 13 := by first | exact w13_τ16.trans W13 | omega
            have W14 : τ16.1 14 = σ.1 14 := by first | exact w14_τ16.trans W14 | omega
            have W15 : τ16.1 15 = σ.1 15 := by first | exact w15_τ16.trans W15 | omega
            have W16 : τ16.1 16 = σ.1 16 := by first | exact w16_τ16.trans W16 | omega
            have W37 : τ16.1 37 = σ.1 37 := by first | exact w37_τ16.trans W37 | omega
            have G8 : τ16.2.1 8 = σ.2.1 8 := (g8_τ16).trans G8
            have G19 : τ16.2.1 19 = σ.2.1 19 := (g19_τ16).trans G19
            have G20 : τ16.2.1 20 = σ.2.1 20 := (g20_τ16).trans G20
            have G22 : τ16.2.1 22 = σ.2.1 22 := (g22_τ16).trans G22
            have G25 : τ16.2.1 25 = σ.2.1 25 := (g25_τ16).trans G25
            have RKS : J_rks (τ16.1 5) (τ16.1 4) (τ16.2.1 10) (τ16.2.1 11) := by rw [show (J_rks (τ16.1 5) (τ16.1 4) (τ16.2.1 10) (τ16.2.1 11)) = (J_rks (τ13.1 5) (τ13.1 4) (τ13.2.1 10) (τ13.2.1 11)) from by rw [w4_τ16, w5_τ16, g10_τ16, g11_τ16]]; exact RKS
            have A8 : ∀ j, 0 ≤ τ16.2.1 8 j ∧ τ16.2.1 8 j ≤ 1 := fun j => hT.2 8 j
            have A10 : ∀ j, (-1) ≤ τ16.2.1 10 j ∧ τ16.2.1 10 j ≤ 99 := fun j => hT.2 10 j
            have A11 : ∀ j, 0 ≤ τ16.2.1 11 j ∧ τ16.2.1 11 j ≤ 999 := fun j => hT.2 11 j
            have A14 : ∀ j, 0 ≤ τ16.2.1 14 j ∧ τ16.2.1 14 j ≤ 30000 := fun j => hT.2 14 j
            have A15 : ∀ j, 0 ≤ τ16.2.1 15 j ∧ τ16.2.1 15 j ≤ 999 := fun j => hT.2 15 j
            have A16 : ∀ j, (-1) ≤ τ16.2.1 16 j ∧ τ16.2.1 16 j ≤ 1499 := fun j => hT.2 16 j
            have A19 : ∀ j, (-1) ≤ τ16.2.1 19 j ∧ τ16.2.1 19 j ≤ 1499 := fun j => hT.2 19 j
            have A20 : ∀ j, 0 ≤ τ16.2.1 20 j ∧ τ16.2.1 20 j ≤ 999 := fun j => hT.2 20 j
            have A22 : ∀ j, 0 ≤ τ16.2.1 22 j ∧ τ16.2.1 22 j ≤ 1499 := fun j => hT.2 22 j
            have v3 : 0 ≤ τ16.1 3 ∧ τ16.1 3 ≤ 2500 := hT.1 3
            have v4 : 0 ≤ τ16.1 4 ∧ τ16.1 4 ≤ 100 := hT.1 4
            have v5 : 0 ≤ τ16.1 5 ∧ τ16.1 5 ≤ 1000 := hT.1 5
            have v6 : 0 ≤ τ16.1 6 ∧ τ16.1 6 ≤ 30000 := hT.1 6
            have v7 : 0 ≤ τ16.1 7 ∧ τ16.1 7 ≤ 1500 := hT.1 7
            have v13 : 0 ≤ τ16.1 13 ∧ τ16.1 13 ≤ 90000 := hT.1 13
            have v14 : 0 ≤ τ16.1 14 ∧ τ16.1 14 ≤ 20000 := hT.1 14
            have v15 : 0 ≤ τ16.1 15 ∧ τ16.1 15 ≤ 20000 := hT.1 15
            have v16 : 0 ≤ τ16.1 16 ∧ τ16.1 16 ≤ 20000 := hT.1 16
            have v37 : 0 ≤ τ16.1 37 ∧ τ16.1 37 ≤ 4 := hT.1 37
            have a14_7 : 0 ≤ τ16.2.1 14 (τ16.1 7) ∧ τ16.2.1 14 (τ16.1 7) ≤ 30000 := hT.2 14 _
            have av6 : σ.1 6 ≤ τ16.1 6 := ag.1 6 (by decide)
            have TX : J_vs (τ16.1 6) (τ16.1 5) (τ16.2.1 15) := by rw [q14_1, q14_3, w5_τ16]; exact J_vs_a TX (Int.le_refl _) (by omega)
            have IPn : J_ip (τ16.1 7) (τ16.1 6) (τ16.1 37) (τ16.2.1 14) (τ16.2.1 15) (τ16.2.1 16) (τ16.2.1 19) := by rw [q14_1, q14_2, q14_3, q14_4, w7_τ16, w37_τ16, g19_τ16, w6_τ13, w7_τ13, w37_τ13, g14_τ13, g15_τ13, g16_τ13, g19_τ13]; exact J_ip_a IP_0 (st_n _ _ (by omega)) (Or.inl rfl) (fun _ z => by exfalso; omega) (fun _ => rfl)
            exact ⟨hT, (show 0 ≤ 0 ∧ 0 ≤ 19 from by (first | omega | (simp only [st_s] <;> omega) | assumption | omega | fail)), (show J_vs (τ16.1 6) (τ16.1 5) (τ16.2.1 15) from TX), (show J_rks (τ16.1 5) (τ16.1 4) (τ16.2.1 10) (τ16.2.1 11) from RKS), (show j_rr ((σ.1 5)) (σ.2.1 10) (τ16.2.1 10) from by (first | exact j_rr0 _ _ | (rw [g10_τ16]; exact RR0) | fail)), (show 0 = 0 → (τ16.1 6) = (σ.1 6) + 1 ∧ τ16.2.1 14 ((τ16.1 7) + 1) = (τ16.1 6) ∧ 0 ≤ τ16.2.1 10 (τ16.2.1 15 (τ16.2.1 14 (τ16.1 7))) from by (first | (intro z; exfalso; omega) | (intro _; refine ⟨by omega, by rw [q14_2, w7_τ16, st_s, q14_1], ?_⟩; rw [q14_2, w7_τ16, st_n _ _ (by omega), q14_3, g14_τ13, w7_τ13, p4, w6_τ13, st_s, g10_τ16]; exact rk0) | fail)), (show 0 = 0 → J_ip (τ16.1 7) (τ16.1 6) (τ16.1 37) (τ16.2.1 14) (τ16.2.1 15) (τ16.2.1 16) (τ16.2.1 19) from by (first | (intro z; exfalso; omega) | (intro _; exact IPn) | fail)), (show c_Y σ τ16 from by (first | exact c_Y0 _ | (exact ⟨⟨by rw [g20_τ16, g20_τ13]; exact j_eq0 _ _, by rw [g22_τ16, g22_τ13]; exact j_eq0 _ _, by rw [g11_τ16]; exact RY0, by omega⟩, by rw [g25_τ16, g25_τ13], by rw [g25_τ16, g25_τ13], by rw [g25_τ16, g25_τ13]⟩) | fail)), ag⟩
          ·
            refine ⟨_, K_X9_isKnown hT (show -1 ≤ n1 from by (first | omega | (simp only [st_s] <;> omega) | assumption | omega | fail)) (show n1 < 1000 from by (first | omega | (simp only [st_s] <;> omega) | assumption | omega | fail)), ?_⟩
            intro x18 r_x18 hq
            obtain ⟨q17_1, q17_2, q17_3, q17_4⟩ := hq
            replace q17_1 : 0 ≤ x18 ∧ x18 ≤ 1 := q17_1
            replace q17_2 : ¬ x18 = 0 → 0 ≤ n1 := q17_2
            replace q17_3 : ¬ x18 = 0 → σ.2.1 8 n1 = 0 ∨ ¬ σ.2.1 18 n1 = 0 := q17_3
            replace q17_4 : 0 ≤ n1 → (σ.2.1 8 n1 = 0 ∨ ¬ σ.2.1 18 n1 = 0) → ¬ x18 = 0 := q17_4
            refine ⟨fun c20 => ?_, fun c20 => ?_⟩
            ·
              exact ⟨hT, (show 0 ≤ 9 ∧ 9 ≤ 19 from by (first | omega | (simp only [st_s] <;> omega) | assumption | omega | fail)), (show J_vs (σ.1 6) (σ.1 5) (σ.2.1 15) from TX), (show J_rks (σ.1 5) (σ.1 4) (σ.2.1 10) (σ.2.1 11) from RKS), (show j_rr ((σ.1 5)) (σ.2.1 10) (σ.2.1 10) from by (first | exact j_rr0 _ _ | (rw [g10_τ16]; exact RR0) | fail)), (show 9 = 0 → (σ.1 6) = (σ.1 6) + 1 ∧ σ.2.1 14 ((σ.1 7) + 1) = (σ.1 6) ∧ 0 ≤ σ.2.1 10 (σ.2.1 15 (σ.2.1 14 (σ.1 7))) from by (first | (intro z; exfalso; omega) | (intro _; refine ⟨by omega, by rw [q14_2, w7_τ16, st_s, q14_1], ?_⟩; rw [q14_2, w7_τ16, st_n _ _ (by omega), q14_3, g14_τ13, w7_τ13, p4, w6_τ13, st_s, g10_τ16]; exact rk0) | fail)), (show 9 = 0 → J_ip (σ.1 7) (σ.1 6) (σ.1 37) (σ.2.1 14) (σ.2.1 15) (σ.2.1 16) (σ.2.1 19) from by (first | (intro z; exfalso; omega) | (intro _; exact IPn) | fail)), (show c_Y σ σ from by (first | exact c_Y0 _ | (exact ⟨⟨by rw [g20_τ16, g20_τ13]; exact j_eq0 _ _, by rw [g22_τ16, g22_τ13]; exact j_eq0 _ _, by rw [g11_τ16]; exact RY0, by omega⟩, by rw [g25_τ16, g25_τ13], by rw [g25_τ16, g25_τ13], by rw [g25_τ16, g25_τ13]⟩) | fail)), ag⟩
            ·
              exact ⟨hT, (show 0 ≤ 10 ∧ 10 ≤ 19 from by (first | omega | (simp only [st_s] <;> omega) | assumption | omega | fail)), (show J_vs (σ.1 6) (σ.1 5) (σ.2.1 15) from TX), (show J_rks (σ.1 5) (σ.1 4) (σ.2.1 10) (σ.2.1 11) from RKS), (show j_rr ((σ.1 5)) (σ.2.1 10) (σ.2.1 10) from by (first | exact j_rr0 _ _ | (rw [g10_τ16]; exact RR0) | fail)), (show 10 = 0 → (σ.1 6) = (σ.1 6) + 1 ∧ σ.2.1 14 ((σ.1 7) + 1) = (σ.1 6) ∧ 0 ≤ σ.2.1 10 (σ.2.1 15 (σ.2.1 14 (σ.1 7))) from by (first | (intro z; exfalso; omega) | (intro _; refine ⟨by omega, by rw [q14_2, w7_τ16, st_s, q14_1], ?_⟩; rw [q14_2, w7_τ16, st_n _ _ (by omega), q14_3, g14_τ13, w7_τ13, p4, w6_τ13, st_s, g10_τ16]; exact rk0) | fail)), (show 10 = 0 → J_ip (σ.1 7) (σ.1 6) (σ.1 37) (σ.2.1 14) (σ.2.1 15) (σ.2.1 16) (σ.2.1 19) from by (first | (intro z; exfalso; omega) | (intro _; exact IPn) | fail)), (show c_Y σ σ from by (first | exact c_Y0 _ | (exact ⟨⟨by rw [g20_τ16, g20_τ13]; exact j_eq0 _ _, by rw [g22_τ16, g22_τ13]; exact j_eq0 _ _, by rw [g11_τ16]; exact RY0, by omega⟩, by rw [g25_τ16, g25_τ13], by rw [g25_τ16, g25_τ13], by rw [g25_τ16, g25_τ13]⟩) | fail)), ag⟩
        ·
          exact ⟨hT, (show 0 ≤ 5 ∧ 5 ≤ 19 from by (first | omega | (simp only [st_s] <;> omega) | assumption | omega | fail)), (show J_vs (σ.1 6) (σ.1 5) (σ.2.1 15) from TX), (show J_rks (σ.1 5) (σ.1 4) (σ.2.1 10) (σ.2.1 11) from RKS), (show j_rr ((σ.1 5)) (σ.2.1 10) (σ.2.1 10) from by (first | exact j_rr0 _ _ | (rw [g10_τ16]; exact RR0) | fail)), (show 5 = 0 → (σ.1 6) = (σ.1 6) + 1 ∧ σ.2.1 14 ((σ.1 7) + 1) = (σ.1 6) ∧ 0 ≤ σ.2.1 10 (σ.2.1 15 (σ.2.1 14 (σ.1 7))) from by (first | (intro z; exfalso; omega) | (intro _; refine ⟨by omega, by rw [q14_2, w7_τ16, st_s, q14_1], ?_⟩; rw [q14_2, w7_τ16, st_n _ _ (by omega), q14_3, g14_τ13, w7_τ13, p4, w6_τ13, st_s, g10_τ16]; exact rk0) | fail)), (show 5 = 0 → J_ip (σ.1 7) (σ.1 6) (σ.1 37) (σ.2.1 14) (σ.2.1 15) (σ.2.1 16) (σ.2.1 19) from by (first | (intro z; exfalso; omega) | (intro _; exact IPn) | fail)), (show c_Y σ σ from by (first | exact c_Y0 _ | (exact ⟨⟨by rw [g20_τ16, g20_τ13]; exact j_eq0 _ _, by rw [g22_τ16, g22_τ13]; exact j_eq0 _ _, by rw [g11_τ16]; exact RY0, by omega⟩, by rw [g25_τ16, g25_τ13], by rw [g25_τ16, g25_τ13], by rw [g25_τ16, g25_τ13]⟩) | fail)), ag⟩
  ·
    refine ⟨(show 0 ≤ n1 ∧ n1 < 1000 from by (first | omega | (simp only [st_s] <;> omega) | assumption | omega | fail)), ?_⟩
    intro x3 r_x3 e_x3
    have b_x3 : 0 ≤ x3 ∧ x3 ≤ 1 := by rw [e_x3]; exact hT.2 8 _
    refine ⟨fun c4 => ?_, fun c4 => ?_⟩
    ·
      refine h22 _ _ _ ?_
      refine ⟨fun c5 => ?_, fun c5 => ?_⟩
      ·
        refine h54 _ _ _ ?_
        refine ⟨fun c10 => ?_, fun c10 => ?_⟩
        ·
          refine ⟨_, K2_X3_giveRank hT (show 0 ≤ n1 from by (first | omega | (simp only [st_s] <;> omega) | assumption | omega | fail)) (show n1 < 1000 from by (first | omega | (simp only [st_s] <;> omega) | assumption | omega | fail)) (show σ.2.1 10 n1 = -1 → (σ.1 4) < 100 from by (first | omega | (simp only [st_s] <;> omega) | assumption | omega | fail)), ?_⟩
          intro τ13 hn_τ13 hf_τ13 hq
          obtain ⟨hT, q11_1, q11_2⟩ := hq
          replace q11_1 : ¬ σ.2.1 10 n1 = -1 → τ13.2.1 10 = σ.2.1 10 ∧ τ13.2.1 11 = σ.2.1 11 ∧ (τ13.1 4) = (σ.1 4) := q11_1
          replace q11_2 : σ.2.1 10 n1 = -1 → τ13.2.1 10 = st (σ.2.1 10) n1 (σ.1 4) ∧ τ13.2.1 11 = st (σ.2.1 11) (σ.1 4) n1 ∧ (τ13.1 4) = (σ.1 4) + 1 := q11_2
          replace ag : c_ag σ τ13 := ag_r ag hf_τ13 rfl rfl
          have w3_τ13 : τ13.1 3 = σ.1 3 := hf_τ13.1 3 (by decide)
          have w5_τ13 : τ13.1 5 = σ.1 5 := hf_τ13.1 5 (by decide)
          have w6_τ13 : τ13.1 6 = σ.1 6 := hf_τ13.1 6 (by decide)
          have w7_τ13 : τ13.1 7 = σ.1 7 := hf_τ13.1 7 (by decide)
          have w13_τ13 : τ13.1 13 = σ.1 13 := hf_τ13.1 13 (by decide)
          have w14_τ13 : τ13.1 14 = σ.1 14 := hf_τ13.1 14 (by decide)
          have w15_τ13 : τ13.1 15 = σ.1 15 := hf_τ13.1 15 (by decide)
          have w16_τ13 : τ13.1 16 = σ.1 16 := hf_τ13.1 16 (by decide)
          have w37_τ13 : τ13.1 37 = σ.1 37 := hf_τ13.1 37 (by decide)
          have g8_τ13 : τ13.2.1 8 = σ.2.1 8 := hf_τ13.2.1 8 (by decide)
          have g14_τ13 : τ13.2.1 14 = σ.2.1 14 := hf_τ13.2.1 14 (by decide)
          have g15_τ13 : τ13.2.1 15 = σ.2.1 15 := hf_τ13.2.1 15 (by decide)
          have g16_τ13 : τ13.2.1 16 = σ.2.1 16 := hf_τ13.2.1 16 (by decide)
          have g19_τ13 : τ13.2.1 19 = σ.2.1 19 := hf_τ13.2.1 19 (by decide)
          have g20_τ13 : τ13.2.1 20 = σ.2.1 20 := hf_τ13.2.1 20 (by decide)
          have g22_τ13 : τ13.2.1 22 = σ.2.1 22 := hf_τ13.2.1 22 (by decide)
          have g25_τ13 : τ13.2.1 25 = σ.2.1 25 := hf_τ13.2.1 25 (by decide)
          have W3 : τ13.1 3 = σ.1 3 := by first | exact w3_τ13.trans W3 | omega
          have W5 : τ13.1 5 = σ.1 5 := by first | exact w5_τ13.trans W5 | omega
          have W7 : τ13.1 7 = σ.1 7 := by first | exact w7_τ13.trans W7 | omega
          have W13 : τ13.1 13 = σ.1 13 := by first | exact w13_τ13.trans W13 | omega
          have W14 : τ13.1 14 = σ.1 14 := by first | exact w14_τ13.trans W14 | omega
          have W15 : τ13.1 15 = σ.1 15 := by first | exact w15_τ13.trans W15 | omega
          have W16 : τ13.1 16 = σ.1 16 := by first | exact w16_τ13.trans W16 | omega
          have W37 : τ13.1 37 = σ.1 37 := by first | exact w37_τ13.trans W37 | omega
          have G8 : τ13.2.1 8 = σ.2.1 8 := (g8_τ13).trans G8
          have G19 : τ13.2.1 19 = σ.2.1 19 := (g19_τ13).trans G19
          have G20 : τ13.2.1 20 = σ.2.1 20 := (g20_τ13).trans G20
          have G22 : τ13.2.1 22 = σ.2.1 22 := (g22_τ13).trans G22
          have G25 : τ13.2.1 25 = σ.2.1 25 := (g25_τ13).trans G25
          have y14_7_τ13 : τ13.2.1 14 (τ13.1 7) = (σ.2.1 14) (σ.1 7) := by rw [g14_τ13, w7_τ13]
          have TX : J_vs (τ13.1 6) (τ13.1 5) (τ13.2.1 15) := by rw [show (J_vs (τ13.1 6) (τ13.1 5) (τ13.2.1 15)) = (J_vs (σ.1 6) (σ.1 5) (σ.2.1 15)) from by rw [w5_τ13, w6_τ13, g15_τ13]]; exact TX
          have IP : J_ip (τ13.1 7) (τ13.1 6) (τ13.1 37) (τ13.2.1 14) (τ13.2.1 15) (τ13.2.1 16) (τ13.2.1 19) := by rw [show (J_ip (τ13.1 7) (τ13.1 6) (τ13.1 37) (τ13.2.1 14) (τ13.2.1 15) (τ13.2.1 16) (τ13.2.1 19)) = (J_ip (σ.1 7) (σ.1 6) (σ.1 37) (σ.2.1 14) (σ.2.1 15) (σ.2.1 16) (σ.2.1 19)) from by rw [w6_τ13, w7_τ13, w37_τ13, g14_τ13, g15_τ13, g16_τ13, g19_τ13]]; exact IP
          have A8 : ∀ j, 0 ≤ τ13.2.1 8 j ∧ τ13.2.1 8 j ≤ 1 := fun j => hT.2 8 j
          have A10 : ∀ j, (-1) ≤ τ13.2.1 10 j ∧ τ13.2.1 10 j ≤ 99 := fun j => hT.2 10 j
          have A11 : ∀ j, 0 ≤ τ13.2.1 11 j ∧ τ13.2.1 11 j ≤ 999 := fun j => hT.2 11 j
          have A14 : ∀ j, 0 ≤ τ13.2.1 14 j ∧ τ13.2.1 14 j ≤ 30000 := fun j => hT.2 14 j
          have A15 : ∀ j, 0 ≤ τ13.2.1 15 j ∧ τ13.2.1 15 j ≤ 999 := fun j => hT.2 15 j
          have A16 : ∀ j, (-1) ≤ τ13.2.1 16 j ∧ τ13.2.1 16 j ≤ 1499 := fun j => hT.2 16 j
          have A19 : ∀ j, (-1) ≤ τ13.2.1 19 j ∧ τ13.2.1 19 j ≤ 1499 := fun j => hT.2 19 j
          have A20 : ∀ j, 0 ≤ τ13.2.1 20 j ∧ τ13.2.1 20 j ≤ 999 := fun j => hT.2 20 j
          have A22 : ∀ j, 0 ≤ τ13.2.1 22 j ∧ τ13.2.1 22 j ≤ 1499 := fun j => hT.2 22 j
          have v3 : 0 ≤ τ13.1 3 ∧ τ13.1 3 ≤ 2500 := hT.1 3
          have v4 : 0 ≤ τ13.1 4 ∧ τ13.1 4 ≤ 100 := hT.1 4
          have v5 : 0 ≤ τ13.1 5 ∧ τ13.1 5 ≤ 1000 := hT.1 5
          have v6 : 0 ≤ τ13.1 6 ∧ τ13.1 6 ≤ 30000 := hT.1 6
          have v7 : 0 ≤ τ13.1 7 ∧ τ13.1 7 ≤ 1500 := hT.1 7
          have v13 : 0 ≤ τ13.1 13 ∧ τ13.1 13 ≤ 90000 := hT.1 13
          have v14 : 0 ≤ τ13.1 14 ∧ τ13.1 14 ≤ 20000 := hT.1 14
          have v15 : 0 ≤ τ13.1 15 ∧ τ13.1 15 ≤ 20000 := hT.1 15
          have v16 : 0 ≤ τ13.1 16 ∧ τ13.1 16 ≤ 20000 := hT.1 16
          have v37 : 0 ≤ τ13.1 37 ∧ τ13.1 37 ≤ 4 := hT.1 37
          have a14_7 : 0 ≤ τ13.2.1 14 (τ13.1 7) ∧ τ13.2.1 14 (τ13.1 7) ≤ 30000 := hT.2 14 _
          have av6 : σ.1 6 ≤ τ13.1 6 := ag.1 6 (by decide)
          have RK2 : J_rks (τ13.1 5) (τ13.1 4) (τ13.2.1 10) (τ13.2.1 11) ∧ 0 ≤ τ13.2.1 10 n1 ∧ j_rr (σ.1 5) (σ.2.1 10) (τ13.2.1 10) ∧ j_eq (σ.1 4) (σ.2.1 11) (τ13.2.1 11) ∧ σ.1 4 ≤ τ13.1 4 := by by_cases z : σ.2.1 10 n1 = -1; (obtain ⟨e1, e2, e3⟩ := q11_2 z; rw [e1, e2, e3, w5_τ13, st_s]; exact ⟨J_rks_g RKS_0 (by omega) (by omega) z, by omega, j_rrs (by omega), j_eqs (j_eq0 _ _) (Int.le_refl _), by omega⟩); (obtain ⟨e1, e2, e3⟩ := q11_1 z; rw [e1, e2, e3, w5_τ13]; exact ⟨RKS_0, by have := A10o n1; omega, j_rr0 _ _, j_eq0 _ _, Int.le_refl _⟩)
          obtain ⟨RKS, rk0, RR0, RY0, RZ0⟩ := RK2
          refine ⟨_, K2_X3_append hT (show 0 ≤ n1 from by (first | omega | (simp only [st_s] <;> omega) | assumption | omega | fail)) (show n1 < 1000 from by (first | omega | (simp only [st_s] <;> omega) | assumption | omega | fail)) (show -1 ≤ (-1 : Int) from by (first | omega | (simp only [st_s] <;> omega) | assumption | omega | fail)) (show (-1 : Int) < 1500 from by (first | omega | (simp only [st_s] <;> omega) | assumption | omega | fail)) (show (τ13.1 6) < 30000 from by (first | omega | (simp only [st_s] <;> omega) | assumption | omega | fail)) (show (τ13.1 7) < 1500 from by (first | omega | (simp only [st_s] <;> omega) | assumption | omega | fail)), ?_⟩
          intro τ16 hn_τ16 hf_τ16 hq
          obtain ⟨hT, q14_1, q14_2, q14_3, q14_4, q14_5⟩ := hq
          replace q14_1 : (τ16.1 6) = (τ13.1 6) + 1 := q14_1
          replace q14_2 : τ16.2.1 14 = st (τ13.2.1 14) ((τ13.1 7) + 1) ((τ13.1 6) + 1) := q14_2
          replace q14_3 : τ16.2.1 15 = st (τ13.2.1 15) (τ13.1 6) n1 := q14_3
          replace q14_4 : τ16.2.1 16 = st (τ13.2.1 16) (τ13.1 6) (-1 : Int) := q14_4
          replace q14_5 : c_ag τ13 τ16 := q14_5
          replace ag : c_ag σ τ16 := ag_t ag q14_5 rfl
          have w3_τ16 : τ16.1 3 = τ13.1 3 := hf_τ16.1 3 (by decide)
          have w4_τ16 : τ16.1 4 = τ13.1 4 := hf_τ16.1 4 (by decide)
          have w5_τ16 : τ16.1 5 = τ13.1 5 := hf_τ16.1 5 (by decide)
          have w7_τ16 : τ16.1 7 = τ13.1 7 := hf_τ16.1 7 (by decide)
          have w13_τ16 : τ16.1 13 = τ13.1 13 := hf_τ16.1 13 (by decide)
          have w14_τ16 : τ16.1 14 = τ13.1 14 := hf_τ16.1 14 (by decide)
          have w15_τ16 : τ16.1 15 = τ13.1 15 := hf_τ16.1 15 (by decide)
          have w16_τ16 : τ16.1 16 = τ13.1 16 := hf_τ16.1 16 (by decide)
          have w37_τ16 : τ16.1 37 = τ13.1 37 := hf_τ16.1 37 (by decide)
          have g8_τ16 : τ16.2.1 8 = τ13.2.1 8 := hf_τ16.2.1 8 (by decide)
          have g10_τ16 : τ16.2.1 10 = τ13.2.1 10 := hf_τ16.2.1 10 (by decide)
          have g11_τ16 : τ16.2.1 11 = τ13.2.1 11 := hf_τ16.2.1 11 (by decide)
          have g19_τ16 : τ16.2.1 19 = τ13.2.1 19 := hf_τ16.2.1 19 (by decide)
          have g20_τ16 : τ16.2.1 20 = τ13.2.1 20 := hf_τ16.2.1 20 (by decide)
          have g22_τ16 : τ16.2.1 22 = τ13.2.1 22 := hf_τ16.2.1 22 (by decide)
          have g25_τ16 : τ16.2.1 25 = τ13.2.1 25 := hf_τ16.2.1 25 (by decide)
          have W3 : τ16.1 3 = σ.1 3 := by first | exact w3_τ16.trans W3 | omega
          have W5 : τ16.1 5 = σ.1 5 := by first | exact w5_τ16.trans W5 | omega
          have W7 : τ16.1 7 = σ.1 7 := by first | exact w7_τ16.trans W7 | omega
          have W13 : τ16.1 13 = σ.1 13 := by first | exact w13_τ16.trans W13 | omega
          have W14 : τ16.1 14 = σ.1 14 := by first | exact w14_τ16.trans W14 | omega
          have W15 : τ16.1 15 = σ.1 15 := by first | exact w15_τ16.trans W15 | omega
          have W16 : τ16.1 16 = σ.1 16 := by first | exact w16_τ16.trans W16 | omega
          have W37 : τ16.1 37 = σ.1 37 := by first | exact w37_τ16.trans W37 | omega
          have G8 : τ16.2.1 8 = σ.2.1 8 := (g8_τ16).trans G8
          have G19 : τ16.2.1 19 = σ.2.1 19 := (g19_τ16).trans G19
          have G20 : τ16.2.1 20 = σ.2.1 20 := (g20_τ16).trans G20
          have G22 : τ16.2.1 22 = σ.2.1 22 := (g22_τ16).trans G22
          have G25 : τ16.2.1 25 = σ.2.1 25 := (g25_τ16).trans G25
          have RKS : J_rks (τ16.1 5) (τ16.1 4) (τ16.2.1 10) (τ16.2.1 11) := by rw [show (J_rks (τ16.1 5) (τ16.1 4) (τ16.2.1 10) (τ16.2.1 11)) = (J_rks (τ13.1 5) (τ13.1 4) (τ13.2.1 10) (τ13.2.1 11)) from by rw [w4_τ16, w5_τ16, g10_τ16, g11_τ16]]; exact RKS
          have A8 : ∀ j, 0 ≤ τ16.2.1 8 j ∧ τ16.2.1 8 j ≤ 1 := fun j => hT.2 8 j
          have A10 : ∀ j, (-1) ≤ τ16.2.1 10 j ∧ τ16.2.1 10 j ≤ 99 := fun j => hT.2 10 j
          have A11 : ∀ j, 0 ≤ τ16.2.1 11 j ∧ τ16.2.1 11 j ≤ 999 := fun j => hT.2 11 j
          have A14 : ∀ j, 0 ≤ τ16.2.1 14 j ∧ τ16.2.1 14 j ≤ 30000 := fun j => hT.2 14 j
          have A15 : ∀ j, 0 ≤ τ16.2.1 15 j ∧ τ16.2.1 15 j ≤ 999 := fun j => hT.2 15 j
          have A16 : ∀ j, (-1) ≤ τ16.2.1 16 j ∧ τ16.2.1 16 j ≤ 1499 := fun j => hT.2 16 j
          have A19 : ∀ j, (-1) ≤ τ16.2.1 19 j ∧ τ16.2.1 19 j ≤ 1499 := fun j => hT.2 19 j
          have A20 : ∀ j, 0 ≤ τ16.2.1 20 j ∧ τ16.2.1 20 j ≤ 999 := fun j => hT.2 20 j
          have A22 : ∀ j, 0 ≤ τ16.2.1 22 j ∧ τ16.2.1 22 j ≤ 1499 := fun j => hT.2 22 j
          have v3 : 0 ≤ τ16.1 3 ∧ τ16.1 3 ≤ 2500 := hT.1 3
          have v4 : 0 ≤ τ16.1 4 ∧ τ16.1 4 ≤ 100 := hT.1 4
          have v5 : 0 ≤ τ16.1 5 ∧ τ16.1 5 ≤ 1000 := hT.1 5
          have v6 : 0 ≤ τ16.1 6 ∧ τ16.1 6 ≤ 30000 := hT.1 6
          have v7 : 0 ≤ τ16.1 7 ∧ τ16.1 7 ≤ 1500 := hT.1 7
          have v13 : 0 ≤ τ16.1 13 ∧ τ16.1 13 ≤ 90000 := hT.1 13
          have v14 : 0 ≤ τ16.1 14 ∧ τ16.1 14 ≤ 20000 := hT.1 14
          have v15 : 0 ≤ τ16.1 15 ∧ τ16.1 15 ≤ 20000 := hT.1 15
          have v16 : 0 ≤ τ16.1 16 ∧ τ16.1 16 ≤ 20000 := hT.1 16
          have v37 : 0 ≤ τ16.1 37 ∧ τ16.1 37 ≤ 4 := hT.1 37
          have a14_7 : 0 ≤ τ16.2.1 14 (τ16.1 7) ∧ τ16.2.1 14 (τ16.1 7) ≤ 30000 := hT.2 14 _
          have av6 : σ.1 6 ≤ τ16.1 6 := ag.1 6 (by decide)
          have TX : J_vs (τ16.1 6) (τ16.1 5) (τ16.2.1 15) := by rw [q14_1, q14_3, w5_τ16]; exact J_vs_a TX (Int.le_refl _) (by omega)
          have IPn : J_ip (τ16.1 7) (τ16.1 6) (τ16.1 37) (τ16.2.1 14) (τ16.2.1 15) (τ16.2.1 16) (τ16.2.1 19) := by rw [q14_1, q14_2, q14_3, q14_4, w7_τ16, w37_τ16, g19_τ16, w6_τ13, w7_τ13, w37_τ13, g14_τ13, g15_τ13, g16_τ13, g19_τ13]; exact J_ip_a IP_0 (st_n _ _ (by omega)) (Or.inl rfl) (fun _ z => by exfalso; omega) (fun _ => rfl)
          exact ⟨hT, (show 0 ≤ 0 ∧ 0 ≤ 19 from by (first | omega | (simp only [st_s] <;> omega) | assumption | omega | fail)), (show J_vs (τ16.1 6) (τ16.1 5) (τ16.2.1 15) from TX), (show J_rks (τ16.1 5) (τ16.1 4) (τ16.2.1 10) (τ16.2.1 11) from RKS), (show j_rr ((σ.1 5)) (σ.2.1 10) (τ16.2.1 10) from by (first | exact j_rr0 _ _ | (rw [g10_τ16]; exact RR0) | fail)), (show 0 = 0 → (τ16.1 6) = (σ.1 6) + 1 ∧ τ16.2.1 14 ((τ16.1 7) + 1) = (τ16.1 6) ∧ 0 ≤ τ16.2.1 10 (τ16.2.1 15 (τ16.2.1 14 (τ16.1 7))) from by (first | (intro z; exfalso; omega) | (intro _; refine ⟨by omega, by rw [q14_2, w7_τ16, st_s, q14_1], ?_⟩; rw [q14_2, w7_τ16, st_n _ _ (by omega), q14_3, g14_τ13, w7_τ13, p4, w6_τ13, st_s, g10_τ16]; exact rk0) | fail)), (show 0 = 0 → J_ip (τ16.1 7) (τ16.1 6) (τ16.1 37) (τ16.2.1 14) (τ16.2.1 15) (τ16.2.1 16) (τ16.2.1 19) from by (first | (intro z; exfalso; omega) | (intro _; exact IPn) | fail)), (show c_Y σ τ16 from by (first | exact c_Y0 _ | (exact ⟨⟨by rw [g20_τ16, g20_τ13]; exact j_eq0 _ _, by rw [g22_τ16, g22_τ13]; exact j_eq0 _ _, by rw [g11_τ16]; exact RY0, by omega⟩, by rw [g25_τ16, g25_τ13], by rw [g25_τ16, g25_τ13], by rw [g25_τ16, g25_τ13]⟩) | fail)), ag⟩
        ·
          refine ⟨_, K_X9_isKnown hT (show -1 ≤ n1 from by (first | omega | (simp only [st_s] <;> omega) | assumption | omega | fail)) (show n1 < 1000 from by (first | omega | (simp only [st_s] <;> omega) | assumption | omega | fail)), ?_⟩
          intro x18 r_x18 hq
          obtain ⟨q17_1, q17_2, q17_3, q17_4⟩ := hq
          replace q17_1 : 0 ≤ x18 ∧ x18 ≤ 1 := q17_1
          replace q17_2 : ¬ x18 = 0 → 0 ≤ n1 := q17_2
          replace q17_3 : ¬ x18 = 0 → σ.2.1 8 n1 = 0 ∨ ¬ σ.2.1 18 n1 = 0 := q17_3
          replace q17_4 : 0 ≤ n1 → (σ.2.1 8 n1 = 0 ∨ ¬ σ.2.1 18 n1 = 0) → ¬ x18 = 0 := q17_4
          refine ⟨fun c20 => ?_, fun c20 => ?_⟩
          ·
            exact ⟨hT, (show 0 ≤ 9 ∧ 9 ≤ 19 from by (first | omega | (simp only [st_s] <;> omega) | assumption | omega | fail)), (show J_vs (σ.1 6) (σ.1 5) (σ.2.1 15) from TX), (show J_rks (σ.1 5) (σ.1 4) (σ.2.1 10) (σ.2.1 11) from RKS), (show j_rr ((σ.1 5)) (σ.2.1 10) (σ.2.1 10) from by (first | exact j_rr0 _ _ | (rw [g10_τ16]; exact RR0) | fail)), (show 9 = 0 → (σ.1 6) = (σ.1 6) + 1 ∧ σ.2.1 14 ((σ.1 7) + 1) = (σ.1 6) ∧ 0 ≤ σ.2.1 10 (σ.2.1 15 (σ.2.1 14 (σ.1 7))) from by (first | (intro z; exfalso; omega) | (intro _; refine ⟨by omega, by rw [q14_2, w7_τ16, st_s, q14_1], ?_⟩; rw [q14_2, w7_τ16, st_n _ _ (by omega), q14_3, g14_τ13, w7_τ13, p4, w6_τ13, st_s, g10_τ16]; exact rk0) | fail)), (show 9 = 0 → J_ip (σ.1 7) (σ.1 6) (σ.1 37) (σ.2.1 14) (σ.2.1 15) (σ.2.1 16) (σ.2.1 19) from by (first | (intro z; exfalso; omega) | (intro _; exact IPn) | fail)), (show c_Y σ σ from by (first | exact c_Y0 _ | (exact ⟨⟨by rw [g20_τ16, g20_τ13]; exact j_eq0 _ _, by rw [g22_τ16, g22_τ13]; exact j_eq0 _ _, by rw [g11_τ16]; exact RY0, by omega⟩, by rw [g25_τ16, g25_τ13], by rw [g25_τ16, g25_τ13], by rw [g25_τ16, g25_τ13]⟩) | fail)), ag⟩
          ·
            exact ⟨hT, (show 0 ≤ 10 ∧ 10 ≤ 19 from by (first | omega | (simp only [st_s] <;> omega) | assumption | omega | fail)), (show J_vs (σ.1 6) (σ.1 5) (σ.2.1 15) from TX), (show J_rks (σ.1 5) (σ.1 4) (σ.2.1 10) (σ.2.1 11) from RKS), (show j_rr ((σ.1 5)) (σ.2.1 10) (σ.2.1 10) from by (first | exact j_rr0 _ _ | (rw [g10_τ16]; exact RR0) | fail)), (show 10 = 0 → (σ.1 6) = (σ.1 6) + 1 ∧ σ.2.1 14 ((σ.1 7) + 1) = (σ.1 6) ∧ 0 ≤ σ.2.1 10 (σ.2.1 15 (σ.2.1 14 (σ.1 7))) from by (first | (intro z; exfalso; omega) | (intro _; refine ⟨by omega, by rw [q14_2, w7_τ16, st_s, q14_1], ?_⟩; rw [q14_2, w7_τ16, st_n _ _ (by omega), q14_3, g14_τ13, w7_τ13, p4, w6_τ13, st_s, g10_τ16]; exact rk0) | fail)), (show 10 = 0 → J_ip (σ.1 7) (σ.1 6) (σ.1 37) (σ.2.1 14) (σ.2.1 15) (σ.2.1 16) (σ.2.1 19) from by (first | (intro z; exfalso; omega) | (intro _; exact IPn) | fail)), (show c_Y σ σ from by (first | exact c_Y0 _ | (exact ⟨⟨by rw [g20_τ16, g20_τ13]; exact j_eq0 _ _, by rw [g22_τ16, g22_τ13]; exact j_eq0 _ _, by rw [g11_τ16]; exact RY0, by omega⟩, by rw [g25_τ16, g25_τ13], by rw [g25_τ16, g25_τ13], by rw [g25_τ16, g25_τ13]⟩) | fail)), ag⟩
      ·
        refine ⟨(show 0 ≤ n1 ∧ n1 < 1000 from by (first | omega | (simp only [st_s] <;> omega) | assumption | omega | fail)), ?_⟩
        intro x7 r_x7 e_x7
        have b_x7 : (-1) ≤ x7 ∧ x7 ≤ 99 := by rw [e_x7]; exact hT.2 10 _
        refine ⟨fun c8 => ?_, fun c8 => ?_⟩
        ·
          refine h54 _ _ _ ?_
          refine ⟨fun c10 => ?_, fun c10 => ?_⟩
          ·
            refine ⟨_, K2_X3_giveRank hT (show 0 ≤ n1 from by (first | omega | (simp only [st_s] <;> omega) | assumption | omega | fail)) (show n1 < 1000 from by (first | omega | (simp only [st_s] <;> omega) | assumption | omega | fail)) (show σ.2.1 10 n1 = -1 → (σ.1 4) < 100 from by (first | omega | (simp only [st_s] <;> omega) | assumption | omega | fail)), ?_⟩
            intro τ13 hn_τ13 hf_τ13 hq
            obtain ⟨hT, q11_1, q11_2⟩ := hq
            replace q11_1 : ¬ σ.2.1 10 n1 = -1 → τ13.2.1 10 = σ.2.1 10 ∧ τ13.2.1 11 = σ.2.1 11 ∧ (τ13.1 4) = (σ.1 4) := q11_1
            replace q11_2 : σ.2.1 10 n1 = -1 → τ13.2.1 10 = st (σ.2.1 10) n1 (σ.1 4) ∧ τ13.2.1 11 = st (σ.2.1 11) (σ.1 4) n1 ∧ (τ13.1 4) = (σ.1 4) + 1 := q11_2
            replace ag : c_ag σ τ13 := ag_r ag hf_τ13 rfl rfl
            have w3_τ13 : τ13.1 3 = σ.1 3 := hf_τ13.1 3 (by decide)
            have w5_τ13 : τ13.1 5 = σ.1 5 := hf_τ13.1 5 (by decide)
            have w6_τ13 : τ13.1 6 = σ.1 6 := hf_τ13.1 6 (by decide)
            have w7_τ13 : τ13.1 7 = σ.1 7 := hf_τ13.1 7 (by decide)
            have w13_τ13 : τ13.1 13 = σ.1 13 := hf_τ13.1 13 (by decide)
            have w14_τ13 : τ13.1 14 = σ.1 14 := hf_τ13.1 14 (by decide)
            have w15_τ13 : τ13.1 15 = σ.1 15 := hf_τ13.1 15 (by decide)
            have w16_τ13 : τ13.1 16 = σ.1 16 := hf_τ13.1 16 (by decide)
            have w37_τ13 : τ13.1 37 = σ.1 37 := hf_τ13.1 37 (by decide)
            have g8_τ13 : τ13.2.1 8 = σ.2.1 8 := hf_τ13.2.1 8 (by decide)
            have g14_τ13 : τ13.2.1 14 = σ.2.1 14 := hf_τ13.2.1 14 (by decide)
            have g15_τ13 : τ13.2.1 15 = σ.2.1 15 := hf_τ13.2.1 15 (by decide)
            have g16_τ13 : τ13.2.1 16 = σ.2.1 16 := hf_τ13.2.1 16 (by decide)
            have g19_τ13 : τ13.2.1 19 = σ.2.1 19 := hf_τ13.2.1 19 (by decide)
            have g20_τ13 : τ13.2.1 20 = σ.2.1 20 := hf_τ13.2.1 20 (by decide)
            have g22_τ13 : τ13.2.1 22 = σ.2.1 22 := hf_τ13.2.1 22 (by decide)
            have g25_τ13 : τ13.2.1 25 = σ.2.1 25 := hf_τ13.2.1 25 (by decide)
            have W3 : τ13.1 3 = σ.1 3 := by first | exact w3_τ13.trans W3 | omega
            have W5 : τ13.1 5 = σ.1 5 := by first | exact w5_τ13.trans W5 | omega
            have W7 : τ13.1 7 = σ.1 7 := by first | exact w7_τ13.trans W7 | omega
            have W13 : τ13.1 13 = σ.1 13 := by first | exact w13_τ13.trans W13 | omega
            have W14 : τ13.1 14 = σ.1 14 := by first | exact w14_τ13.trans W14 | omega
            have W15 : τ13.1 15 = σ.1 15 := by first | exact w15_τ13.trans W15 | omega
            have W16 : τ13.1 16 = σ.1 16 := by first | exact w16_τ13.trans W16 | omega
            have W37 : τ13.1 37 = σ.1 37 := by first | exact w37_τ13.trans W37 | omega
            have G8 : τ13.2.1 8 = σ.2.1 8 := (g8_τ13).trans G8
            have G19 : τ13.2.1 19 = σ.2.1 19 := (g19_τ13).trans G19
            have G20 : τ13.2.1 20 = σ.2.1 20 := (g20_τ13).trans G20
            have G22 : τ13.2.1 22 = σ.2.1 22 := (g22_τ13).trans G22
            have G25 : τ13.2.1 25 = σ.2.1 25 := (g25_τ13).trans G25
            have y14_7_τ13 : τ13.2.1 14 (τ13.1 7) = (σ.2.1 14) (σ.1 7) := by rw [g14_τ13, w7_τ13]
            have TX : J_vs (τ13.1 6) (τ13.1 5) (τ13.2.1 15) := by rw [show (J_vs (τ13.1 6) (τ13.1 5) (τ13.2.1 15)) = (J_vs (σ.1 6) (σ.1 5) (σ.2.1 15)) from by rw [w5_τ13, w6_τ13, g15_τ13]]; exact TX
            have IP : J_ip (τ13.1 7) (τ13.1 6) (τ13.1 37) (τ13.2.1 14) (τ13.2.1 15) (τ13.2.1 16) (τ13.2.1 19) := by rw [show (J_ip (τ13.1 7) (τ13.1 6) (τ13.1 37) (τ13.2.1 14) (τ13.2.1 15) (τ13.2.1 16) (τ13.2.1 19)) = (J_ip (σ.1 7) (σ.1 6) (σ.1 37) (σ.2.1 14) (σ.2.1 15) (σ.2.1 16) (σ.2.1 19)) from by rw [w6_τ13, w7_τ13, w37_τ13, g14_τ13, g15_τ13, g16_τ13, g19_τ13]]; exact IP
            have A8 : ∀ j, 0 ≤ τ13.2.1 8 j ∧ τ13.2.1 8 j ≤ 1 := fun j => hT.2 8 j
            have A10 : ∀ j, (-1) ≤ τ13.2.1 10 j ∧ τ13.2.1 10 j ≤ 99 := fun j => hT.2 10 j
            have A11 : ∀ j, 0 ≤ τ13.2.1 11 j ∧ τ13.2.1 11 j ≤ 999 := fun j => hT.2 11 j
            have A14 : ∀ j, 0 ≤ τ13.2.1 14 j ∧ τ13.2.1 14 j ≤ 30000 := fun j => hT.2 14 j
            have A15 : ∀ j, 0 ≤ τ13.2.1 15 j ∧ τ13.2.1 15 j ≤ 999 := fun j => hT.2 15 j
            have A16 : ∀ j, (-1) ≤ τ13.2.1 16 j ∧ τ13.2.1 16 j ≤ 1499 := fun j => hT.2 16 j
            have A19 : ∀ j, (-1) ≤ τ13.2.1 19 j ∧ τ13.2.1 19 j ≤ 1499 := fun j => hT.2 19 j
            have A20 : ∀ j, 0 ≤ τ13.2.1 20 j ∧ τ13.2.1 20 j ≤ 999 := fun j => hT.2 20 j
            have A22 : ∀ j, 0 ≤ τ13.2.1 22 j ∧ τ13.2.1 22 j ≤ 1499 := fun j => hT.2 22 j
            have v3 : 0 ≤ τ13.1 3 ∧ τ13.1 3 ≤ 2500 := hT.1 3
            have v4 : 0 ≤ τ13.1 4 ∧ τ13.1 4 ≤ 100 := hT.1 4
            have v5 : 0 ≤ τ13.1 5 ∧ τ13.1 5 ≤ 1000 := hT.1 5
            have v6 : 0 ≤ τ13.1 6 ∧ τ13.1 6 ≤ 30000 := hT.1 6
            have v7 : 0 ≤ τ13.1 7 ∧ τ13.1 7 ≤ 1500 := hT.1 7
            have v13 : 0 ≤ τ13.1 13 ∧ τ13.1 13 ≤ 90000 := hT.1 13
            have v14 : 0 ≤ τ13.1 14 ∧ τ13.1 14 ≤ 20000 := hT.1 14
            have v15 : 0 ≤ τ13.1 15 ∧ τ13.1 15 ≤ 20000 := hT.1 15
            have v16 : 0 ≤ τ13.1 16 ∧ τ13.1 16 ≤ 20000 := hT.1 16
            have v37 : 0 ≤ τ13.1 37 ∧ τ13.1 37 ≤ 4 := hT.1 37
            have a14_7 : 0 ≤ τ13.2.1 14 (τ13.1 7) ∧ τ13.2.1 14 (τ13.1 7) ≤ 30000 := hT.2 14 _
            have av6 : σ.1 6 ≤ τ13.1 6 := ag.1 6 (by decide)
            have RK2 : J_rks (τ13.1 5) (τ13.1 4) (τ13.2.1 10) (τ13.2.1 11) ∧ 0 ≤ τ13.2.1 10 n1 ∧ j_rr (σ.1 5) (σ.2.1 10) (τ13.2.1 10) ∧ j_eq (σ.1 4) (σ.2.1 11) (τ13.2.1 11) ∧ σ.1 4 ≤ τ13.1 4 := by by_cases z : σ.2.1 10 n1 = -1; (obtain ⟨e1, e2, e3⟩ := q11_2 z; rw [e1, e2, e3, w5_τ13, st_s]; exact ⟨J_rks_g RKS_0 (by omega) (by omega) z, by omega, j_rrs (by omega), j_eqs (j_eq0 _ _) (Int.le_refl _), by omega⟩); (obtain ⟨e1, e2, e3⟩ := q11_1 z; rw [e1, e2, e3, w5_τ13]; exact ⟨RKS_0, by have := A10o n1; omega, j_rr0 _ _, j_eq0 _ _, Int.le_refl _⟩)
            obtain ⟨RKS, rk0, RR0, RY0, RZ0⟩ := RK2
            refine ⟨_, K2_X3_append hT (show 0 ≤ n1 from by (first | omega | (simp only [st_s] <;> omega) | assumption | omega | fail)) (show n1 < 1000 from by (first | omega | (simp only [st_s] <;> omega) | assumption | omega | fail)) (show -1 ≤ (-1 : Int) from by (first | omega | (simp only [st_s] <;> omega) | assumption | omega | fail)) (show (-1 : Int) < 1500 from by (first | omega | (simp only [st_s] <;> omega) | assumption | omega | fail)) (show (τ13.1 6) < 30000 from by (first | omega | (simp only [st_s] <;> omega) | assumption | omega | fail)) (show (τ13.1 7) < 1500 from by (first | omega | (simp only [st_s] <;> omega) | assumption | omega | fail)), ?_⟩
            intro τ16 hn_τ16 hf_τ16 hq
            obtain ⟨hT, q14_1, q14_2, q14_3, q14_4, q14_5⟩ := hq
            replace q14_1 : (τ16.1 6) = (τ13.1 6) + 1 := q14_1
            replace q14_2 : τ16.2.1 14 = st (τ13.2.1 14) ((τ13.1 7) + 1) ((τ13.1 6) + 1) := q14_2
            replace q14_3 : τ16.2.1 15 = st (τ13.2.1 15) (τ13.1 6) n1 := q14_3
            replace q14_4 : τ16.2.1 16 = st (τ13.2.1 16) (τ13.1 6) (-1 : Int) := q14_4
            replace q14_5 : c_ag τ13 τ16 := q14_5
            replace ag : c_ag σ τ16 := ag_t ag q14_5 rfl
            have w3_τ16 : τ16.1 3 = τ13.1 3 := hf_τ16.1 3 (by decide)
            have w4_τ16 : τ16.1 4 = τ13.1 4 := hf_τ16.1 4 (by decide)
            have w5_τ16 : τ16.1 5 = τ13.1 5 := hf_τ16.1 5 (by decide)
            have w7_τ16 : τ16.1 7 = τ13.1 7 := hf_τ16.1 7 (by decide)
            have w13_τ16 : τ16.1 13 = τ13.1 13 := hf_τ16.1 13 (by decide)
            have w14_τ16 : τ16.1 14 = τ13.1 14 := hf_τ16.1 14 (by decide)
            have w15_τ16 : τ16.1 15 = τ13.1 15 := hf_τ16.1 15 (by decide)
            have w16_τ16 : τ16.1 16 = τ13.1 16 := hf_τ16.1 16 (by decide)
            have w37_τ16 : τ16.1 37 = τ13.1 37 := hf_τ16.1 37 (by decide)
            have g8_τ16 : τ16.2.1 8 = τ13.2.1 8 := hf_τ16.2.1 8 (by decide)
            have g10_τ16 : τ16.2.1 10 = τ13.2.1 10 := hf_τ16.2.1 10 (by decide)
            have g11_τ16 : τ16.2.1 11 = τ13.2.1 11 := hf_τ16.2.1 11 (by decide)
            have g19_τ16 : τ16.2.1 19 = τ13.2.1 19 := hf_τ16.2.1 19 (by decide)
            have g20_τ16 : τ16.2.1 20 = τ13.2.1 20 := hf_τ16.2.1 20 (by decide)
            have g22_τ16 : τ16.2.1 22 = τ13.2.1 22 := hf_τ16.2.1 22 (by decide)
            have g25_τ16 : τ16.2.1 25 = τ13.2.1 25 := hf_τ16.2.1 25 (by decide)
            have W3 : τ16.1 3 = σ.1 3 := by first | exact w3_τ16.trans W3 | omega
            have W5 : τ16.1 5 = σ.1 5 := by first | exact w5_τ16.trans W5 | omega
            have W7 : τ16.1 7 = σ.1 7 := by first | exact w7_τ16.trans W7 | omega
            have W13 : τ16.1 13 = σ.1 13 := by first | exact w13_τ16.trans W13 | omega
            have W14 : τ16.1 14 = σ.1 14 := by first | exact w14_τ16.trans W14 | omega
            have W15 : τ16.1 15 = σ.1 15 := by first | exact w15_τ16.trans W15 | omega
            have W16 : τ16.1 16 = σ.1 16 := by first | exact w16_τ16.trans W16 | omega
            have W37 : τ16.1 37 = σ.1 37 := by first | exact w37_τ16.trans W37 | omega
            have G8 : τ16.2.1 8 = σ.2.1 8 := (g8_τ16).trans G8
            have G19 : τ16.2.1 19 = σ.2.1 19 := (g19_τ16).trans G19
            have G20 : τ16.2.1 20 = σ.2.1 20 := (g20_τ16).trans G20
            have G22 : τ16.2.1 22 = σ.2.1 22 := (g22_τ16).trans G22
            have G25 : τ16.2.1 25 = σ.2.1 25 := (g25_τ16).trans G25
            have RKS : J_rks (τ16.1 5) (τ16.1 4) (τ16.2.1 10) (τ16.2.1 11) := by rw [show (J_rks (τ16.1 5) (τ16.1 4) (τ16.2.1 10) (τ16.2.1 11)) = (J_rks (τ13.1 5) (τ13.1 4) (τ13.2.1 10) (τ13.2.1 11)) from by rw [w4_τ16, w5_τ16, g10_τ16, g11_τ16]]; exact RKS
            have A8 : ∀ j, 0 ≤ τ16.2.1 8 j ∧ τ16.2.1 8 j ≤ 1 := fun j => hT.2 8 j
            have A10 : ∀ j, (-1) ≤ τ16.2.1 10 j ∧ τ16.2.1 10 j ≤ 99 := fun j => hT.2 10 j
            have A11 : ∀ j, 0 ≤ τ16.2.1 11 j ∧ τ16.2.1 11 j ≤ 999 := fun j => hT.2 11 j
            have A14 : ∀ j, 0 ≤ τ16.2.1 14 j ∧ τ16.2.1 14 j ≤ 30000 := fun j => hT.2 14 j
            have A15 : ∀ j, 0 ≤ τ16.2.1 15 j ∧ τ16.2.1 15 j ≤ 999 := fun j => hT.2 15 j
            have A16 : ∀ j, (-1) ≤ τ16.2.1 16 j ∧ τ16.2.1 16 j ≤ 1499 := fun j => hT.2 16 j
            have A19 : ∀ j, (-1) ≤ τ16.2.1 19 j ∧ τ16.2.1 19 j ≤ 1499 := fun j => hT.2 19 j
            have A20 : ∀ j, 0 ≤ τ16.2.1 20 j ∧ τ16.2.1 20 j ≤ 999 := fun j => hT.2 20 j
            have A22 : ∀ j, 0 ≤ τ16.2.1 22 j ∧ τ16.2.1 22 j ≤ 1499 := fun j => hT.2 22 j
            have v3 : 0 ≤ τ16.1 3 ∧ τ16.1 3 ≤ 2500 := hT.1 3
            have v4 : 0 ≤ τ16.1 4 ∧ τ16.1 4 ≤ 100 := hT.1 4
            have v5 : 0 ≤ τ16.1 5 ∧ τ16.1 5 ≤ 1000 := hT.1 5
            have v6 : 0 ≤ τ16.1 6 ∧ τ16.1 6 ≤ 30000 := hT.1 6
            have v7 : 0 ≤ τ16.1 7 ∧ τ16.1 7 ≤ 1500 := hT.1 7
            have v13 : 0 ≤ τ16.1 13 ∧ τ16.1 13 ≤ 90000 := hT.1 13
            have v14 : 0 ≤ τ16.1 14 ∧ τ16.1 14 ≤ 20000 := hT.1 14
            have v15 : 0 ≤ τ16.1 15 ∧ τ16.1 15 ≤ 20000 := hT.1 15
            have v16 : 0 ≤ τ16.1 16 ∧ τ16.1 16 ≤ 20000 := hT.1 16
            have v37 : 0 ≤ τ16.1 37 ∧ τ16.1 37 ≤ 4 := hT.1 37
            have a14_7 : 0 ≤ τ16.2.1 14 (τ16.1 7) ∧ τ16.2.1 14 (τ16.1 7) ≤ 30000 := hT.2 14 _
            have av6 : σ.1 6 ≤ τ16.1 6 := ag.1 6 (by decide)
            have TX : J_vs (τ16.1 6) (τ16.1 5) (τ16.2.1 15) := by rw [q14_1, q14_3, w5_τ16]; exact J_vs_a TX (Int.le_refl _) (by omega)
            have IPn : J_ip (τ16.1 7) (τ16.1 6) (τ16.1 37) (τ16.2.1 14) (τ16.2.1 15) (τ16.2.1 16) (τ16.2.1 19) := by rw [q14_1, q14_2, q14_3, q14_4, w7_τ16, w37_τ16, g19_τ16, w6_τ13, w7_τ13, w37_τ13, g14_τ13, g15_τ13, g16_τ13, g19_τ13]; exact J_ip_a IP_0 (st_n _ _ (by omega)) (Or.inl rfl) (fun _ z => by exfalso; omega) (fun _ => rfl)
            exact ⟨hT, (show 0 ≤ 0 ∧ 0 ≤ 19 from by (first | omega | (simp only [st_s] <;> omega) | assumption | omega | fail)), (show J_vs (τ16.1 6) (τ16.1 5) (τ16.2.1 15) from TX), (show J_rks (τ16.1 5) (τ16.1 4) (τ16.2.1 10) (τ16.2.1 11) from RKS), (show j_rr ((σ.1 5)) (σ.2.1 10) (τ16.2.1 10) from by (first | exact j_rr0 _ _ | (rw [g10_τ16]; exact RR0) | fail)), (show 0 = 0 → (τ16.1 6) = (σ.1 6) + 1 ∧ τ16.2.1 14 ((τ16.1 7) + 1) = (τ16.1 6) ∧ 0 ≤ τ16.2.1 10 (τ16.2.1 15 (τ16.2.1 14 (τ16.1 7))) from by (first | (intro z; exfalso; omega) | (intro _; refine ⟨by omega, by rw [q14_2, w7_τ16, st_s, q14_1], ?_⟩; rw [q14_2, w7_τ16, st_n _ _ (by omega), q14_3, g14_τ13, w7_τ13, p4, w6_τ13, st_s, g10_τ16]; exact rk0) | fail)), (show 0 = 0 → J_ip (τ16.1 7) (τ16.1 6) (τ16.1 37) (τ16.2.1 14) (τ16.2.1 15) (τ16.2.1 16) (τ16.2.1 19) from by (first | (intro z; exfalso; omega) | (intro _; exact IPn) | fail)), (show c_Y σ τ16 from by (first | exact c_Y0 _ | (exact ⟨⟨by rw [g20_τ16, g20_τ13]; exact j_eq0 _ _, by rw [g22_τ16, g22_τ13]; exact j_eq0 _ _, by rw [g11_τ16]; exact RY0, by omega⟩, by rw [g25_τ16, g25_τ13], by rw [g25_τ16, g25_τ13], by rw [g25_τ16, g25_τ13]⟩) | fail)), ag⟩
          ·
            refine ⟨_, K_X9_isKnown hT (show -1 ≤ n1 from by (first | omega | (simp only [st_s] <;> omega) | assumption | omega | fail)) (show n1 < 1000 from by (first | omega | (simp only [st_s] <;> omega) | assumption | omega | fail)), ?_⟩
            intro x18 r_x18 hq
            obtain ⟨q17_1, q17_2, q17_3, q17_4⟩ := hq
            replace q17_1 : 0 ≤ x18 ∧ x18 ≤ 1 := q17_1
            replace q17_2 : ¬ x18 = 0 → 0 ≤ n1 := q17_2
            replace q17_3 : ¬ x18 = 0 → σ.2.1 8 n1 = 0 ∨ ¬ σ.2.1 18 n1 = 0 := q17_3
            replace q17_4 : 0 ≤ n1 → (σ.2.1 8 n1 = 0 ∨ ¬ σ.2.1 18 n1 = 0) → ¬ x18 = 0 := q17_4
            refine ⟨fun c20 => ?_, fun c20 => ?_⟩
            ·
              exact ⟨hT, (show 0 ≤ 9 ∧ 9 ≤ 19 from by (first | omega | (simp only [st_s] <;> omega) | assumption | omega | fail)), (show J_vs (σ.1 6) (σ.1 5) (σ.2.1 15) from TX), (show J_rks (σ.1 5) (σ.1 4) (σ.2.1 10) (σ.2.1 11) from RKS), (show j_rr ((σ.1 5)) (σ.2.1 10) (σ.2.1 10) from by (first | exact j_rr0 _ _ | (rw [g10_τ16]; exact RR0) | fail)), (show 9 = 0 → (σ.1 6) = (σ.1 6) + 1 ∧ σ.2.1 14 ((σ.1 7) + 1) = (σ.1 6) ∧ 0 ≤ σ.2.1 10 (σ.2.1 15 (σ.2.1 14 (σ.1 7))) from by (first | (intro z; exfalso; omega) | (intro _; refine ⟨by omega, by rw [q14_2, w7_τ16, st_s, q14_1], ?_⟩; rw [q14_2, w7_τ16, st_n _ _ (by omega), q14_3, g14_τ13, w7_τ13, p4, w6_τ13, st_s, g10_τ16]; exact rk0) | fail)), (show 9 = 0 → J_ip (σ.1 7) (σ.1 6) (σ.1 37) (σ.2.1 14) (σ.2.1 15) (σ.2.1 16) (σ.2.1 19) from by (first | (intro z; exfalso; omega) | (intro _; exact IPn) | fail)), (show c_Y σ σ from by (first | exact c_Y0 _ | (exact ⟨⟨by rw [g20_τ16, g20_τ13]; exact j_eq0 _ _, by rw [g22_τ16, g22_τ13]; exact j_eq0 _ _, by rw [g11_τ16]; exact RY0, by omega⟩, by rw [g25_τ16, g25_τ13], by rw [g25_τ16, g25_τ13], by rw [g25_τ16, g25_τ13]⟩) | fail)), ag⟩
            ·
              exact ⟨hT, (show 0 ≤ 10 ∧ 10 ≤ 19 from by (first | omega | (simp only [st_s] <;> omega) | assumption | omega | fail)), (show J_vs (σ.1 6) (σ.1 5) (σ.2.1 15) from TX), (show J_rks (σ.1 5) (σ.1 4) (σ.2.1 10) (σ.2.1 11) from RKS), (show j_rr ((σ.1 5)) (σ.2.1 10) (σ.2.1 10) from by (first | exact j_rr0 _ _ | (rw [g10_τ16]; exact RR0) | fail)), (show 10 = 0 → (σ.1 6) = (σ.1 6) + 1 ∧ σ.2.1 14 ((σ.1 7) + 1) = (σ.1 6) ∧ 0 ≤ σ.2.1 10 (σ.2.1 15 (σ.2.1 14 (σ.1 7))) from by (first | (intro z; exfalso; omega) | (intro _; refine ⟨by omega, by rw [q14_2, w7_τ16, st_s, q14_1], ?_⟩; rw [q14_2, w7_τ16, st_n _ _ (by omega), q14_3, g14_τ13, w7_τ13, p4, w6_τ13, st_s, g10_τ16]; exact rk0) | fail)), (show 10 = 0 → J_ip (σ.1 7) (σ.1 6) (σ.1 37) (σ.2.1 14) (σ.2.1 15) (σ.2.1 16) (σ.2.1 19) from by (first | (intro z; exfalso; omega) | (intro _; exact IPn) | fail)), (show c_Y σ σ from by (first | exact c_Y0 _ | (exact ⟨⟨by rw [g20_τ16, g20_τ13]; exact j_eq0 _ _, by rw [g22_τ16, g22_τ13]; exact j_eq0 _ _, by rw [g11_τ16]; exact RY0, by omega⟩, by rw [g25_τ16, g25_τ13], by rw [g25_τ16, g25_τ13], by rw [g25_τ16, g25_τ13]⟩) | fail)), ag⟩
        ·
          refine ⟨fun c9 => ?_, fun c9 => ?_⟩
          ·
            refine h54 _ _ _ ?_
            refine ⟨fun c10 => ?_, fun c10 => ?_⟩
            ·
              refine ⟨_, K2_X3_giveRank hT (show 0 ≤ n1 from by (first | omega | (simp only [st_s] <;> omega) | assumption | omega | fail)) (show n1 < 1000 from by (first | omega | (simp only [st_s] <;> omega) | assumption | omega | fail)) (show σ.2.1 10 n1 = -1 → (σ.1 4) < 100 from by (first | omega | (simp only [st_s] <;> omega) | assumption | omega | fail)), ?_⟩
              intro τ13 hn_τ13 hf_τ13 hq
              obtain ⟨hT, q11_1, q11_2⟩ := hq
              replace q11_1 : ¬ σ.2.1 10 n1 = -1 → τ13.2.1 10 = σ.2.1 10 ∧ τ13.2.1 11 = σ.2.1 11 ∧ (τ13.1 4) = (σ.1 4) := q11_1
              replace q11_2 : σ.2.1 10 n1 = -1 → τ13.2.1 10 = st (σ.2.1 10) n1 (σ.1 4) ∧ τ13.2.1 11 = st (σ.2.1 11) (σ.1 4) n1 ∧ (τ13.1 4) = (σ.1 4) + 1 := q11_2
              replace ag : c_ag σ τ13 := ag_r ag hf_τ13 rfl rfl
              have w3_τ13 : τ13.1 3 = σ.1 3 := hf_τ13.1 3 (by decide)
              have w5_τ13 : τ13.1 5 = σ.1 5 := hf_τ13.1 5 (by decide)
              have w6_τ13 : τ13.1 6 = σ.1 6 := hf_τ13.1 6 (by decide)
              have w7_τ13 : τ13.1 7 = σ.1 7 := hf_τ13.1 7 (by decide)
              have w13_τ13 : τ13.1 13 = σ.1 13 := hf_τ13.1 13 (by decide)
              have w14_τ13 : τ13.1 14 = σ.1 14 := hf_τ13.1 14 (by decide)
              have w15_τ13 : τ13.1 15 = σ.1 15 := hf_τ13.1 15 (by decide)
              have w16_τ13 : τ13.1 16 = σ.1 16 := hf_τ13.1 16 (by decide)
              have w37_τ13 : τ13.1 37 = σ.1 37 := hf_τ13.1 37 (by decide)
              have g8_τ13 : τ13.2.1 8 = σ.2.1 8 := hf_τ13.2.1 8 (by decide)
              have g14_τ13 : τ13.2.1 14 = σ.2.1 14 := hf_τ13.2.1 14 (by decide)
              have g15_τ13 : τ13.2.1 15 = σ.2.1 15 := hf_τ13.2.1 15 (by decide)
              have g16_τ13 : τ13.2.1 16 = σ.2.1 16 := hf_τ13.2.1 16 (by decide)
              have g19_τ13 : τ13.2.1 19 = σ.2.1 19 := hf_τ13.2.1 19 (by decide)
              have g20_τ13 : τ13.2.1 20 = σ.2.1 20 := hf_τ13.2.1 20 (by decide)
              have g22_τ13 : τ13.2.1 22 = σ.2.1 22 := hf_τ13.2.1 22 (by decide)
              have g25_τ13 : τ13.2.1 25 = σ.2.1 25 := hf_τ13.2.1 25 (by decide)
              have W3 : τ13.1 3 = σ.1 3 := by first | exact w3_τ13.trans W3 | omega
              have W5 : τ13.1 5 = σ.1 5 := by first | exact w5_τ13.trans W5 | omega
              have W7 : τ13.1 7 = σ.1 7 := by first | exact w7_τ13.trans W7 | omega
              have W13 : τ13.1 13 = σ.1 13 := by first | exact w13_τ13.trans W13 | omega
              have W14 : τ13.1 14 = σ.1 14 := by first | exact w14_τ13.trans W14 | omega
              have W15 : τ13.1 15 = σ.1 15 := by first | exact w15_τ13.trans W15 | omega
              have W16 : τ13.1 16 = σ.1 16 := by first | exact w16_τ13.trans W16 | omega
              have W37 : τ13.1 37 = σ.1 37 := by first | exact w37_τ13.trans W37 | omega
              have G8 : τ13.2.1 8 = σ.2.1 8 := (g8_τ13).trans G8
              have G19 : τ13.2.1 19 = σ.2.1 19 := (g19_τ13).trans G19
              have G20 : τ13.2.1 20 = σ.2.1 20 := (g20_τ13).trans G20
              have G22 : τ13.2.1 22 = σ.2.1 22 := (g22_τ13).trans G22
              have G25 : τ13.2.1 25 = σ.2.1 25 := (g25_τ13).trans G25
              have y14_7_τ13 : τ13.2.1 14 (τ13.1 7) = (σ.2.1 14) (σ.1 7) := by rw [g14_τ13, w7_τ13]
              have TX : J_vs (τ13.1 6) (τ13.1 5) (τ13.2.1 15) := by rw [show (J_vs (τ13.1 6) (τ13.1 5) (τ13.2.1 15)) = (J_vs (σ.1 6) (σ.1 5) (σ.2.1 15)) from by rw [w5_τ13, w6_τ13, g15_τ13]]; exact TX
              have IP : J_ip (τ13.1 7) (τ13.1 6) (τ13.1 37) (τ13.2.1 14) (τ13.2.1 15) (τ13.2.1 16) (τ13.2.1 19) := by rw [show (J_ip (τ13.1 7) (τ13.1 6) (τ13.1 37) (τ13.2.1 14) (τ13.2.1 15) (τ13.2.1 16) (τ13.2.1 19)) = (J_ip (σ.1 7) (σ.1 6) (σ.1 37) (σ.2.1 14) (σ.2.1 15) (σ.2.1 16) (σ.2.1 19)) from by rw [w6_τ13, w7_τ13, w37_τ13, g14_τ13, g15_τ13, g16_τ13, g19_τ13]]; exact IP
              have A8 : ∀ j, 0 ≤ τ13.2.1 8 j ∧ τ13.2.1 8 j ≤ 1 := fun j => hT.2 8 j
              have A10 : ∀ j, (-1) ≤ τ13.2.1 10 j ∧ τ13.2.1 10 j ≤ 99 := fun j => hT.2 10 j
              have A11 : ∀ j, 0 ≤ τ13.2.1 11 j ∧ τ13.2.1 11 j ≤ 999 := fun j => hT.2 11 j
              have A14 : ∀ j, 0 ≤ τ13.2.1 14 j ∧ τ13.2.1 14 j ≤ 30000 := fun j => hT.2 14 j
              have A15 : ∀ j, 0 ≤ τ13.2.1 15 j ∧ τ13.2.1 15 j ≤ 999 := fun j => hT.2 15 j
              have A16 : ∀ j, (-1) ≤ τ13.2.1 16 j ∧ τ13.2.1 16 j ≤ 1499 := fun j => hT.2 16 j
              have A19 : ∀ j, (-1) ≤ τ13.2.1 19 j ∧ τ13.2.1 19 j ≤ 1499 := fun j => hT.2 19 j
              have A20 : ∀ j, 0 ≤ τ13.2.1 20 j ∧ τ13.2.1 20 j ≤ 999 := fun j => hT.2 20 j
              have A22 : ∀ j, 0 ≤ τ13.2.1 22 j ∧ τ13.2.1 22 j ≤ 1499 := fun j => hT.2 22 j
              have v3 : 0 ≤ τ13.1 3 ∧ τ13.1 3 ≤ 2500 := hT.1 3
              have v4 : 0 ≤ τ13.1 4 ∧ τ13.1 4 ≤ 100 := hT.1 4
              have v5 : 0 ≤ τ13.1 5 ∧ τ13.1 5 ≤ 1000 := hT.1 5
              have v6 : 0 ≤ τ13.1 6 ∧ τ13.1 6 ≤ 30000 := hT.1 6
              have v7 : 0 ≤ τ13.1 7 ∧ τ13.1 7 ≤ 1500 := hT.1 7
              have v13 : 0 ≤ τ13.1 13 ∧ τ13.1 13 ≤ 90000 := hT.1 13
              have v14 : 0 ≤ τ13.1 14 ∧ τ13.1 14 ≤ 20000 := hT.1 14
              have v15 : 0 ≤ τ13.1 15 ∧ τ13.1 15 ≤ 20000 := hT.1 15
              have v16 : 0 ≤ τ13.1 16 ∧ τ13.1 16 ≤ 20000 := hT.1 16
              have v37 : 0 ≤ τ13.1 37 ∧ τ13.1 37 ≤ 4 := hT.1 37
              have a14_7 : 0 ≤ τ13.2.1 14 (τ13.1 7) ∧ τ13.2.1 14 (τ13.1 7) ≤ 30000 := hT.2 14 _
              have av6 : σ.1 6 ≤ τ13.1 6 := ag.1 6 (by decide)
              have RK2 : J_rks (τ13.1 5) (τ13.1 4) (τ13.2.1 10) (τ13.2.1 11) ∧ 0 ≤ τ13.2.1 10 n1 ∧ j_rr (σ.1 5) (σ.2.1 10) (τ13.2.1 10) ∧ j_eq (σ.1 4) (σ.2.1 11) (τ13.2.1 11) ∧ σ.1 4 ≤ τ13.1 4 := by by_cases z : σ.2.1 10 n1 = -1; (obtain ⟨e1, e2, e3⟩ := q11_2 z; rw [e1, e2, e3, w5_τ13, st_s]; exact ⟨J_rks_g RKS_0 (by omega) (by omega) z, by omega, j_rrs (by omega), j_eqs (j_eq0 _ _) (Int.le_refl _), by omega⟩); (obtain ⟨e1, e2, e3⟩ := q11_1 z; rw [e1, e2, e3, w5_τ13]; exact ⟨RKS_0, by have := A10o n1; omega, j_rr0 _ _, j_eq0 _ _, Int.le_refl _⟩)
              obtain ⟨RKS, rk0, RR0, RY0, RZ0⟩ := RK2
              refine ⟨_, K2_X3_append hT (show 0 ≤ n1 from by (first | omega | (simp only [st_s] <;> omega) | assumption | omega | fail)) (show n1 < 1000 from by (first | omega | (simp only [st_s] <;> omega) | assumption | omega | fail)) (show -1 ≤ (-1 : Int) from by (first | omega | (simp only [st_s] <;> omega) | assumption | omega | fail)) (show (-1 : Int) < 1500 from by (first | omega | (simp only [st_s] <;> omega) | assumption | omega | fail)) (show (τ13.1 6) < 30000 from by (first | omega | (simp only [st_s] <;> omega) | assumption | omega | fail)) (show (τ13.1 7) < 1500 from by (first | omega | (simp only [st_s] <;> omega) | assumption | omega | fail)), ?_⟩
              intro τ16 hn_τ16 hf_τ16 hq
              obtain ⟨hT, q14_1, q14_2, q14_3, q14_4, q14_5⟩ := hq
              replace q14_1 : (τ16.1 6) = (τ13.1 6) + 1 := q14_1
              replace q14_2 : τ16.2.1 14 = st (τ13.2.1 14) ((τ13.1 7) + 1) ((τ13.1 6) + 1) := q14_2
              replace q14_3 : τ16.2.1 15 = st (τ13.2.1 15) (τ13.1 6) n1 := q14_3
              replace q14_4 : τ16.2.1 16 = st (τ13.2.1 16) (τ13.1 6) (-1 : Int) := q14_4
              replace q14_5 : c_ag τ13 τ16 := q14_5
              replace ag : c_ag σ τ16 := ag_t ag q14_5 rfl
              have w3_τ16 : τ16.1 3 = τ13.1 3 := hf_τ16.1 3 (by decide)
              have w4_τ16 : τ16.1 4 = τ13.1 4 := hf_τ16.1 4 (by decide)
              have w5_τ16 : τ16.1 5 = τ13.1 5 := hf_τ16.1 5 (by decide)
              have w7_τ16 : τ16.1 7 = τ13.1 7 := hf_τ16.1 7 (by decide)
              have w13_τ16 : τ16.1 13 = τ13.1 13 := hf_τ16.1 13 (by decide)
              have w14_τ16 : τ16.1 14 = τ13.1 14 := hf_τ16.1 14 (by decide)
              have w15_τ16 : τ16.1 15 = τ13.1 15 := hf_τ16.1 15 (by decide)
              have w16_τ16 : τ16.1 16 = τ13.1 16 := hf_τ16.1 16 (by decide)
              have w37_τ16 : τ16.1 37 = τ13.1 37 := hf_τ16.1 37 (by decide)
              have g8_τ16 : τ16.2.1 8 = τ13.2.1 8 := hf_τ16.2.1 8 (by decide)
              have g10_τ16 : τ16.2.1 10 = τ13.2.1 10 := hf_τ16.2.1 10 (by decide)
              have g11_τ16 : τ16.2.1 11 = τ13.2.1 11 := hf_τ16.2.1 11 (by decide)
              have g19_τ16 : τ16.2.1 19 = τ13.2.1 19 := hf_τ16.2.1 19 (by decide)
              have g20_τ16 : τ16.2.1 20 = τ13.2.1 20 := hf_τ16.2.1 20 (by decide)
              have g22_τ16 : τ16.2.1 22 = τ13.2.1 22 := hf_τ16.2.1 22 (by decide)
              have g25_τ16 : τ16.2.1 25 = τ13.2.1 25 := hf_τ16.2.1 25 (by decide)
              have W3 : τ16.1 3 = σ.1 3 := by first | exact w3_τ16.trans W3 | omega
              have W5 : τ16.1 5 = σ.1 5 := by first | exact w5_τ16.trans W5 | omega
              have W7 : τ16.1 7 = σ.1 7 := by first | exact w7_τ16.trans W7 | omega
              have W13 : τ16.1 13 = σ.1 13 := by first | exact w13_τ16.trans W13 | omega
              have W14 : τ16.1 14 = σ.1 14 := by first | exact w14_τ16.trans W14 | omega
              have W15 : τ16.1 15 = σ.1 15 := by first | exact w15_τ16.trans W15 | omega
              have W16 : τ16.1 16 = σ.1 16 := by first | exact w16_τ16.trans W16 | omega
              have W37 : τ16.1 37 = σ.1 37 := by first | exact w37_τ16.trans W37 | omega
              have G8 : τ16.2.1 8 = σ.2.1 8 := (g8_τ16).trans G8
              have G19 : τ16.2.1 19 = σ.2.1 19 := (g19_τ16).trans G19
              have G20 : τ16.2.1 20 = σ.2.1 20 := (g20_τ16).trans G20
              have G22 : τ16.2.1 22 = σ.2.1 22 := (g22_τ16).trans G22
              have G25 : τ16.2.1 25 = σ.2.1 25 := (g25_τ16).trans G25
              have RKS : J_rks (τ16.1 5) (τ16.1 4) (τ16.2.1 10) (τ16.2.1 11) := by rw [show (J_rks (τ16.1 5) (τ16.1 4) (τ16.2.1 10) (τ16.2.1 11)) = (J_rks (τ13.1 5) (τ13.1 4) (τ13.2.1 10) (τ13.2.1 11)) from by rw [w4_τ16, w5_τ16, g10_τ16, g11_τ16]]; exact RKS
              have A8 : ∀ j, 0 ≤ τ16.2.1 8 j ∧ τ16.2.1 8 j ≤ 1 := fun j => hT.2 8 j
              have A10 : ∀ j, (-1) ≤ τ16.2.1 10 j ∧ τ16.2.1 10 j ≤ 99 := fun j => hT.2 10 j
              have A11 : ∀ j, 0 ≤ τ16.2.1 11 j ∧ τ16.2.1 11 j ≤ 999 := fun j => hT.2 11 j
              have A14 : ∀ j, 0 ≤ τ16.2.1 14 j ∧ τ16.2.1 14 j ≤ 30000 := fun j => hT.2 14 j
              have A15 : ∀ j, 0 ≤ τ16.2.1 15 j ∧ τ16.2.1 15 j ≤ 999 := fun j => hT.2 15 j
              have A16 : ∀ j, (-1) ≤ τ16.2.1 16 j ∧ τ16.2.1 16 j ≤ 1499 := fun j => hT.2 16 j
              have A19 : ∀ j, (-1) ≤ τ16.2.1 19 j ∧ τ16.2.1 19 j ≤ 1499 := fun j => hT.2 19 j
              have A20 : ∀ j, 0 ≤ τ16.2.1 20 j ∧ τ16.2.1 20 j ≤ 999 := fun j => hT.2 20 j
              have A22 : ∀ j, 0 ≤ τ16.2.1 22 j ∧ τ16.2.1 22 j ≤ 1499 := fun j => hT.2 22 j
              have v3 : 0 ≤ τ16.1 3 ∧ τ16.1 3 ≤ 2500 := hT.1 3
              have v4 : 0 ≤ τ16.1 4 ∧ τ16.1 4 ≤ 100 := hT.1 4
              have v5 : 0 ≤ τ16.1 5 ∧ τ16.1 5 ≤ 1000 := hT.1 5
              have v6 : 0 ≤ τ16.1 6 ∧ τ16.1 6 ≤ 30000 := hT.1 6
              have v7 : 0 ≤ τ16.1 7 ∧ τ16.1 7 ≤ 1500 := hT.1 7
              have v13 : 0 ≤ τ16.1 13 ∧ τ16.1 13 ≤ 90000 := hT.1 13
              have v14 : 0 ≤ τ16.1 14 ∧ τ16.1 14 ≤ 20000 := hT.1 14
              have v15 : 0 ≤ τ16.1 15 ∧ τ16.1 15 ≤ 20000 := hT.1 15
              have v16 : 0 ≤ τ16.1 16 ∧ τ16.1 16 ≤ 20000 := hT.1 16
              have v37 : 0 ≤ τ16.1 37 ∧ τ16.1 37 ≤ 4 := hT.1 37
              have a14_7 : 0 ≤ τ16.2.1 14 (τ16.1 7) ∧ τ16.2.1 14 (τ16.1 7) ≤ 30000 := hT.2 14 _
              have av6 : σ.1 6 ≤ τ16.1 6 := ag.1 6 (by decide)
              have TX : J_vs (τ16.1 6) (τ16.1 5) (τ16.2.1 15) := by rw [q14_1, q14_3, w5_τ16]; exact J_vs_a TX (Int.le_refl _) (by omega)
              have IPn : J_ip (τ16.1 7) (τ16.1 6) (τ16.1 37) (τ16.2.1 14) (τ16.2.1 15) (τ16.2.1 16) (τ16.2.1 19) := by rw [q14_1, q14_2, q14_3, q14_4, w7_τ16, w37_τ16, g19_τ16, w6_τ13, w7_τ13, w37_τ13, g14_τ13, g15_τ13, g16_τ13, g19_τ13]; exact J_ip_a IP_0 (st_n _ _ (by omega)) (Or.inl rfl) (fun _ z => by exfalso; omega) (fun _ => rfl)
              exact ⟨hT, (show 0 ≤ 0 ∧ 0 ≤ 19 from by (first | omega | (simp only [st_s] <;> omega) | assumption | omega | fail)), (show J_vs (τ16.1 6) (τ16.1 5) (τ16.2.1 15) from TX), (show J_rks (τ16.1 5) (τ16.1 4) (τ16.2.1 10) (τ16.2.1 11) from RKS), (show j_rr ((σ.1 5)) (σ.2.1 10) (τ16.2.1 10) from by (first | exact j_rr0 _ _ | (rw [g10_τ16]; exact RR0) | fail)), (show 0 = 0 → (τ16.1 6) = (σ.1 6) + 1 ∧ τ16.2.1 14 ((τ16.1 7) + 1) = (τ16.1 6) ∧ 0 ≤ τ16.2.1 10 (τ16.2.1 15 (τ16.2.1 14 (τ16.1 7))) from by (first | (intro z; exfalso; omega) | (intro _; refine ⟨by omega, by rw [q14_2, w7_τ16, st_s, q14_1], ?_⟩; rw [q14_2, w7_τ16, st_n _ _ (by omega), q14_3, g14_τ13, w7_τ13, p4, w6_τ13, st_s, g10_τ16]; exact rk0) | fail)), (show 0 = 0 → J_ip (τ16.1 7) (τ16.1 6) (τ16.1 37) (τ16.2.1 14) (τ16.2.1 15) (τ16.2.1 16) (τ16.2.1 19) from by (first | (intro z; exfalso; omega) | (intro _; exact IPn) | fail)), (show c_Y σ τ16 from by (first | exact c_Y0 _ | (exact ⟨⟨by rw [g20_τ16, g20_τ13]; exact j_eq0 _ _, by rw [g22_τ16, g22_τ13]; exact j_eq0 _ _, by rw [g11_τ16]; exact RY0, by omega⟩, by rw [g25_τ16, g25_τ13], by rw [g25_τ16, g25_τ13], by rw [g25_τ16, g25_τ13]⟩) | fail)), ag⟩
            ·
              refine ⟨_, K_X9_isKnown hT (show -1 ≤ n1 from by (first | omega | (simp only [st_s] <;> omega) | assumption | omega | fail)) (show n1 < 1000 from by (first | omega | (simp only [st_s] <;> omega) | assumption | omega | fail)), ?_⟩
              intro x18 r_x18 hq
              obtain ⟨q17_1, q17_2, q17_3, q17_4⟩ := hq
              replace q17_1 : 0 ≤ x18 ∧ x18 ≤ 1 := q17_1
              replace q17_2 : ¬ x18 = 0 → 0 ≤ n1 := q17_2
              replace q17_3 : ¬ x18 = 0 → σ.2.1 8 n1 = 0 ∨ ¬ σ.2.1 18 n1 = 0 := q17_3
              replace q17_4 : 0 ≤ n1 → (σ.2.1 8 n1 = 0 ∨ ¬ σ.2.1 18 n1 = 0) → ¬ x18 = 0 := q17_4
              refine ⟨fun c20 => ?_, fun c20 => ?_⟩
              ·
                exact ⟨hT, (show 0 ≤ 9 ∧ 9 ≤ 19 from by (first | omega | (simp only [st_s] <;> omega) | assumption | omega | fail)), (show J_vs (σ.1 6) (σ.1 5) (σ.2.1 15) from TX), (show J_rks (σ.1 5) (σ.1 4) (σ.2.1 10) (σ.2.1 11) from RKS), (show j_rr ((σ.1 5)) (σ.2.1 10) (σ.2.1 10) from by (first | exact j_rr0 _ _ | (rw [g10_τ16]; exact RR0) | fail)), (show 9 = 0 → (σ.1 6) = (σ.1 6) + 1 ∧ σ.2.1 14 ((σ.1 7) + 1) = (σ.1 6) ∧ 0 ≤ σ.2.1 10 (σ.2.1 15 (σ.2.1 14 (σ.1 7))) from by (first | (intro z; exfalso; omega) | (intro _; refine ⟨by omega, by rw [q14_2, w7_τ16, st_s, q14_1], ?_⟩; rw [q14_2, w7_τ16, st_n _ _ (by omega), q14_3, g14_τ13, w7_τ13, p4, w6_τ13, st_s, g10_τ16]; exact rk0) | fail)), (show 9 = 0 → J_ip (σ.1 7) (σ.1 6) (σ.1 37) (σ.2.1 14) (σ.2.1 15) (σ.2.1 16) (σ.2.1 19) from by (first | (intro z; exfalso; omega) | (intro _; exact IPn) | fail)), (show c_Y σ σ from by (first | exact c_Y0 _ | (exact ⟨⟨by rw [g20_τ16, g20_τ13]; exact j_eq0 _ _, by rw [g22_τ16, g22_τ13]; exact j_eq0 _ _, by rw [g11_τ16]; exact RY0, by omega⟩, by rw [g25_τ16, g25_τ13], by rw [g25_τ16, g25_τ13], by rw [g25_τ16, g25_τ13]⟩) | fail)), ag⟩
              ·
                exact ⟨hT, (show 0 ≤ 10 ∧ 10 ≤ 19 from by (first | omega | (simp only [st_s] <;> omega) | assumption | omega | fail)), (show J_vs (σ.1 6) (σ.1 5) (σ.2.1 15) from TX), (show J_rks (σ.1 5) (σ.1 4) (σ.2.1 10) (σ.2.1 11) from RKS), (show j_rr ((σ.1 5)) (σ.2.1 10) (σ.2.1 10) from by (first | exact j_rr0 _ _ | (rw [g10_τ16]; exact RR0) | fail)), (show 10 = 0 → (σ.1 6) = (σ.1 6) + 1 ∧ σ.2.1 14 ((σ.1 7) + 1) = (σ.1 6) ∧ 0 ≤ σ.2.1 10 (σ.2.1 15 (σ.2.1 14 (σ.1 7))) from by (first | (intro z; exfalso; omega) | (intro _; refine ⟨by omega, by rw [q14_2, w7_τ16, st_s, q14_1], ?_⟩; rw [q14_2, w7_τ16, st_n _ _ (by omega), q14_3, g14_τ13, w7_τ13, p4, w6_τ13, st_s, g10_τ16]; exact rk0) | fail)), (show 10 = 0 → J_ip (σ.1 7) (σ.1 6) (σ.1 37) (σ.2.1 14) (σ.2.1 15) (σ.2.1 16) (σ.2.1 19) from by (first | (intro z; exfalso; omega) | (intro _; exact IPn) | fail)), (show c_Y σ σ from by (first | exact c_Y0 _ | (exact ⟨⟨by rw [g20_τ16, g20_τ13]; exact j_eq0 _ _, by rw [g22_τ16, g22_τ13]; exact j_eq0 _ _, by rw [g11_τ16]; exact RY0, by omega⟩, by rw [g25_τ16, g25_τ13], by rw [g25_τ16, g25_τ13], by rw [g25_τ16, g25_τ13]⟩) | fail)), ag⟩
          ·
            exact ⟨hT, (show 0 ≤ 5 ∧ 5 ≤ 19 from by (first | omega | (simp only [st_s] <;> omega) | assumption | omega | fail)), (show J_vs (σ.1 6) (σ.1 5) (σ.2.1 15) from TX), (show J_rks (σ.1 5) (σ.1 4) (σ.2.1 10) (σ.2.1 11) from RKS), (show j_rr ((σ.1 5)) (σ.2.1 10) (σ.2.1 10) from by (first | exact j_rr0 _ _ | (rw [g10_τ16]; exact RR0) | fail)), (show 5 = 0 → (σ.1 6) = (σ.1 6) + 1 ∧ σ.2.1 14 ((σ.1 7) + 1) = (σ.1 6) ∧ 0 ≤ σ.2.1 10 (σ.2.1 15 (σ.2.1 14 (σ.1 7))) from by (first | (intro z; exfalso; omega) | (intro _; refine ⟨by omega, by rw [q14_2, w7_τ16, st_s, q14_1], ?_⟩; rw [q14_2, w7_τ16, st_n _ _ (by omega), q14_3, g14_τ13, w7_τ13, p4, w6_τ13, st_s, g10_τ16]; exact rk0) | fail)), (show 5 = 0 → J_ip (σ.1 7) (σ.1 6) (σ.1 37) (σ.2.1 14) (σ.2.1 15) (σ.2.1 16) (σ.2.1 19) from by (first | (intro z; exfalso; omega) | (intro _; exact IPn) | fail)), (show c_Y σ σ from by (first | exact c_Y0 _ | (exact ⟨⟨by rw [g20_τ16, g20_τ13]; exact j_eq0 _ _, by rw [g22_τ16, g22_τ13]; exact j_eq0 _ _, by rw [g11_τ16]; exact RY0, by omega⟩, by rw [g25_τ16, g25_τ13], by rw [g25_τ16, g25_τ13], by rw [g25_τ16, g25_τ13]⟩) | fail)), ag⟩
    ·
      refine h22 _ _ _ ?_
      refine ⟨fun c5 => ?_, fun c5 => ?_⟩
      ·
        refine h54 _ _ _ ?_
        refine ⟨fun c10 => ?_, fun c10 => ?_⟩
        ·
          refine ⟨_, K2_X3_giveRank hT (show 0 ≤ n1 from by (first | omega | (simp only [st_s] <;> omega) | assumption | omega | fail)) (show n1 < 1000 from by (first | omega | (simp only [st_s] <;> omega) | assumption | omega | fail)) (show σ.2.1 10 n1 = -1 → (σ.1 4) < 100 from by (first | omega | (simp only [st_s] <;> omega) | assumption | omega | fail)), ?_⟩
          intro τ13 hn_τ13 hf_τ13 hq
          obtain ⟨hT, q11_1, q11_2⟩ := hq
          replace q11_1 : ¬ σ.2.1 10 n1 = -1 → τ13.2.1 10 = σ.2.1 10 ∧ τ13.2.1 11 = σ.2.1 11 ∧ (τ13.1 4) = (σ.1 4) := q11_1
          replace q11_2 : σ.2.1 10 n1 = -1 → τ13.2.1 10 = st (σ.2.1 10) n1 (σ.1 4) ∧ τ13.2.1 11 = st (σ.2.1 11) (σ.1 4) n1 ∧ (τ13.1 4) = (σ.1 4) + 1 := q11_2
          replace ag : c_ag σ τ13 := ag_r ag hf_τ13 rfl rfl
          have w3_τ13 : τ13.1 3 = σ.1 3 := hf_τ13.1 3 (by decide)
          have w5_τ13 : τ13.1 5 = σ.1 5 := hf_τ13.1 5 (by decide)
          have w6_τ13 : τ13.1 6 = σ.1 6 := hf_τ13.1 6 (by decide)
          have w7_τ13 : τ13.1 7 = σ.1 7 := hf_τ13.1 7 (by decide)
          have w13_τ13 : τ13.1 13 = σ.1 13 := hf_τ13.1 13 (by decide)
          have w14_τ13 : τ13.1 14 = σ.1 14 := hf_τ13.1 14 (by decide)
          have w15_τ13 : τ13.1 15 = σ.1 15 := hf_τ13.1 15 (by decide)
          have w16_τ13 : τ13.1 16 = σ.1 16 := hf_τ13.1 16 (by decide)
          have w37_τ13 : τ13.1 37 = σ.1 37 := hf_τ13.1 37 (by decide)
          have g8_τ13 : τ13.2.1 8 = σ.2.1 8 := hf_τ13.2.1 8 (by decide)
          have g14_τ13 : τ13.2.1 14 = σ.2.1 14 := hf_τ13.2.1 14 (by decide)
          have g15_τ13 : τ13.2.1 15 = σ.2.1 15 := hf_τ13.2.1 15 (by decide)
          have g16_τ13 : τ13.2.1 16 = σ.2.1 16 := hf_τ13.2.1 16 (by decide)
          have g19_τ13 : τ13.2.1 19 = σ.2.1 19 := hf_τ13.2.1 19 (by decide)
          have g20_τ13 : τ13.2.1 20 = σ.2.1 20 := hf_τ13.2.1 20 (by decide)
          have g22_τ13 : τ13.2.1 22 = σ.2.1 22 := hf_τ13.2.1 22 (by decide)
          have g25_τ13 : τ13.2.1 25 = σ.2.1 25 := hf_τ13.2.1 25 (by decide)
          have W3 : τ13.1 3 = σ.1 3 := by first | exact w3_τ13.trans W3 | omega
          have W5 : τ13.1 5 = σ.1 5 := by first | exact w5_τ13.trans W5 | omega
          have W7 : τ13.1 7 = σ.1 7 := by first | exact w7_τ13.trans W7 | omega
          have W13 : τ13.1 13 = σ.1 13 := by first | exact w13_τ13.trans W13 | omega
          have W14 : τ13.1 14 = σ.1 14 := by first | exact w14_τ13.trans W14 | omega
          have W15 : τ13.1 15 = σ.1 15 := by first | exact w15_τ13.trans W15 | omega
          have W16 : τ13.1 16 = σ.1 16 := by first | exact w16_τ13.trans W16 | omega
          have W37 : τ13.1 37 = σ.1 37 := by first | exact w37_τ13.trans W37 | omega
          have G8 : τ13.2.1 8 = σ.2.1 8 := (g8_τ13).trans G8
          have G19 : τ13.2.1 19 = σ.2.1 19 := (g19_τ13).trans G19
          have G20 : τ13.2.1 20 = σ.2.1 20 := (g20_τ13).trans G20
          have G22 : τ13.2.1 22 = σ.2.1 22 := (g22_τ13).trans G22
          have G25 : τ13.2.1 25 = σ.2.1 25 := (g25_τ13).trans G25
          have y14_7_τ13 : τ13.2.1 14 (τ13.1 7) = (σ.2.1 14) (σ.1 7) := by rw [g14_τ13, w7_τ13]
          have TX : J_vs (τ13.1 6) (τ13.1 5) (τ13.2.1 15) := by rw [show (J_vs (τ13.1 6) (τ13.1 5) (τ13.2.1 15)) = (J_vs (σ.1 6) (σ.1 5) (σ.2.1 15)) from by rw [w5_τ13, w6_τ13, g15_τ13]]; exact TX
          have IP : J_ip (τ13.1 7) (τ13.1 6) (τ13.1 37) (τ13.2.1 14) (τ13.2.1 15) (τ13.2.1 16) (τ13.2.1 19) := by rw [show (J_ip (τ13.1 7) (τ13.1 6) (τ13.1 37) (τ13.2.1 14) (τ13.2.1 15) (τ13.2.1 16) (τ13.2.1 19)) = (J_ip (σ.1 7) (σ.1 6) (σ.1 37) (σ.2.1 14) (σ.2.1 15) (σ.2.1 16) (σ.2.1 19)) from by rw [w6_τ13, w7_τ13, w37_τ13, g14_τ13, g15_τ13, g16_τ13, g19_τ13]]; exact IP
          have A8 : ∀ j, 0 ≤ τ13.2.1 8 j ∧ τ13.2.1 8 j ≤ 1 := fun j => hT.2 8 j
          have A10 : ∀ j, (-1) ≤ τ13.2.1 10 j ∧ τ13.2.1 10 j ≤ 99 := fun j => hT.2 10 j
          have A11 : ∀ j, 0 ≤ τ13.2.1 11 j ∧ τ13.2.1 11 j ≤ 999 := fun j => hT.2 11 j
          have A14 : ∀ j, 0 ≤ τ13.2.1 14 j ∧ τ13.2.1 14 j ≤ 30000 := fun j => hT.2 14 j
          have A15 : ∀ j, 0 ≤ τ13.2.1 15 j ∧ τ13.2.1 15 j ≤ 999 := fun j => hT.2 15 j
          have A16 : ∀ j, (-1) ≤ τ13.2.1 16 j ∧ τ13.2.1 16 j ≤ 1499 := fun j => hT.2 16 j
          have A19 : ∀ j, (-1) ≤ τ13.2.1 19 j ∧ τ13.2.1 19 j ≤ 1499 := fun j => hT.2 19 j
          have A20 : ∀ j, 0 ≤ τ13.2.1 20 j ∧ τ13.2.1 20 j ≤ 999 := fun j => hT.2 20 j
          have A22 : ∀ j, 0 ≤ τ13.2.1 22 j ∧ τ13.2.1 22 j ≤ 1499 := fun j => hT.2 22 j
          have v3 : 0 ≤ τ13.1 3 ∧ τ13.1 3 ≤ 2500 := hT.1 3
          have v4 : 0 ≤ τ13.1 4 ∧ τ13.1 4 ≤ 100 := hT.1 4
          have v5 : 0 ≤ τ13.1 5 ∧ τ13.1 5 ≤ 1000 := hT.1 5
          have v6 : 0 ≤ τ13.1 6 ∧ τ13.1 6 ≤ 30000 := hT.1 6
          have v7 : 0 ≤ τ13.1 7 ∧ τ13.1 7 ≤ 1500 := hT.1 7
          have v13 : 0 ≤ τ13.1 13 ∧ τ13.1 13 ≤ 90000 := hT.1 13
          have v14 : 0 ≤ τ13.1 14 ∧ τ13.1 14 ≤ 20000 := hT.1 14
          have v15 : 0 ≤ τ13.1 15 ∧ τ13.1 15 ≤ 20000 := hT.1 15
          have v16 : 0 ≤ τ13.1 16 ∧ τ13.1 16 ≤ 20000 := hT.1 16
          have v37 : 0 ≤ τ13.1 37 ∧ τ13.1 37 ≤ 4 := hT.1 37
          have a14_7 : 0 ≤ τ13.2.1 14 (τ13.1 7) ∧ τ13.2.1 14 (τ13.1 7) ≤ 30000 := hT.2 14 _
          have av6 : σ.1 6 ≤ τ13.1 6 := ag.1 6 (by decide)
          have RK2 : J_rks (τ13.1 5) (τ13.1 4) (τ13.2.1 10) (τ13.2.1 11) ∧ 0 ≤ τ13.2.1 10 n1 ∧ j_rr (σ.1 5) (σ.2.1 10) (τ13.2.1 10) ∧ j_eq (σ.1 4) (σ.2.1 11) (τ13.2.1 11) ∧ σ.1 4 ≤ τ13.1 4 := by by_cases z : σ.2.1 10 n1 = -1; (obtain ⟨e1, e2, e3⟩ := q11_2 z; rw [e1, e2, e3, w5_τ13, st_s]; exact ⟨J_rks_g RKS_0 (by omega) (by omega) z, by omega, j_rrs (by omega), j_eqs (j_eq0 _ _) (Int.le_refl _), by omega⟩); (obtain ⟨e1, e2, e3⟩ := q11_1 z; rw [e1, e2, e3, w5_τ13]; exact ⟨RKS_0, by have := A10o n1; omega, j_rr0 _ _, j_eq0 _ _, Int.le_refl _⟩)
          obtain ⟨RKS, rk0, RR0, RY0, RZ0⟩ := RK2
          refine ⟨_, K2_X3_append hT (show 0 ≤ n1 from by (first | omega | (simp only [st_s] <;> omega) | assumption | omega | fail)) (show n1 < 1000 from by (first | omega | (simp only [st_s] <;> omega) | assumption | omega | fail)) (show -1 ≤ (-1 : Int) from by (first | omega | (simp only [st_s] <;> omega) | assumption | omega | fail)) (show (-1 : Int) < 1500 from by (first | omega | (simp only [st_s] <;> omega) | assumption | omega | fail)) (show (τ13.1 6) < 30000 from by (first | omega | (simp only [st_s] <;> omega) | assumption | omega | fail)) (show (τ13.1 7) < 1500 from by (first | omega | (simp only [st_s] <;> omega) | assumption | omega | fail)), ?_⟩
          intro τ16 hn_τ16 hf_τ16 hq
          obtain ⟨hT, q14_1, q14_2, q14_3, q14_4, q14_5⟩ := hq
          replace q14_1 : (τ16.1 6) = (τ13.1 6) + 1 := q14_1
          replace q14_2 : τ16.2.1 14 = st (τ13.2.1 14) ((τ13.1 7) + 1) ((τ13.1 6) + 1) := q14_2
          replace q14_3 : τ16.2.1 15 = st (τ13.2.1 15) (τ13.1 6) n1 := q14_3
          replace q14_4 : τ16.2.1 16 = st (τ13.2.1 16) (τ13.1 6) (-1 : Int) := q14_4
          replace q14_5 : c_ag τ13 τ16 := q14_5
          replace ag : c_ag σ τ16 := ag_t ag q14_5 rfl
          have w3_τ16 : τ16.1 3 = τ13.1 3 := hf_τ16.1 3 (by decide)
          have w4_τ16 : τ16.1 4 = τ13.1 4 := hf_τ16.1 4 (by decide)
          have w5_τ16 : τ16.1 5 = τ13.1 5 := hf_τ16.1 5 (by decide)
          have w7_τ16 : τ16.1 7 = τ13.1 7 := hf_τ16.1 7 (by decide)
          have w13_τ16 : τ16.1 13 = τ13.1 13 := hf_τ16.1 13 (by decide)
          have w14_τ16 : τ16.1 14 = τ13.1 14 := hf_τ16.1 14 (by decide)
          have w15_τ16 : τ16.1 15 = τ13.1 15 := hf_τ16.1 15 (by decide)
          have w16_τ16 : τ16.1 16 = τ13.1 16 := hf_τ16.1 16 (by decide)
          have w37_τ16 : τ16.1 37 = τ13.1 37 := hf_τ16.1 37 (by decide)
          have g8_τ16 : τ16.2.1 8 = τ13.2.1 8 := hf_τ16.2.1 8 (by decide)
          have g10_τ16 : τ16.2.1 10 = τ13.2.1 10 := hf_τ16.2.1 10 (by decide)
          have g11_τ16 : τ16.2.1 11 = τ13.2.1 11 := hf_τ16.2.1 11 (by decide)
          have g19_τ16 : τ16.2.1 19 = τ13.2.1 19 := hf_τ16.2.1 19 (by decide)
          have g20_τ16 : τ16.2.1 20 = τ13.2.1 20 := hf_τ16.2.1 20 (by decide)
          have g22_τ16 : τ16.2.1 22 = τ13.2.1 22 := hf_τ16.2.1 22 (by decide)
          have g25_τ16 : τ16.2.1 25 = τ13.2.1 25 := hf_τ16.2.1 25 (by decide)
          have W3 : τ16.1 3 = σ.1 3 := by first | exact w3_τ16.trans W3 | omega
          have W5 : τ16.1 5 = σ.1 5 := by first | exact w5_τ16.trans W5 | omega
          have W7 : τ16.1 7 = σ.1 7 := by first | exact w7_τ16.trans W7 | omega
          have W13 : τ16.1 13 = σ.1 13 := by first | exact w13_τ16.trans W13 | omega
          have W14 : τ16.1 14 = σ.1 14 := by first | exact w14_τ16.trans W14 | omega
          have W15 : τ16.1 15 = σ.1 15 := by first | exact w15_τ16.trans W15 | omega
          have W16 : τ16.1 16 = σ.1 16 := by first | exact w16_τ16.trans W16 | omega
          have W37 : τ16.1 37 = σ.1 37 := by first | exact w37_τ16.trans W37 | omega
          have G8 : τ16.2.1 8 = σ.2.1 8 := (g8_τ16).trans G8
          have G19 : τ16.2.1 19 = σ.2.1 19 := (g19_τ16).trans G19
          have G20 : τ16.2.1 20 = σ.2.1 20 := (g20_τ16).trans G20
          have G22 : τ16.2.1 22 = σ.2.1 22 := (g22_τ16).trans G22
          have G25 : τ16.2.1 25 = σ.2.1 25 := (g25_τ16).trans G25
          have RKS : J_rks (τ16.1 5) (τ16.1 4) (τ16.2.1 10) (τ16.2.1 11) := by rw [show (J_rks (τ16.1 5) (τ16.1 4) (τ16.2.1 10) (τ16.2.1 11)) = (J_rks (τ13.1 5) (τ13.1 4) (τ13.2.1 10) (τ13.2.1 11)) from by rw [w4_τ16, w5_τ16, g10_τ16, g11_τ16]]; exact RKS
          have A8 : ∀ j, 0 ≤ τ16.2.1 8 j ∧ τ16.2.1 8 j ≤ 1 := fun j => hT.2 8 j
          have A10 : ∀ j, (-1) ≤ τ16.2.1 10 j ∧ τ16.2.1 10 j ≤ 99 := fun j => hT.2 10 j
          have A11 : ∀ j, 0 ≤ τ16.2.1 11 j ∧ τ16.2.1 11 j ≤ 999 := fun j => hT.2 11 j
          have A14 : ∀ j, 0 ≤ τ16.2.1 14 j ∧ τ16.2.1 14 j ≤ 30000 := fun j => hT.2 14 j
          have A15 : ∀ j, 0 ≤ τ16.2.1 15 j ∧ τ16.2.1 15 j ≤ 999 := fun j => hT.2 15 j
          have A16 : ∀ j, (-1) ≤ τ16.2.1 16 j ∧ τ16.2.1 16 j ≤ 1499 := fun j => hT.2 16 j
          have A19 : ∀ j, (-1) ≤ τ16.2.1 19 j ∧ τ16.2.1 19 j ≤ 1499 := fun j => hT.2 19 j
          have A20 : ∀ j, 0 ≤ τ16.2.1 20 j ∧ τ16.2.1 20 j ≤ 999 := fun j => hT.2 20 j
          have A22 : ∀ j, 0 ≤ τ16.2.1 22 j ∧ τ16.2.1 22 j ≤ 1499 := fun j => hT.2 22 j
          have v3 : 0 ≤ τ16.1 3 ∧ τ16.1 3 ≤ 2500 := hT.1 3
          have v4 : 0 ≤ τ16.1 4 ∧ τ16.1 4 ≤ 100 := hT.1 4
          have v5 : 0 ≤ τ16.1 5 ∧ τ16.1 5 ≤ 1000 := hT.1 5
          have v6 : 0 ≤ τ16.1 6 ∧ τ16.1 6 ≤ 30000 := hT.1 6
          have v7 : 0 ≤ τ16.1 7 ∧ τ16.1 7 ≤ 1500 := hT.1 7
          have v13 : 0 ≤ τ16.1 13 ∧ τ16.1 13 ≤ 90000 := hT.1 13
          have v14 : 0 ≤ τ16.1 14 ∧ τ16.1 14 ≤ 20000 := hT.1 14
          have v15 : 0 ≤ τ16.1 15 ∧ τ16.1 15 ≤ 20000 := hT.1 15
          have v16 : 0 ≤ τ16.1 16 ∧ τ16.1 16 ≤ 20000 := hT.1 16
          have v37 : 0 ≤ τ16.1 37 ∧ τ16.1 37 ≤ 4 := hT.1 37
          have a14_7 : 0 ≤ τ16.2.1 14 (τ16.1 7) ∧ τ16.2.1 14 (τ16.1 7) ≤ 30000 := hT.2 14 _
          have av6 : σ.1 6 ≤ τ16.1 6 := ag.1 6 (by decide)
          have TX : J_vs (τ16.1 6) (τ16.1 5) (τ16.2.1 15) := by rw [q14_1, q14_3, w5_τ16]; exact J_vs_a TX (Int.le_refl _) (by omega)
          have IPn : J_ip (τ16.1 7) (τ16.1 6) (τ16.1 37) (τ16.2.1 14) (τ16.2.1 15) (τ16.2.1 16) (τ16.2.1 19) := by rw [q14_1, q14_2, q14_3, q14_4, w7_τ16, w37_τ16, g19_τ16, w6_τ13, w7_τ13, w37_τ13, g14_τ13, g15_τ13, g16_τ13, g19_τ13]; exact J_ip_a IP_0 (st_n _ _ (by omega)) (Or.inl rfl) (fun _ z => by exfalso; omega) (fun _ => rfl)
          exact ⟨hT, (show 0 ≤ 0 ∧ 0 ≤ 19 from by (first | omega | (simp only [st_s] <;> omega) | assumption | omega | fail)), (show J_vs (τ16.1 6) (τ16.1 5) (τ16.2.1 15) from TX), (show J_rks (τ16.1 5) (τ16.1 4) (τ16.2.1 10) (τ16.2.1 11) from RKS), (show j_rr ((σ.1 5)) (σ.2.1 10) (τ16.2.1 10) from by (first | exact j_rr0 _ _ | (rw [g10_τ16]; exact RR0) | fail)), (show 0 = 0 → (τ16.1 6) = (σ.1 6) + 1 ∧ τ16.2.1 14 ((τ16.1 7) + 1) = (τ16.1 6) ∧ 0 ≤ τ16.2.1 10 (τ16.2.1 15 (τ16.2.1 14 (τ16.1 7))) from by (first | (intro z; exfalso; omega) | (intro _; refine ⟨by omega, by rw [q14_2, w7_τ16, st_s, q14_1], ?_⟩; rw [q14_2, w7_τ16, st_n _ _ (by omega), q14_3, g14_τ13, w7_τ13, p4, w6_τ13, st_s, g10_τ16]; exact rk0) | fail)), (show 0 = 0 → J_ip (τ16.1 7) (τ16.1 6) (τ16.1 37) (τ16.2.1 14) (τ16.2.1 15) (τ16.2.1 16) (τ16.2.1 19) from by (first | (intro z; exfalso; omega) | (intro _; exact IPn) | fail)), (show c_Y σ τ16 from by (first | exact c_Y0 _ | (exact ⟨⟨by rw [g20_τ16, g20_τ13]; exact j_eq0 _ _, by rw [g22_τ16, g22_τ13]; exact j_eq0 _ _, by rw [g11_τ16]; exact RY0, by omega⟩, by rw [g25_τ16, g25_τ13], by rw [g25_τ16, g25_τ13], by rw [g25_τ16, g25_τ13]⟩) | fail)), ag⟩
        ·
          refine ⟨_, K_X9_isKnown hT (show -1 ≤ n1 from by (first | omega | (simp only [st_s] <;> omega) | assumption | omega | fail)) (show n1 < 1000 from by (first | omega | (simp only [st_s] <;> omega) | assumption | omega | fail)), ?_⟩
          intro x18 r_x18 hq
          obtain ⟨q17_1, q17_2, q17_3, q17_4⟩ := hq
          replace q17_1 : 0 ≤ x18 ∧ x18 ≤ 1 := q17_1
          replace q17_2 : ¬ x18 = 0 → 0 ≤ n1 := q17_2
          replace q17_3 : ¬ x18 = 0 → σ.2.1 8 n1 = 0 ∨ ¬ σ.2.1 18 n1 = 0 := q17_3
          replace q17_4 : 0 ≤ n1 → (σ.2.1 8 n1 = 0 ∨ ¬ σ.2.1 18 n1 = 0) → ¬ x18 = 0 := q17_4
          refine ⟨fun c20 => ?_, fun c20 => ?_⟩
          ·
            exact ⟨hT, (show 0 ≤ 9 ∧ 9 ≤ 19 from by (first | omega | (simp only [st_s] <;> omega) | assumption | omega | fail)), (show J_vs (σ.1 6) (σ.1 5) (σ.2.1 15) from TX), (show J_rks (σ.1 5) (σ.1 4) (σ.2.1 10) (σ.2.1 11) from RKS), (show j_rr ((σ.1 5)) (σ.2.1 10) (σ.2.1 10) from by (first | exact j_rr0 _ _ | (rw [g10_τ16]; exact RR0) | fail)), (show 9 = 0 → (σ.1 6) = (σ.1 6) + 1 ∧ σ.2.1 14 ((σ.1 7) + 1) = (σ.1 6) ∧ 0 ≤ σ.2.1 10 (σ.2.1 15 (σ.2.1 14 (σ.1 7))) from by (first | (intro z; exfalso; omega) | (intro _; refine ⟨by omega, by rw [q14_2, w7_τ16, st_s, q14_1], ?_⟩; rw [q14_2, w7_τ16, st_n _ _ (by omega), q14_3, g14_τ13, w7_τ13, p4, w6_τ13, st_s, g10_τ16]; exact rk0) | fail)), (show 9 = 0 → J_ip (σ.1 7) (σ.1 6) (σ.1 37) (σ.2.1 14) (σ.2.1 15) (σ.2.1 16) (σ.2.1 19) from by (first | (intro z; exfalso; omega) | (intro _; exact IPn) | fail)), (show c_Y σ σ from by (first | exact c_Y0 _ | (exact ⟨⟨by rw [g20_τ16, g20_τ13]; exact j_eq0 _ _, by rw [g22_τ16, g22_τ13]; exact j_eq0 _ _, by rw [g11_τ16]; exact RY0, by omega⟩, by rw [g25_τ16, g25_τ13], by rw [g25_τ16, g25_τ13], by rw [g25_τ16, g25_τ13]⟩) | fail)), ag⟩
          ·
            exact ⟨hT, (show 0 ≤ 10 ∧ 10 ≤ 19 from by (first | omega | (simp only [st_s] <;> omega) | assumption | omega | fail)), (show J_vs (σ.1 6) (σ.1 5) (σ.2.1 15) from TX), (show J_rks (σ.1 5) (σ.1 4) (σ.2.1 10) (σ.2.1 11) from RKS), (show j_rr ((σ.1 5)) (σ.2.1 10) (σ.2.1 10) from by (first | exact j_rr0 _ _ | (rw [g10_τ16]; exact RR0) | fail)), (show 10 = 0 → (σ.1 6) = (σ.1 6) + 1 ∧ σ.2.1 14 ((σ.1 7) + 1) = (σ.1 6) ∧ 0 ≤ σ.2.1 10 (σ.2.1 15 (σ.2.1 14 (σ.1 7))) from by (first | (intro z; exfalso; omega) | (intro _; refine ⟨by omega, by rw [q14_2, w7_τ16, st_s, q14_1], ?_⟩; rw [q14_2, w7_τ16, st_n _ _ (by omega), q14_3, g14_τ13, w7_τ13, p4, w6_τ13, st_s, g10_τ16]; exact rk0) | fail)), (show 10 = 0 → J_ip (σ.1 7) (σ.1 6) (σ.1 37) (σ.2.1 14) (σ.2.1 15) (σ.2.1 16) (σ.2.1 19) from by (first | (intro z; exfalso; omega) | (intro _; exact IPn) | fail)), (show c_Y σ σ from by (first | exact c_Y0 _ | (exact ⟨⟨by rw [g20_τ16, g20_τ13]; exact j_eq0 _ _, by rw [g22_τ16, g22_τ13]; exact j_eq0 _ _, by rw [g11_τ16]; exact RY0, by omega⟩, by rw [g25_τ16, g25_τ13], by rw [g25_τ16, g25_τ13], by rw [g25_τ16, g25_τ13]⟩) | fail)), ag⟩
      ·
        refine ⟨(show 0 ≤ n1 ∧ n1 < 1000 from by (first | omega | (simp only [st_s] <;> omega) | assumption | omega | fail)), ?_⟩
        intro x7 r_x7 e_x7
        have b_x7 : (-1) ≤ x7 ∧ x7 ≤ 99 := by rw [e_x7]; exact hT.2 10 _
        refine ⟨fun c8 => ?_, fun c8 => ?_⟩
        ·
          refine h54 _ _ _ ?_
          refine ⟨fun c10 => ?_, fun c10 => ?_⟩
          ·
            refine ⟨_, K2_X3_giveRank hT (show 0 ≤ n1 from by (first | omega | (simp only [st_s] <;> omega) | assumption | omega | fail)) (show n1 < 1000 from by (first | omega | (simp only [st_s] <;> omega) | assumption | omega | fail)) (show σ.2.1 10 n1 = -1 → (σ.1 4) < 100 from by (first | omega | (simp only [st_s] <;> omega) | assumption | omega | fail)), ?_⟩
            intro τ13 hn_τ13 hf_τ13 hq
            obtain ⟨hT, q11_1, q11_2⟩ := hq
            replace q11_1 : ¬ σ.2.1 10 n1 = -1 → τ13.2.1 10 = σ.2.1 10 ∧ τ13.2.1 11 = σ.2.1 11 ∧ (τ13.1 4) = (σ.1 4) := q11_1
            replace q11_2 : σ.2.1 10 n1 = -1 → τ13.2.1 10 = st (σ.2.1 10) n1 (σ.1 4) ∧ τ13.2.1 11 = st (σ.2.1 11) (σ.1 4) n1 ∧ (τ13.1 4) = (σ.1 4) + 1 := q11_2
            replace ag : c_ag σ τ13 := ag_r ag hf_τ13 rfl rfl
            have w3_τ13 : τ13.1 3 = σ.1 3 := hf_τ13.1 3 (by decide)
            have w5_τ13 : τ13.1 5 = σ.1 5 := hf_τ13.1 5 (by decide)
            have w6_τ13 : τ13.1 6 = σ.1 6 := hf_τ13.1 6 (by decide)
            have w7_τ13 : τ13.1 7 = σ.1 7 := hf_τ13.1 7 (by decide)
            have w13_τ13 : τ13.1 13 = σ.1 13 := hf_τ13.1 13 (by decide)
            have w14_τ13 : τ13.1 14 = σ.1 14 := hf_τ13.1 14 (by decide)
            have w15_τ13 : τ13.1 15 = σ.1 15 := hf_τ13.1 15 (by decide)
            have w16_τ13 : τ13.1 16 = σ.1 16 := hf_τ13.1 16 (by decide)
            have w37_τ13 : τ13.1 37 = σ.1 37 := hf_τ13.1 37 (by decide)
            have g8_τ13 : τ13.2.1 8 = σ.2.1 8 := hf_τ13.2.1 8 (by decide)
            have g14_τ13 : τ13.2.1 14 = σ.2.1 14 := hf_τ13.2.1 14 (by decide)
            have g15_τ13 : τ13.2.1 15 = σ.2.1 15 := hf_τ13.2.1 15 (by decide)
            have g16_τ13 : τ13.2.1 16 = σ.2.1 16 := hf_τ13.2.1 16 (by decide)
            have g19_τ13 : τ13.2.1 19 = σ.2.1 19 := hf_τ13.2.1 19 (by decide)
            have g20_τ13 : τ13.2.1 20 = σ.2.1 20 := hf_τ13.2.1 20 (by decide)
            have g22_τ13 : τ13.2.1 22 = σ.2.1 22 := hf_τ13.2.1 22 (by decide)
            have g25_τ13 : τ13.2.1 25 = σ.2.1 25 := hf_τ13.2.1 25 (by decide)
            have W3 : τ13.1 3 = σ.1 3 := by first | exact w3_τ13.trans W3 | omega
            have W5 : τ13.1 5 = σ.1 5 := by first | exact w5_τ13.trans W5 | omega
            have W7 : τ13.1 7 = σ.1 7 := by first | exact w7_τ13.trans W7 | omega
            have W13 : τ13.1 13 = σ.1 13 := by first | exact w13_τ13.trans W13 | omega
            have W14 : τ13.1 14 = σ.1 14 := by first | exact w14_τ13.trans W14 | omega
            have W15 : τ13.1 15 = σ.1 15 := by first | exact w15_τ13.trans W15 | omega
            have W16 : τ13.1 16 = σ.1 16 := by first | exact w16_τ13.trans W16 | omega
            have W37 : τ13.1 37 = σ.1 37 := by first | exact w37_τ13.trans W37 | omega
            have G8 : τ13.2.1 8 = σ.2.1 8 := (g8_τ13).trans G8
            have G19 : τ13.2.1 19 = σ.2.1 19 := (g19_τ13).trans G19
            have G20 : τ13.2.1 20 = σ.2.1 20 := (g20_τ13).trans G20
            have G22 : τ13.2.1 22 = σ.2.1 22 := (g22_τ13).trans G22
            have G25 : τ13.2.1 25 = σ.2.1 25 := (g25_τ13).trans G25
            have y14_7_τ13 : τ13.2.1 14 (τ13.1 7) = (σ.2.1 14) (σ.1 7) := by rw [g14_τ13, w7_τ13]
            have TX : J_vs (τ13.1 6) (τ13.1 5) (τ13.2.1 15) := by rw [show (J_vs (τ13.1 6) (τ13.1 5) (τ13.2.1 15)) = (J_vs (σ.1 6) (σ.1 5) (σ.2.1 15)) from by rw [w5_τ13, w6_τ13, g15_τ13]]; exact TX
            have IP : J_ip (τ13.1 7) (τ13.1 6) (τ13.1 37) (τ13.2.1 14) (τ13.2.1 15) (τ13.2.1 16) (τ13.2.1 19) := by rw [show (J_ip (τ13.1 7) (τ13.1 6) (τ13.1 37) (τ13.2.1 14) (τ13.2.1 15) (τ13.2.1 16) (τ13.2.1 19)) = (J_ip (σ.1 7) (σ.1 6) (σ.1 37) (σ.2.1 14) (σ.2.1 15) (σ.2.1 16) (σ.2.1 19)) from by rw [w6_τ13, w7_τ13, w37_τ13, g14_τ13, g15_τ13, g16_τ13, g19_τ13]]; exact IP
            have A8 : ∀ j, 0 ≤ τ13.2.1 8 j ∧ τ13.2.1 8 j ≤ 1 := fun j => hT.2 8 j
            have A10 : ∀ j, (-1) ≤ τ13.2.1 10 j ∧ τ13.2.1 10 j ≤ 99 := fun j => hT.2 10 j
            have A11 : ∀ j, 0 ≤ τ13.2.1 11 j ∧ τ13.2.1 11 j ≤ 999 := fun j => hT.2 11 j
            have A14 : ∀ j, 0 ≤ τ13.2.1 14 j ∧ τ13.2.1 14 j ≤ 30000 := fun j => hT.2 14 j
            have A15 : ∀ j, 0 ≤ τ13.2.1 15 j ∧ τ13.2.1 15 j ≤ 999 := fun j => hT.2 15 j
            have A16 : ∀ j, (-1) ≤ τ13.2.1 16 j ∧ τ13.2.1 16 j ≤ 1499 := fun j => hT.2 16 j
            have A19 : ∀ j, (-1) ≤ τ13.2.1 19 j ∧ τ13.2.1 19 j ≤ 1499 := fun j => hT.2 19 j
            have A20 : ∀ j, 0 ≤ τ13.2.1 20 j ∧ τ13.2.1 20 j ≤ 999 := fun j => hT.2 20 j
            have A22 : ∀ j, 0 ≤ τ13.2.1 22 j ∧ τ13.2.1 22 j ≤ 1499 := fun j => hT.2 22 j
            have v3 : 0 ≤ τ13.1 3 ∧ τ13.1 3 ≤ 2500 := hT.1 3
            have v4 : 0 ≤ τ13.1 4 ∧ τ13.1 4 ≤ 100 := hT.1 4
            have v5 : 0 ≤ τ13.1 5 ∧ τ13.1 5 ≤ 1000 := hT.1 5
            have v6 : 0 ≤ τ13.1 6 ∧ τ13.1 6 ≤ 30000 := hT.1 6
            have v7 : 0 ≤ τ13.1 7 ∧ τ13.1 7 ≤ 1500 := hT.1 7
            have v13 : 0 ≤ τ13.1 13 ∧ τ13.1 13 ≤ 90000 := hT.1 13
            have v14 : 0 ≤ τ13.1 14 ∧ τ13.1 14 ≤ 20000 := hT.1 14
            have v15 : 0 ≤ τ13.1 15 ∧ τ13.1 15 ≤ 20000 := hT.1 15
            have v16 : 0 ≤ τ13.1 16 ∧ τ13.1 16 ≤ 20000 := hT.1 16
            have v37 : 0 ≤ τ13.1 37 ∧ τ13.1 37 ≤ 4 := hT.1 37
            have a14_7 : 0 ≤ τ13.2.1 14 (τ13.1 7) ∧ τ13.2.1 14 (τ13.1 7) ≤ 30000 := hT.2 14 _
            have av6 : σ.1 6 ≤ τ13.1 6 := ag.1 6 (by decide)
            have RK2 : J_rks (τ13.1 5) (τ13.1 4) (τ13.2.1 10) (τ13.2.1 11) ∧ 0 ≤ τ13.2.1 10 n1 ∧ j_rr (σ.1 5) (σ.2.1 10) (τ13.2.1 10) ∧ j_eq (σ.1 4) (σ.2.1 11) (τ13.2.1 11) ∧ σ.1 4 ≤ τ13.1 4 := by by_cases z : σ.2.1 10 n1 = -1; (obtain ⟨e1, e2, e3⟩ := q11_2 z; rw [e1, e2, e3, w5_τ13, st_s]; exact ⟨J_rks_g RKS_0 (by omega) (by omega) z, by omega, j_rrs (by omega), j_eqs (j_eq0 _ _) (Int.le_refl _), by omega⟩); (obtain ⟨e1, e2, e3⟩ := q11_1 z; rw [e1, e2, e3, w5_τ13]; exact ⟨RKS_0, by have := A10o n1; omega, j_rr0 _ _, j_eq0 _ _, Int.le_refl _⟩)
            obtain ⟨RKS, rk0, RR0, RY0, RZ0⟩ := RK2
            refine ⟨_, K2_X3_append hT (show 0 ≤ n1 from by (first | omega | (simp only [st_s] <;> omega) | assumption | omega | fail)) (show n1 < 1000 from by (first | omega | (simp only [st_s] <;> omega) | assumption | omega | fail)) (show -1 ≤ (-1 : Int) from by (first | omega | (simp only [st_s] <;> omega) | assumption | omega | fail)) (show (-1 : Int) < 1500 from by (first | omega | (simp only [st_s] <;> omega) | assumption | omega | fail)) (show (τ13.1 6) < 30000 from by (first | omega | (simp only [st_s] <;> omega) | assumption | omega | fail)) (show (τ13.1 7) < 1500 from by (first | omega | (simp only [st_s] <;> omega) | assumption | omega | fail)), ?_⟩
            intro τ16 hn_τ16 hf_τ16 hq
            obtain ⟨hT, q14_1, q14_2, q14_3, q14_4, q14_5⟩ := hq
            replace q14_1 : (τ16.1 6) = (τ13.1 6) + 1 := q14_1
            replace q14_2 : τ16.2.1 14 = st (τ13.2.1 14) ((τ13.1 7) + 1) ((τ13.1 6) + 1) := q14_2
            replace q14_3 : τ16.2.1 15 = st (τ13.2.1 15) (τ13.1 6) n1 := q14_3
            replace q14_4 : τ16.2.1 16 = st (τ13.2.1 16) (τ13.1 6) (-1 : Int) := q14_4
            replace q14_5 : c_ag τ13 τ16 := q14_5
            replace ag : c_ag σ τ16 := ag_t ag q14_5 rfl
            have w3_τ16 : τ16.1 3 = τ13.1 3 := hf_τ16.1 3 (by decide)
            have w4_τ16 : τ16.1 4 = τ13.1 4 := hf_τ16.1 4 (by decide)
            have w5_τ16 : τ16.1 5 = τ13.1 5 := hf_τ16.1 5 (by decide)
            have w7_τ16 : τ16.1 7 = τ13.1 7 := hf_τ16.1 7 (by decide)
            have w13_τ16 : τ16.1 13 = τ13.1 13 := hf_τ16.1 13 (by decide)
            have w14_τ16 : τ16.1 14 = τ13.1 14 := hf_τ16.1 14 (by decide)
            have w15_τ16 : τ16.1 15 = τ13.1 15 := hf_τ16.1 15 (by decide)
            have w16_τ16 : τ16.1 16 = τ13.1 16 := hf_τ16.1 16 (by decide)
            have w37_τ16 : τ16.1 37 = τ13.1 37 := hf_τ16.1 37 (by decide)
            have g8_τ16 : τ16.2.1 8 = τ13.2.1 8 := hf_τ16.2.1 8 (by decide)
            have g10_τ16 : τ16.2.1 10 = τ13.2.1 10 := hf_τ16.2.1 10 (by decide)
            have g11_τ16 : τ16.2.1 11 = τ13.2.1 11 := hf_τ16.2.1 11 (by decide)
            have g19_τ16 : τ16.2.1 19 = τ13.2.1 19 := hf_τ16.2.1 19 (by decide)
            have g20_τ16 : τ16.2.1 20 = τ13.2.1 20 := hf_τ16.2.1 20 (by decide)
            have g22_τ16 : τ16.2.1 22 = τ13.2.1 22 := hf_τ16.2.1 22 (by decide)
            have g25_τ16 : τ16.2.1 25 = τ13.2.1 25 := hf_τ16.2.1 25 (by decide)
            have W3 : τ16.1 3 = σ.1 3 := by first | exact w3_τ16.trans W3 | omega
            have W5 : τ16.1 5 = σ.1 5 := by first | exact w5_τ16.trans W5 | omega
            have W7 : τ16.1 7 = σ.1 7 := by first | exact w7_τ16.trans W7 | omega
            have W13 : τ16.1 13 = σ.1 13 := by first | exact w13_τ16.trans W13 | omega
            have W14 : τ16.1 14 = σ.1 14 := by first | exact w14_τ16.trans W14 | omega
            have W15 : τ16.1 15 = σ.1 15 := by first | exact w15_τ16.trans W15 | omega
            have W16 : τ16.1 16 = σ.1 16 := by first | exact w16_τ16.trans W16 | omega
            have W37 : τ16.1 37 = σ.1 37 := by first | exact w37_τ16.trans W37 | omega
            have G8 : τ16.2.1 8 = σ.2.1 8 := (g8_τ16).trans G8
            have G19 : τ16.2.1 19 = σ.2.1 19 := (g19_τ16).trans G19
            have G20 : τ16.2.1 20 = σ.2.1 20 := (g20_τ16).trans G20
            have G22 : τ16.2.1 22 = σ.2.1 22 := (g22_τ16).trans G22
            have G25 : τ16.2.1 25 = σ.2.1 25 := (g25_τ16).trans G25
            have RKS : J_rks (τ16.1 5) (τ16.1 4) (τ16.2.1 10) (τ16.2.1 11) := by rw [show (J_rks (τ16.1 5) (τ16.1 4) (τ16.2.1 10) (τ16.2.1 11)) = (J_rks (τ13.1 5) (τ13.1 4) (τ13.2.1 10) (τ13.2.1 11)) from by rw [w4_τ16, w5_τ16, g10_τ16, g11_τ16]]; exact RKS
            have A8 : ∀ j, 0 ≤ τ16.2.1 8 j ∧ τ16.2.1 8 j ≤ 1 := fun j => hT.2 8 j
            have A10 : ∀ j, (-1) ≤ τ16.2.1 10 j ∧ τ16.2.1 10 j ≤ 99 := fun j => hT.2 10 j
            have A11 : ∀ j, 0 ≤ τ16.2.1 11 j ∧ τ16.2.1 11 j ≤ 999 := fun j => hT.2 11 j
            have A14 : ∀ j, 0 ≤ τ16.2.1 14 j ∧ τ16.2.1 14 j ≤ 30000 := fun j => hT.2 14 j
            have A15 : ∀ j, 0 ≤ τ16.2.1 15 j ∧ τ16.2.1 15 j ≤ 999 := fun j => hT.2 15 j
            have A16 : ∀ j, (-1) ≤ τ16.2.1 16 j ∧ τ16.2.1 16 j ≤ 1499 := fun j => hT.2 16 j
            have A19 : ∀ j, (-1) ≤ τ16.2.1 19 j ∧ τ16.2.1 19 j ≤ 1499 := fun j => hT.2 19 j
            have A20 : ∀ j, 0 ≤ τ16.2.1 20 j ∧ τ16.2.1 20 j ≤ 999 := fun j => hT.2 20 j
            have A22 : ∀ j, 0 ≤ τ16.2.1 22 j ∧ τ16.2.1 22 j ≤ 1499 := fun j => hT.2 22 j
            have v3 : 0 ≤ τ16.1 3 ∧ τ16.1 3 ≤ 2500 := hT.1 3
            have v4 : 0 ≤ τ16.1 4 ∧ τ16.1 4 ≤ 100 := hT.1 4
            have v5 : 0 ≤ τ16.1 5 ∧ τ16.1 5 ≤ 1000 := hT.1 5
            have v6 : 0 ≤ τ16.1 6 ∧ τ16.1 6 ≤ 30000 := hT.1 6
            have v7 : 0 ≤ τ16.1 7 ∧ τ16.1 7 ≤ 1500 := hT.1 7
            have v13 : 0 ≤ τ16.1 13 ∧ τ16.1 13 ≤ 90000 := hT.1 13
            have v14 : 0 ≤ τ16.1 14 ∧ τ16.1 14 ≤ 20000 := hT.1 14
            have v15 : 0 ≤ τ16.1 15 ∧ τ16.1 15 ≤ 20000 := hT.1 15
            have v16 : 0 ≤ τ16.1 16 ∧ τ16.1 16 ≤ 20000 := hT.1 16
            have v37 : 0 ≤ τ16.1 37 ∧ τ16.1 37 ≤ 4 := hT.1 37
            have a14_7 : 0 ≤ τ16.2.1 14 (τ16.1 7) ∧ τ16.2.1 14 (τ16.1 7) ≤ 30000 := hT.2 14 _
            have av6 : σ.1 6 ≤ τ16.1 6 := ag.1 6 (by decide)
            have TX : J_vs (τ16.1 6) (τ16.1 5) (τ16.2.1 15) := by rw [q14_1, q14_3, w5_τ16]; exact J_vs_a TX (Int.le_refl _) (by omega)
            have IPn : J_ip (τ16.1 7) (τ16.1 6) (τ16.1 37) (τ16.2.1 14) (τ16.2.1 15) (τ16.2.1 16) (τ16.2.1 19) := by rw [q14_1, q14_2, q14_3, q14_4, w7_τ16, w37_τ16, g19_τ16, w6_τ13, w7_τ13, w37_τ13, g14_τ13, g15_τ13, g16_τ13, g19_τ13]; exact J_ip_a IP_0 (st_n _ _ (by omega)) (Or.inl rfl) (fun _ z => by exfalso; omega) (fun _ => rfl)
            exact ⟨hT, (show 0 ≤ 0 ∧ 0 ≤ 19 from by (first | omega | (simp only [st_s] <;> omega) | assumption | omega | fail)), (show J_vs (τ16.1 6) (τ16.1 5) (τ16.2.1 15) from TX), (show J_rks (τ16.1 5) (τ16.1 4) (τ16.2.1 10) (τ16.2.1 11) from RKS), (show j_rr ((σ.1 5)) (σ.2.1 10) (τ16.2.1 10) from by (first | exact j_rr0 _ _ | (rw [g10_τ16]; exact RR0) | fail)), (show 0 = 0 → (τ16.1 6) = (σ.1 6) + 1 ∧ τ16.2.1 14 ((τ16.1 7) + 1) = (τ16.1 6) ∧ 0 ≤ τ16.2.1 10 (τ16.2.1 15 (τ16.2.1 14 (τ16.1 7))) from by (first | (intro z; exfalso; omega) | (intro _; refine ⟨by omega, by rw [q14_2, w7_τ16, st_s, q14_1], ?_⟩; rw [q14_2, w7_τ16, st_n _ _ (by omega), q14_3, g14_τ13, w7_τ13, p4, w6_τ13, st_s, g10_τ16]; exact rk0) | fail)), (show 0 = 0 → J_ip (τ16.1 7) (τ16.1 6) (τ16.1 37) (τ16.2.1 14) (τ16.2.1 15) (τ16.2.1 16) (τ16.2.1 19) from by (first | (intro z; exfalso; omega) | (intro _; exact IPn) | fail)), (show c_Y σ τ16 from by (first | exact c_Y0 _ | (exact ⟨⟨by rw [g20_τ16, g20_τ13]; exact j_eq0 _ _, by rw [g22_τ16, g22_τ13]; exact j_eq0 _ _, by rw [g11_τ16]; exact RY0, by omega⟩, by rw [g25_τ16, g25_τ13], by rw [g25_τ16, g25_τ13], by rw [g25_τ16, g25_τ13]⟩) | fail)), ag⟩
          ·
            refine ⟨_, K_X9_isKnown hT (show -1 ≤ n1 from by (first | omega | (simp only [st_s] <;> omega) | assumption | omega | fail)) (show n1 < 1000 from by (first | omega | (simp only [st_s] <;> omega) | assumption | omega | fail)), ?_⟩
            intro x18 r_x18 hq
            obtain ⟨q17_1, q17_2, q17_3, q17_4⟩ := hq
            replace q17_1 : 0 ≤ x18 ∧ x18 ≤ 1 := q17_1
            replace q17_2 : ¬ x18 = 0 → 0 ≤ n1 := q17_2
            replace q17_3 : ¬ x18 = 0 → σ.2.1 8 n1 = 0 ∨ ¬ σ.2.1 18 n1 = 0 := q17_3
            replace q17_4 : 0 ≤ n1 → (σ.2.1 8 n1 = 0 ∨ ¬ σ.2.1 18 n1 = 0) → ¬ x18 = 0 := q17_4
            refine ⟨fun c20 => ?_, fun c20 => ?_⟩
            ·
              exact ⟨hT, (show 0 ≤ 9 ∧ 9 ≤ 19 from by (first | omega | (simp only [st_s] <;> omega) | assumption | omega | fail)), (show J_vs (σ.1 6) (σ.1 5) (σ.2.1 15) from TX), (show J_rks (σ.1 5) (σ.1 4) (σ.2.1 10) (σ.2.1 11) from RKS), (show j_rr ((σ.1 5)) (σ.2.1 10) (σ.2.1 10) from by (first | exact j_rr0 _ _ | (rw [g10_τ16]; exact RR0) | fail)), (show 9 = 0 → (σ.1 6) = (σ.1 6) + 1 ∧ σ.2.1 14 ((σ.1 7) + 1) = (σ.1 6) ∧ 0 ≤ σ.2.1 10 (σ.2.1 15 (σ.2.1 14 (σ.1 7))) from by (first | (intro z; exfalso; omega) | (intro _; refine ⟨by omega, by rw [q14_2, w7_τ16, st_s, q14_1], ?_⟩; rw [q14_2, w7_τ16, st_n _ _ (by omega), q14_3, g14_τ13, w7_τ13, p4, w6_τ13, st_s, g10_τ16]; exact rk0) | fail)), (show 9 = 0 → J_ip (σ.1 7) (σ.1 6) (σ.1 37) (σ.2.1 14) (σ.2.1 15) (σ.2.1 16) (σ.2.1 19) from by (first | (intro z; exfalso; omega) | (intro _; exact IPn) | fail)), (show c_Y σ σ from by (first | exact c_Y0 _ | (exact ⟨⟨by rw [g20_τ16, g20_τ13]; exact j_eq0 _ _, by rw [g22_τ16, g22_τ13]; exact j_eq0 _ _, by rw [g11_τ16]; exact RY0, by omega⟩, by rw [g25_τ16, g25_τ13], by rw [g25_τ16, g25_τ13], by rw [g25_τ16, g25_τ13]⟩) | fail)), ag⟩
            ·
              exact ⟨hT, (show 0 ≤ 10 ∧ 10 ≤ 19 from by (first | omega | (simp only [st_s] <;> omega) | assumption | omega | fail)), (show J_vs (σ.1 6) (σ.1 5) (σ.2.1 15) from TX), (show J_rks (σ.1 5) (σ.1 4) (σ.2.1 10) (σ.2.1 11) from RKS), (show j_rr ((σ.1 5)) (σ.2.1 10) (σ.2.1 10) from by (first | exact j_rr0 _ _ | (rw [g10_τ16]; exact RR0) | fail)), (show 10 = 0 → (σ.1 6) = (σ.1 6) + 1 ∧ σ.2.1 14 ((σ.1 7) + 1) = (σ.1 6) ∧ 0 ≤ σ.2.1 10 (σ.2.1 15 (σ.2.1 14 (σ.1 7))) from by (first | (intro z; exfalso; omega) | (intro _; refine ⟨by omega, by rw [q14_2, w7_τ16, st_s, q14_1], ?_⟩; rw [q14_2, w7_τ16, st_n _ _ (by omega), q14_3, g14_τ13, w7_τ13, p4, w6_τ13, st_s, g10_τ16]; exact rk0) | fail)), (show 10 = 0 → J_ip (σ.1 7) (σ.1 6) (σ.1 37) (σ.2.1 14) (σ.2.1 15) (σ.2.1 16) (σ.2.1 19) from by (first | (intro z; exfalso; omega) | (intro _; exact IPn) | fail)), (show c_Y σ σ from by (first | exact c_Y0 _ | (exact ⟨⟨by rw [g20_τ16, g20_τ13]; exact j_eq0 _ _, by rw [g22_τ16, g22_τ13]; exact j_eq0 _ _, by rw [g11_τ16]; exact RY0, by omega⟩, by rw [g25_τ16, g25_τ13], by rw [g25_τ16, g25_τ13], by rw [g25_τ16, g25_τ13]⟩) | fail)), ag⟩
        ·
          refine ⟨fun c9 => ?_, fun c9 => ?_⟩
          ·
            refine h54 _ _ _ ?_
            refine ⟨fun c10 => ?_, fun c10 => ?_⟩
            ·
              refine ⟨_, K2_X3_giveRank hT (show 0 ≤ n1 from by (first | omega | (simp only [st_s] <;> omega) | assumption | omega | fail)) (show n1 < 1000 from by (first | omega | (simp only [st_s] <;> omega) | assumption | omega | fail)) (show σ.2.1 10 n1 = -1 → (σ.1 4) < 100 from by (first | omega | (simp only [st_s] <;> omega) | assumption | omega | fail)), ?_⟩
              intro τ13 hn_τ13 hf_τ13 hq
              obtain ⟨hT, q11_1, q11_2⟩ := hq
              replace q11_1 : ¬ σ.2.1 10 n1 = -1 → τ13.2.1 10 = σ.2.1 10 ∧ τ13.2.1 11 = σ.2.1 11 ∧ (τ13.1 4) = (σ.1 4) := q11_1
              replace q11_2 : σ.2.1 10 n1 = -1 → τ13.2.1 10 = st (σ.2.1 10) n1 (σ.1 4) ∧ τ13.2.1 11 = st (σ.2.1 11) (σ.1 4) n1 ∧ (τ13.1 4) = (σ.1 4) + 1 := q11_2
              replace ag : c_ag σ τ13 := ag_r ag hf_τ13 rfl rfl
              have w3_τ13 : τ13.1 3 = σ.1 3 := hf_τ13.1 3 (by decide)
              have w5_τ13 : τ13.1 5 = σ.1 5 := hf_τ13.1 5 (by decide)
              have w6_τ13 : τ13.1 6 = σ.1 6 := hf_τ13.1 6 (by decide)
              have w7_τ13 : τ13.1 7 = σ.1 7 := hf_τ13.1 7 (by decide)
              have w13_τ13 : τ13.1 13 = σ.1 13 := hf_τ13.1 13 (by decide)
              have w14_τ13 : τ13.1 14 = σ.1 14 := hf_τ13.1 14 (by decide)
              have w15_τ13 : τ13.1 15 = σ.1 15 := hf_τ13.1 15 (by decide)
              have w16_τ13 : τ13.1 16 = σ.1 16 := hf_τ13.1 16 (by decide)
              have w37_τ13 : τ13.1 37 = σ.1 37 := hf_τ13.1 37 (by decide)
              have g8_τ13 : τ13.2.1 8 = σ.2.1 8 := hf_τ13.2.1 8 (by decide)
              have g14_τ13 : τ13.2.1 14 = σ.2.1 14 := hf_τ13.2.1 14 (by decide)
              have g15_τ13 : τ13.2.1 15 = σ.2.1 15 := hf_τ13.2.1 15 (by decide)
              have g16_τ13 : τ13.2.1 16 = σ.2.1 16 := hf_τ13.2.1 16 (by decide)
              have g19_τ13 : τ13.2.1 19 = σ.2.1 19 := hf_τ13.2.1 19 (by decide)
              have g20_τ13 : τ13.2.1 20 = σ.2.1 20 := hf_τ13.2.1 20 (by decide)
              have g22_τ13 : τ13.2.1 22 = σ.2.1 22 := hf_τ13.2.1 22 (by decide)
              have g25_τ13 : τ13.2.1 25 = σ.2.1 25 := hf_τ13.2.1 25 (by decide)
              have W3 : τ13.1 3 = σ.1 3 := by first | exact w3_τ13.trans W3 | omega
              have W5 : τ13.1 5 = σ.1 5 := by first | exact w5_τ13.trans W5 | omega
              have W7 : τ13.1 7 = σ.1 7 := by first | exact w7_τ13.trans W7 | omega
              have W13 : τ13.1 13 = σ.1 13 := by first | exact w13_τ13.trans W13 | omega
              have W14 : τ13.1 14 = σ.1 14 := by first | exact w14_τ13.trans W14 | omega
              have W15 : τ13.1 15 = σ.1 15 := by first | exact w15_τ13.trans W15 | omega
              have W16 : τ13.1 16 = σ.1 16 := by first | exact w16_τ13.trans W16 | omega
              have W37 : τ13.1 37 = σ.1 37 := by first | exact w37_τ13.trans W37 | omega
              have G8 : τ13.2.1 8 = σ.2.1 8 := (g8_τ13).trans G8
              have G19 : τ13.2.1 19 = σ.2.1 19 := (g19_τ13).trans G19
              have G20 : τ13.2.1 20 = σ.2.1 20 := (g20_τ13).trans G20
              have G22 : τ13.2.1 22 = σ.2.1 22 := (g22_τ13).trans G22
              have G25 : τ13.2.1 25 = σ.2.1 25 := (g25_τ13).trans G25
              have y14_7_τ13 : τ13.2.1 14 (τ13.1 7) = (σ.2.1 14) (σ.1 7) := by rw [g14_τ13, w7_τ13]
              have TX : J_vs (τ13.1 6) (τ13.1 5) (τ13.2.1 15) := by rw [show (J_vs (τ13.1 6) (τ13.1 5) (τ13.2.1 15)) = (J_vs (σ.1 6) (σ.1 5) (σ.2.1 15)) from by rw [w5_τ13, w6_τ13, g15_τ13]]; exact TX
              have IP : J_ip (τ13.1 7) (τ13.1 6) (τ13.1 37) (τ13.2.1 14) (τ13.2.1 15) (τ13.2.1 16) (τ13.2.1 19) := by rw [show (J_ip (τ13.1 7) (τ13.1 6) (τ13.1 37) (τ13.2.1 14) (τ13.2.1 15) (τ13.2.1 16) (τ13.2.1 19)) = (J_ip (σ.1 7) (σ.1 6) (σ.1 37) (σ.2.1 14) (σ.2.1 15) (σ.2.1 16) (σ.2.1 19)) from by rw [w6_τ13, w7_τ13, w37_τ13, g14_τ13, g15_τ13, g16_τ13, g19_τ13]]; exact IP
              have A8 : ∀ j, 0 ≤ τ13.2.1 8 j ∧ τ13.2.1 8 j ≤ 1 := fun j => hT.2 8 j
              have A10 : ∀ j, (-1) ≤ τ13.2.1 10 j ∧ τ13.2.1 10 j ≤ 99 := fun j => hT.2 10 j
              have A11 : ∀ j, 0 ≤ τ13.2.1 11 j ∧ τ13.2.1 11 j ≤ 999 := fun j => hT.2 11 j
              have A14 : ∀ j, 0 ≤ τ13.2.1 14 j ∧ τ13.2.1 14 j ≤ 30000 := fun j => hT.2 14 j
              have A15 : ∀ j, 0 ≤ τ13.2.1 15 j ∧ τ13.2.1 15 j ≤ 999 := fun j => hT.2 15 j
              have A16 : ∀ j, (-1) ≤ τ13.2.1 16 j ∧ τ13.2.1 16 j ≤ 1499 := fun j => hT.2 16 j
              have A19 : ∀ j, (-1) ≤ τ13.2.1 19 j ∧ τ13.2.1 19 j ≤ 1499 := fun j => hT.2 19 j
              have A20 : ∀ j, 0 ≤ τ13.2.1 20 j ∧ τ13.2.1 20 j ≤ 999 := fun j => hT.2 20 j
              have A22 : ∀ j, 0 ≤ τ13.2.1 22 j ∧ τ13.2.1 22 j ≤ 1499 := fun j => hT.2 22 j
              have v3 : 0 ≤ τ13.1 3 ∧ τ13.1 3 ≤ 2500 := hT.1 3
              have v4 : 0 ≤ τ13.1 4 ∧ τ13.1 4 ≤ 100 := hT.1 4
              have v5 : 0 ≤ τ13.1 5 ∧ τ13.1 5 ≤ 1000 := hT.1 5
              have v6 : 0 ≤ τ13.1 6 ∧ τ13.1 6 ≤ 30000 := hT.1 6
              have v7 : 0 ≤ τ13.1 7 ∧ τ13.1 7 ≤ 1500 := hT.1 7
              have v13 : 0 ≤ τ13.1 13 ∧ τ13.1 13 ≤ 90000 := hT.1 13
              have v14 : 0 ≤ τ13.1 14 ∧ τ13.1 14 ≤ 20000 := hT.1 14
              have v15 : 0 ≤ τ13.1 15 ∧ τ13.1 15 ≤ 20000 := hT.1 15
              have v16 : 0 ≤ τ13.1 16 ∧ τ13.1 16 ≤ 20000 := hT.1 16
              have v37 : 0 ≤ τ13.1 37 ∧ τ13.1 37 ≤ 4 := hT.1 37
              have a14_7 : 0 ≤ τ13.2.1 14 (τ13.1 7) ∧ τ13.2.1 14 (τ13.1 7) ≤ 30000 := hT.2 14 _
              have av6 : σ.1 6 ≤ τ13.1 6 := ag.1 6 (by decide)
              have RK2 : J_rks (τ13.1 5) (τ13.1 4) (τ13.2.1 10) (τ13.2.1 11) ∧ 0 ≤ τ13.2.1 10 n1 ∧ j_rr (σ.1 5) (σ.2.1 10) (τ13.2.1 10) ∧ j_eq (σ.1 4) (σ.2.1 11) (τ13.2.1 11) ∧ σ.1 4 ≤ τ13.1 4 := by by_cases z : σ.2.1 10 n1 = -1; (obtain ⟨e1, e2, e3⟩ := q11_2 z; rw [e1, e2, e3, w5_τ13, st_s]; exact ⟨J_rks_g RKS_0 (by omega) (by omega) z, by omega, j_rrs (by omega), j_eqs (j_eq0 _ _) (Int.le_refl _), by omega⟩); (obtain ⟨e1, e2, e3⟩ := q11_1 z; rw [e1, e2, e3, w5_τ13]; exact ⟨RKS_0, by have := A10o n1; omega, j_rr0 _ _, j_eq0 _ _, Int.le_refl _⟩)
              obtain ⟨RKS, rk0, RR0, RY0, RZ0⟩ := RK2
              refine ⟨_, K2_X3_append hT (show 0 ≤ n1 from by (first | omega | (simp only [st_s] <;> omega) | assumption | omega | fail)) (show n1 < 1000 from by (first | omega | (simp only [st_s] <;> omega) | assumption | omega | fail)) (show -1 ≤ (-1 : Int) from by (first | omega | (simp only [st_s] <;> omega) | assumption | omega | fail)) (show (-1 : Int) < 1500 from by (first | omega | (simp only [st_s] <;> omega) | assumption | omega | fail)) (show (τ13.1 6) < 30000 from by (first | omega | (simp only [st_s] <;> omega) | assumption | omega | fail)) (show (τ13.1 7) < 1500 from by (first | omega | (simp only [st_s] <;> omega) | assumption | omega | fail)), ?_⟩
              intro τ16 hn_τ16 hf_τ16 hq
              obtain ⟨hT, q14_1, q14_2, q14_3, q14_4, q14_5⟩ := hq
              replace q14_1 : (τ16.1 6) = (τ13.1 6) + 1 := q14_1
              replace q14_2 : τ16.2.1 14 = st (τ13.2.1 14) ((τ13.1 7) + 1) ((τ13.1 6) + 1) := q14_2
              replace q14_3 : τ16.2.1 15 = st (τ13.2.1 15) (τ13.1 6) n1 := q14_3
              replace q14_4 : τ16.2.1 16 = st (τ13.2.1 16) (τ13.1 6) (-1 : Int) := q14_4
              replace q14_5 : c_ag τ13 τ16 := q14_5
              replace ag : c_ag σ τ16 := ag_t ag q14_5 rfl
              have w3_τ16 : τ16.1 3 = τ13.1 3 := hf_τ16.1 3 (by decide)
              have w4_τ16 : τ16.1 4 = τ13.1 4 := hf_τ16.1 4 (by decide)
              have w5_τ16 : τ16.1 5 = τ13.1 5 := hf_τ16.1 5 (by decide)
              have w7_τ16 : τ16.1 7 = τ13.1 7 := hf_τ16.1 7 (by decide)
              have w13_τ16 : τ16.1 13 = τ13.1 13 := hf_τ16.1 13 (by decide)
              have w14_τ16 : τ16.1 14 = τ13.1 14 := hf_τ16.1 14 (by decide)
              have w15_τ16 : τ16.1 15 = τ13.1 15 := hf_τ16.1 15 (by decide)
              have w16_τ16 : τ16.1 16 = τ13.1 16 := hf_τ16.1 16 (by decide)
              have w37_τ16 : τ16.1 37 = τ13.1 37 := hf_τ16.1 37 (by decide)
              have g8_τ16 : τ16.2.1 8 = τ13.2.1 8 := hf_τ16.2.1 8 (by decide)
              have g10_τ16 : τ16.2.1 10 = τ13.2.1 10 := hf_τ16.2.1 10 (by decide)
              have g11_τ16 : τ16.2.1 11 = τ13.2.1 11 := hf_τ16.2.1 11 (by decide)
              have g19_τ16 : τ16.2.1 19 = τ13.2.1 19 := hf_τ16.2.1 19 (by decide)
              have g20_τ16 : τ16.2.1 20 = τ13.2.1 20 := hf_τ16.2.1 20 (by decide)
              have g22_τ16 : τ16.2.1 22 = τ13.2.1 22 := hf_τ16.2.1 22 (by decide)
              have g25_τ16 : τ16.2.1 25 = τ13.2.1 25 := hf_τ16.2.1 25 (by decide)
              have W3 : τ16.1 3 = σ.1 3 := by first | exact w3_τ16.trans W3 | omega
              have W5 : τ16.1 5 = σ.1 5 := by first | exact w5_τ16.trans W5 | omega
              have W7 : τ16.1 7 = σ.1 7 := by first | exact w7_τ16.trans W7 | omega
              have W13 : τ16.1 13 = σ.1 13 := by first | exact w13_τ16.trans W13 | omega
              have W14 : τ16.1 14 = σ.1 14 := by first | exact w14_τ16.trans W14 | omega
              have W15 : τ16.1 15 = σ.1 15 := by first | exact w15_τ16.trans W15 | omega
              have W16 : τ16.1 16 = σ.1 16 := by first | exact w16_τ16.trans W16 | omega
              have W37 : τ16.1 37 = σ.1 37 := by first | exact w37_τ16.trans W37 | omega
              have G8 : τ16.2.1 8 = σ.2.1 8 := (g8_τ16).trans G8
              have G19 : τ16.2.1 19 = σ.2.1 19 := (g19_τ16).trans G19
              have G20 : τ16.2.1 20 = σ.2.1 20 := (g20_τ16).trans G20
              have G22 : τ16.2.1 22 = σ.2.1 22 := (g22_τ16).trans G22
              have G25 : τ16.2.1 25 = σ.2.1 25 := (g25_τ16).trans G25
              have RKS : J_rks (τ16.1 5) (τ16.1 4) (τ16.2.1 10) (τ16.2.1 11) := by rw [show (J_rks (τ16.1 5) (τ16.1 4) (τ16.2.1 10) (τ16.2.1 11)) = (J_rks (τ13.1 5) (τ13.1 4) (τ13.2.1 10) (τ13.2.1 11)) from by rw [w4_τ16, w5_τ16, g10_τ16, g11_τ16]]; exact RKS
              have A8 : ∀ j, 0 ≤ τ16.2.1 8 j ∧ τ16.2.1 8 j ≤ 1 := fun j => hT.2 8 j
              have A10 : ∀ j, (-1) ≤ τ16.2.1 10 j ∧ τ16.2.1 10 j ≤ 99 := fun j => hT.2 10 j
              have A11 : ∀ j, 0 ≤ τ16.2.1 11 j ∧ τ16.2.1 11 j ≤ 999 := fun j => hT.2 11 j
              have A14 : ∀ j, 0 ≤ τ16.2.1 14 j ∧ τ16.2.1 14 j ≤ 30000 := fun j => hT.2 14 j
              have A15 : ∀ j, 0 ≤ τ16.2.1 15 j ∧ τ16.2.1 15 j ≤ 999 := fun j => hT.2 15 j
              have A16 : ∀ j, (-1) ≤ τ16.2.1 16 j ∧ τ16.2.1 16 j ≤ 1499 := fun j => hT.2 16 j
              have A19 : ∀ j, (-1) ≤ τ16.2.1 19 j ∧ τ16.2.1 19 j ≤ 1499 := fun j => hT.2 19 j
              have A20 : ∀ j, 0 ≤ τ16.2.1 20 j ∧ τ16.2.1 20 j ≤ 999 := fun j => hT.2 20 j
              have A22 : ∀ j, 0 ≤ τ16.2.1 22 j ∧ τ16.2.1 22 j ≤ 1499 := fun j => hT.2 22 j
              have v3 : 0 ≤ τ16.1 3 ∧ τ16.1 3 ≤ 2500 := hT.1 3
              have v4 : 0 ≤ τ16.1 4 ∧ τ16.1 4 ≤ 100 := hT.1 4
              have v5 : 0 ≤ τ16.1 5 ∧ τ16.1 5 ≤ 1000 := hT.1 5
              have v6 : 0 ≤ τ16.1 6 ∧ τ16.1 6 ≤ 30000 := hT.1 6
              have v7 : 0 ≤ τ16.1 7 ∧ τ16.1 7 ≤ 1500 := hT.1 7
              have v13 : 0 ≤ τ16.1 13 ∧ τ16.1 13 ≤ 90000 := hT.1 13
              have v14 : 0 ≤ τ16.1 14 ∧ τ16.1 14 ≤ 20000 := hT.1 14
              have v15 : 0 ≤ τ16.1 15 ∧ τ16.1 15 ≤ 20000 := hT.1 15
              have v16 : 0 ≤ τ16.1 16 ∧ τ16.1 16 ≤ 20000 := hT.1 16
              have v37 : 0 ≤ τ16.1 37 ∧ τ16.1 37 ≤ 4 := hT.1 37
              have a14_7 : 0 ≤ τ16.2.1 14 (τ16.1 7) ∧ τ16.2.1 14 (τ16.1 7) ≤ 30000 := hT.2 14 _
              have av6 : σ.1 6 ≤ τ16.1 6 := ag.1 6 (by decide)
              have TX : J_vs (τ16.1 6) (τ16.1 5) (τ16.2.1 15) := by rw [q14_1, q14_3, w5_τ16]; exact J_vs_a TX (Int.le_refl _) (by omega)
              have IPn : J_ip (τ16.1 7) (τ16.1 6) (τ16.1 37) (τ16.2.1 14) (τ16.2.1 15) (τ16.2.1 16) (τ16.2.1 19) := by rw [q14_1, q14_2, q14_3, q14_4, w7_τ16, w37_τ16, g19_τ16, w6_τ13, w7_τ13, w37_τ13, g14_τ13, g15_τ13, g16_τ13, g19_τ13]; exact J_ip_a IP_0 (st_n _ _ (by omega)) (Or.inl rfl) (fun _ z => by exfalso; omega) (fun _ => rfl)
              exact ⟨hT, (show 0 ≤ 0 ∧ 0 ≤ 19 from by (first | omega | (simp only [st_s] <;> omega) | assumption | omega | fail)), (show J_vs (τ16.1 6) (τ16.1 5) (τ16.2.1 15) from TX), (show J_rks (τ16.1 5) (τ16.1 4) (τ16.2.1 10) (τ16.2.1 11) from RKS), (show j_rr ((σ.1 5)) (σ.2.1 10) (τ16.2.1 10) from by (first | exact j_rr0 _ _ | (rw [g10_τ16]; exact RR0) | fail)), (show 0 = 0 → (τ16.1 6) = (σ.1 6) + 1 ∧ τ16.2.1 14 ((τ16.1 7) + 1) = (τ16.1 6) ∧ 0 ≤ τ16.2.1 10 (τ16.2.1 15 (τ16.2.1 14 (τ16.1 7))) from by (first | (intro z; exfalso; omega) | (intro _; refine ⟨by omega, by rw [q14_2, w7_τ16, st_s, q14_1], ?_⟩; rw [q14_2, w7_τ16, st_n _ _ (by omega), q14_3, g14_τ13, w7_τ13, p4, w6_τ13, st_s, g10_τ16]; exact rk0) | fail)), (show 0 = 0 → J_ip (τ16.1 7) (τ16.1 6) (τ16.1 37) (τ16.2.1 14) (τ16.2.1 15) (τ16.2.1 16) (τ16.2.1 19) from by (first | (intro z; exfalso; omega) | (intro _; exact IPn) | fail)), (show c_Y σ τ16 from by (first | exact c_Y0 _ | (exact ⟨⟨by rw [g20_τ16, g20_τ13]; exact j_eq0 _ _, by rw [g22_τ16, g22_τ13]; exact j_eq0 _ _, by rw [g11_τ16]; exact RY0, by omega⟩, by rw [g25_τ16, g25_τ13], by rw [g25_τ16, g25_τ13], by rw [g25_τ16, g25_τ13]⟩) | fail)), ag⟩
            ·
              refine ⟨_, K_X9_isKnown hT (show -1 ≤ n1 from by (first | omega | (simp only [st_s] <;> omega) | assumption | omega | fail)) (show n1 < 1000 from by (first | omega | (simp only [st_s] <;> omega) | assumption | omega | fail)), ?_⟩
              intro x18 r_x18 hq
              obtain ⟨q17_1, q17_2, q17_3, q17_4⟩ := hq
              replace q17_1 : 0 ≤ x18 ∧ x18 ≤ 1 := q17_1
              replace q17_2 : ¬ x18 = 0 → 0 ≤ n1 := q17_2
              replace q17_3 : ¬ x18 = 0 → σ.2.1 8 n1 = 0 ∨ ¬ σ.2.1 18 n1 = 0 := q17_3
              replace q17_4 : 0 ≤ n1 → (σ.2.1 8 n1 = 0 ∨ ¬ σ.2.1 18 n1 = 0) → ¬ x18 = 0 := q17_4
              refine ⟨fun c20 => ?_, fun c20 => ?_⟩
              ·
                exact ⟨hT, (show 0 ≤ 9 ∧ 9 ≤ 19 from by (first | omega | (simp only [st_s] <;> omega) | assumption | omega | fail)), (show J_vs (σ.1 6) (σ.1 5) (σ.2.1 15) from TX), (show J_rks (σ.1 5) (σ.1 4) (σ.2.1 10) (σ.2.1 11) from RKS), (show j_rr ((σ.1 5)) (σ.2.1 10) (σ.2.1 10) from by (first | exact j_rr0 _ _ | (rw [g10_τ16]; exact RR0) | fail)), (show 9 = 0 → (σ.1 6) = (σ.1 6) + 1 ∧ σ.2.1 14 ((σ.1 7) + 1) = (σ.1 6) ∧ 0 ≤ σ.2.1 10 (σ.2.1 15 (σ.2.1 14 (σ.1 7))) from by (first | (intro z; exfalso; omega) | (intro _; refine ⟨by omega, by rw [q14_2, w7_τ16, st_s, q14_1], ?_⟩; rw [q14_2, w7_τ16, st_n _ _ (by omega), q14_3, g14_τ13, w7_τ13, p4, w6_τ13, st_s, g10_τ16]; exact rk0) | fail)), (show 9 = 0 → J_ip (σ.1 7) (σ.1 6) (σ.1 37) (σ.2.1 14) (σ.2.1 15) (σ.2.1 16) (σ.2.1 19) from by (first | (intro z; exfalso; omega) | (intro _; exact IPn) | fail)), (show c_Y σ σ from by (first | exact c_Y0 _ | (exact ⟨⟨by rw [g20_τ16, g20_τ13]; exact j_eq0 _ _, by rw [g22_τ16, g22_τ13]; exact j_eq0 _ _, by rw [g11_τ16]; exact RY0, by omega⟩, by rw [g25_τ16, g25_τ13], by rw [g25_τ16, g25_τ13], by rw [g25_τ16, g25_τ13]⟩) | fail)), ag⟩
              ·
                exact ⟨hT, (show 0 ≤ 10 ∧ 10 ≤ 19 from by (first | omega | (simp only [st_s] <;> omega) | assumption | omega | fail)), (show J_vs (σ.1 6) (σ.1 5) (σ.2.1 15) from TX), (show J_rks (σ.1 5) (σ.1 4) (σ.2.1 10) (σ.2.1 11) from RKS), (show j_rr ((σ.1 5)) (σ.2.1 10) (σ.2.1 10) from by (first | exact j_rr0 _ _ | (rw [g10_τ16]; exact RR0) | fail)), (show 10 = 0 → (σ.1 6) = (σ.1 6) + 1 ∧ σ.2.1 14 ((σ.1 7) + 1) = (σ.1 6) ∧ 0 ≤ σ.2.1 10 (σ.2.1 15 (σ.2.1 14 (σ.1 7))) from by (first | (intro z; exfalso; omega) | (intro _; refine ⟨by omega, by rw [q14_2, w7_τ16, st_s, q14_1], ?_⟩; rw [q14_2, w7_τ16, st_n _ _ (by omega), q14_3, g14_τ13, w7_τ13, p4, w6_τ13, st_s, g10_τ16]; exact rk0) | fail)), (show 10 = 0 → J_ip (σ.1 7) (σ.1 6) (σ.1 37) (σ.2.1 14) (σ.2.1 15) (σ.2.1 16) (σ.2.1 19) from by (first | (intro z; exfalso; omega) | (intro _; exact IPn) | fail)), (show c_Y σ σ from by (first | exact c_Y0 _ | (exact ⟨⟨by rw [g20_τ16, g20_τ13]; exact j_eq0 _ _, by rw [g22_τ16, g22_τ13]; exact j_eq0 _ _, by rw [g11_τ16]; exact RY0, by omega⟩, by rw [g25_τ16, g25_τ13], by rw [g25_τ16, g25_τ13], by rw [g25_τ16, g25_τ13]⟩) | fail)), ag⟩
          ·
            exact ⟨hT, (show 0 ≤ 5 ∧ 5 ≤ 19 from by (first | omega | (simp only [st_s] <;> omega) | assumption | omega | fail)), (show J_vs (σ.1 6) (σ.1 5) (σ.2.1 15) from TX), (show J_rks (σ.1 5) (σ.1 4) (σ.2.1 10) (σ.2.1 11) from RKS), (show j_rr ((σ.1 5)) (σ.2.1 10) (σ.2.1 10) from by (first | exact j_rr0 _ _ | (rw [g10_τ16]; exact RR0) | fail)), (show 5 = 0 → (σ.1 6) = (σ.1 6) + 1 ∧ σ.2.1 14 ((σ.1 7) + 1) = (σ.1 6) ∧ 0 ≤ σ.2.1 10 (σ.2.1 15 (σ.2.1 14 (σ.1 7))) from by (first | (intro z; exfalso; omega) | (intro _; refine ⟨by omega, by rw [q14_2, w7_τ16, st_s, q14_1], ?_⟩; rw [q14_2, w7_τ16, st_n _ _ (by omega), q14_3, g14_τ13, w7_τ13, p4, w6_τ13, st_s, g10_τ16]; exact rk0) | fail)), (show 5 = 0 → J_ip (σ.1 7) (σ.1 6) (σ.1 37) (σ.2.1 14) (σ.2.1 15) (σ.2.1 16) (σ.2.1 19) from by (first | (intro z; exfalso; omega) | (intro _; exact IPn) | fail)), (show c_Y σ σ from by (first | exact c_Y0 _ | (exact ⟨⟨by rw [g20_τ16, g20_τ13]; exact j_eq0 _ _, by rw [g22_τ16, g22_τ13]; exact j_eq0 _ _, by rw [g11_τ16]; exact RY0, by omega⟩, by rw [g25_τ16, g25_τ13], by rw [g25_τ16, g25_τ13], by rw [g25_τ16, g25_τ13]⟩) | fail)), ag⟩
