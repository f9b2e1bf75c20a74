-- pure: a step of a proof
set_option maxHeartbeats 4000000 in
theorem K3_X13_doStep {n1 : Int} {n2 : Int} {n3 : Int} {σ : S0} (hT : m_T σ) (p1 : 0 ≤ n1) (p2 : n1 < 20000) (p3 : 0 ≤ n2) (p4 : n2 ≤ 20000) (p5 : 0 ≤ n3) (p6 : n3 ≤ 1) (p7 : ¬ σ.2.1 28 n1 = 0 → (σ.1 32) < 300) (p8 : 0 ≤ σ.2.1 27 n1 → σ.2.1 21 (σ.2.1 27 n1) + σ.2.1 22 (σ.2.1 27 n1) ≤ 20000) (p9 : n_pw (σ.1 30) (σ.1 31) (σ.2.1 40) (σ.2.1 41)) (p10 : n_pw (σ.1 32) (σ.1 33) (σ.2.1 44) (σ.2.1 45)) (p11 : 0 ≤ σ.2.1 27 n1 → n_J1 (σ.2.1 27 n1) σ) (p12 : σ.2.1 27 n1 < 0 → -1 - σ.2.1 27 n1 < (σ.1 32)) : W_X13_doStep n1 n2 n3 σ (fun (τ : S0) => (m_T τ) ∧ (¬ (σ.1 35) = 0 → (τ.1 35) = (σ.1 35)) ∧ ((τ.1 32) ≤ (σ.1 32) + 1) ∧ (σ.2.1 28 n1 = 0 → (τ.1 32) = (σ.1 32)) ∧ ((σ.1 35) = 0 → (τ.1 35) = 0 → n_dA σ τ (σ.2.1 27 n1) (σ.2.1 28 n1)) ∧ (n3 = 0 → (σ.1 35) = 0 → n_mi σ (σ.2.1 27 n1) (σ.2.1 28 n1) → (τ.1 35) = 0)) := by
  have A13 : ∀ j, 0 ≤ σ.2.1 13 j ∧ σ.2.1 13 j ≤ 4 := fun j => hT.2 13 j
  have A14 : ∀ j, 0 ≤ σ.2.1 14 j ∧ σ.2.1 14 j ≤ 30000 := fun j => hT.2 14 j
  have A15 : ∀ j, 0 ≤ σ.2.1 15 j ∧ σ.2.1 15 j ≤ 300 := fun j => hT.2 15 j
  have A16 : ∀ j, 0 ≤ σ.2.1 16 j ∧ σ.2.1 16 j ≤ 999 := fun j => hT.2 16 j
  have A19 : ∀ j, 0 ≤ σ.2.1 19 j ∧ σ.2.1 19 j ≤ 60 := fun j => hT.2 19 j
  have A27 : ∀ j, (-300) ≤ σ.2.1 27 j ∧ σ.2.1 27 j ≤ 1499 := fun j => hT.2 27 j
  have A28 : ∀ j, 0 ≤ σ.2.1 28 j ∧ σ.2.1 28 j ≤ 1 := fun j => hT.2 28 j
  have A40 : ∀ j, 0 ≤ σ.2.1 40 j ∧ σ.2.1 40 j ≤ 40000 := fun j => hT.2 40 j
  have A41 : ∀ j, 0 ≤ σ.2.1 41 j ∧ σ.2.1 41 j ≤ 1000 := fun j => hT.2 41 j
  have A43 : ∀ j, 0 ≤ σ.2.1 43 j ∧ σ.2.1 43 j ≤ 999 := fun j => hT.2 43 j
  have A44 : ∀ j, 0 ≤ σ.2.1 44 j ∧ σ.2.1 44 j ≤ 40000 := fun j => hT.2 44 j
  have A45 : ∀ j, 0 ≤ σ.2.1 45 j ∧ σ.2.1 45 j ≤ 1000 := fun j => hT.2 45 j
  have A47 : ∀ j, 0 ≤ σ.2.1 47 j ∧ σ.2.1 47 j ≤ 999 := fun j => hT.2 47 j
  have v3 : 0 ≤ σ.1 3 ∧ σ.1 3 ≤ 1000 := hT.1 3
  have v30 : 0 ≤ σ.1 30 ∧ σ.1 30 ≤ 200 := hT.1 30
  have v31 : 0 ≤ σ.1 31 ∧ σ.1 31 ≤ 40000 := hT.1 31
  have v32 : 0 ≤ σ.1 32 ∧ σ.1 32 ≤ 300 := hT.1 32
  have v33 : 0 ≤ σ.1 33 ∧ σ.1 33 ≤ 40000 := hT.1 33
  have v35 : 0 ≤ σ.1 35 ∧ σ.1 35 ≤ 19 := hT.1 35
  have W3 : σ.1 3 = σ.1 3 := rfl
  have G13 : σ.2.1 13 = σ.2.1 13 := rfl
  have G14 : σ.2.1 14 = σ.2.1 14 := rfl
  have G15 : σ.2.1 15 = σ.2.1 15 := rfl
  have G16 : σ.2.1 16 = σ.2.1 16 := rfl
  have G19 : σ.2.1 19 = σ.2.1 19 := rfl
  have G27 : σ.2.1 27 = σ.2.1 27 := rfl
  have G28 : σ.2.1 28 = σ.2.1 28 := rfl
  intro P96 h96
  have s15 := A15
  have s19 := A19
  have s13 := A13
  have v30o := v30
  have v32o := v32
  refine ⟨(show 0 ≤ n1 ∧ n1 < 20001 from by (first | omega | (simp only [st_s] <;> omega) | assumption | omega | fail)), ?_⟩
  intro x2 r_x2 e_x2
  have b_x2 : (-300) ≤ x2 ∧ x2 ≤ 1499 := by rw [e_x2]; exact hT.2 27 _
  refine ⟨fun c3 => ?_, fun c3 => ?_⟩
  ·
    refine ⟨(show 0 ≤ x2 ∧ x2 < 1501 from by (first | omega | (simp only [st_s] <;> omega) | assumption | omega | fail)), ?_⟩
    intro x5 r_x5 e_x5
    have b_x5 : 0 ≤ x5 ∧ x5 ≤ 4 := by rw [e_x5]; exact hT.2 13 _
    refine ⟨fun c6 => ?_, fun c6 => ?_⟩
    ·
      have j11 := p11 (by rw [← e_x2]; omega)
      have k13 : 2 ≤ σ.2.1 13 (σ.2.1 27 n1) := by rw [← e_x2, ← e_x5]; assumption
      refine ⟨_, K3_X13_applyStep hT (show 0 ≤ x2 from by (first | omega | (simp only [st_s] <;> omega) | assumption | omega | fail)) (show x2 < 1500 from by (first | omega | (simp only [st_s] <;> omega) | assumption | omega | fail)) (show 0 ≤ n2 from by (first | omega | (simp only [st_s] <;> omega) | assumption | omega | fail)) (show n2 ≤ 20000 from by (first | omega | (simp only [st_s] <;> omega) | assumption | omega | fail)) (show 0 ≤ n3 from by (first | omega | (simp only [st_s] <;> omega) | assumption | omega | fail)) (show n3 ≤ 1 from by (first | omega | (simp only [st_s] <;> omega) | assumption | omega | fail)) (show σ.2.1 21 x2 + σ.2.1 22 x2 ≤ 20000 from by (rw [e_x2]; exact p8 (by omega))) (show n_pw (σ.1 30) (σ.1 31) (σ.2.1 40) (σ.2.1 41) from by exact p9) (show n_A x2 (σ.1 3) (σ.2.1 8) (σ.2.1 10) (σ.2.1 12) (σ.2.1 13) (σ.2.1 14) (σ.2.1 15) (σ.2.1 16) (σ.2.1 17) from by (rw [e_x2]; exact j11.1)) (show n_B x2 (σ.2.1 8) (σ.2.1 13) (σ.2.1 14) (σ.2.1 15) (σ.2.1 16) (σ.2.1 17) (σ.2.1 18) (σ.2.1 19) (σ.2.1 20) from by (rw [e_x2]; exact j11.2.1 k13)), ?_⟩
      intro τ9 hn_τ9 hf_τ9 hq
      obtain ⟨hT, q7_1, q7_2, q7_3, q7_4⟩ := hq
      replace q7_1 : (σ.1 35) = 0 → (τ9.1 35) = 0 → 1 ≤ (τ9.1 30) := q7_1
      replace q7_2 : ¬ (σ.1 35) = 0 → (τ9.1 35) = (σ.1 35) := q7_2
      replace q7_3 : (σ.1 35) = 0 → (τ9.1 35) = 0 → n_aA σ τ9 x2 := q7_3
      replace q7_4 : n3 = 0 → (σ.1 35) = 0 → n_aB σ x2 → (τ9.1 35) = 0 := q7_4
      have w3_τ9 : τ9.1 3 = σ.1 3 := hf_τ9.1 3 (by decide)
      have w32_τ9 : τ9.1 32 = σ.1 32 := hf_τ9.1 32 (by decide)
      have w33_τ9 : τ9.1 33 = σ.1 33 := hf_τ9.1 33 (by decide)
      have g13_τ9 : τ9.2.1 13 = σ.2.1 13 := hf_τ9.2.1 13 (by decide)
      have g14_τ9 : τ9.2.1 14 = σ.2.1 14 := hf_τ9.2.1 14 (by decide)
      have g15_τ9 : τ9.2.1 15 = σ.2.1 15 := hf_τ9.2.1 15 (by decide)
      have g16_τ9 : τ9.2.1 16 = σ.2.1 16 := hf_τ9.2.1 16 (by decide)
      have g19_τ9 : τ9.2.1 19 = σ.2.1 19 := hf_τ9.2.1 19 (by decide)
      have g27_τ9 : τ9.2.1 27 = σ.2.1 27 := hf_τ9.2.1 27 (by decide)
      have g28_τ9 : τ9.2.1 28 = σ.2.1 28 := hf_τ9.2.1 28 (by decide)
      have g44_τ9 : τ9.2.1 44 = σ.2.1 44 := hf_τ9.2.1 44 (by decide)
      have g45_τ9 : τ9.2.1 45 = σ.2.1 45 := hf_τ9.2.1 45 (by decide)
      have g47_τ9 : τ9.2.1 47 = σ.2.1 47 := hf_τ9.2.1 47 (by decide)
      have W3 : τ9.1 3 = σ.1 3 := by first | exact w3_τ9.trans W3 | omega
      have G13 : τ9.2.1 13 = σ.2.1 13 := (g13_τ9).trans G13
      have G14 : τ9.2.1 14 = σ.2.1 14 := (g14_τ9).trans G14
      have G15 : τ9.2.1 15 = σ.2.1 15 := (g15_τ9).trans G15
      have G16 : τ9.2.1 16 = σ.2.1 16 := (g16_τ9).trans G16
      have G19 : τ9.2.1 19 = σ.2.1 19 := (g19_τ9).trans G19
      have G27 : τ9.2.1 27 = σ.2.1 27 := (g27_τ9).trans G27
      have G28 : τ9.2.1 28 = σ.2.1 28 := (g28_τ9).trans G28
      have A13 : ∀ j, 0 ≤ τ9.2.1 13 j ∧ τ9.2.1 13 j ≤ 4 := fun j => hT.2 13 j
      have A14 : ∀ j, 0 ≤ τ9.2.1 14 j ∧ τ9.2.1 14 j ≤ 30000 := fun j => hT.2 14 j
      have A15 : ∀ j, 0 ≤ τ9.2.1 15 j ∧ τ9.2.1 15 j ≤ 300 := fun j => hT.2 15 j
      have A16 : ∀ j, 0 ≤ τ9.2.1 16 j ∧ τ9.2.1 16 j ≤ 999 := fun j => hT.2 16 j
      have A19 : ∀ j, 0 ≤ τ9.2.1 19 j ∧ τ9.2.1 19 j ≤ 60 := fun j => hT.2 19 j
      have A27 : ∀ j, (-300) ≤ τ9.2.1 27 j ∧ τ9.2.1 27 j ≤ 1499 := fun j => hT.2 27 j
      have A28 : ∀ j, 0 ≤ τ9.2.1 28 j ∧ τ9.2.1 28 j ≤ 1 := fun j => hT.2 28 j
      have A40 : ∀ j, 0 ≤ τ9.2.1 40 j ∧ τ9.2.1 40 j ≤ 40000 := fun j => hT.2 40 j
      have A41 : ∀ j, 0 ≤ τ9.2.1 41 j ∧ τ9.2.1 41 j ≤ 1000 := fun j => hT.2 41 j
      have A43 : ∀ j, 0 ≤ τ9.2.1 43 j ∧ τ9.2.1 43 j ≤ 999 := fun j => hT.2 43 j
      have A44 : ∀ j, 0 ≤ τ9.2.1 44 j ∧ τ9.2.1 44 j ≤ 40000 := fun j => hT.2 44 j
      have A45 : ∀ j, 0 ≤ τ9.2.1 45 j ∧ τ9.2.1 45 j ≤ 1000 := fun j => hT.2 45 j
      have A47 : ∀ j, 0 ≤ τ9.2.1 47 j ∧ τ9.2.1 47 j ≤ 999 := fun j => hT.2 47 j
      have v3 : 0 ≤ τ9.1 3 ∧ τ9.1 3 ≤ 1000 := hT.1 3
      have v30 : 0 ≤ τ9.1 30 ∧ τ9.1 30 ≤ 200 := hT.1 30
      have v31 : 0 ≤ τ9.1 31 ∧ τ9.1 31 ≤ 40000 := hT.1 31
      have v32 : 0 ≤ τ9.1 32 ∧ τ9.1 32 ≤ 300 := hT.1 32
      have v33 : 0 ≤ τ9.1 33 ∧ τ9.1 33 ≤ 40000 := hT.1 33
      have v35 : 0 ≤ τ9.1 35 ∧ τ9.1 35 ≤ 19 := hT.1 35
      rw [e_x2] at q7_3 q7_4
      have mo : σ.1 35 = 0 → τ9.1 35 = 0 → n_mo σ τ9 (σ.2.1 27 n1) := fun y z => n_mo_a (q7_3 y z) (by rw [← e_x2]; omega) k13 p10 (s19 _).1
      have mi : n3 = 0 → σ.1 35 = 0 → n_mi σ (σ.2.1 27 n1) (σ.2.1 28 n1) → τ9.1 35 = 0 := fun y z h => q7_4 y z (n_mi_a h (by rw [← e_x2]; omega) k13 p10)
      refine h96 _ _ ?_
      refine ⟨fun c22 => ?_, fun c22 => ?_⟩
      ·
        exact ⟨hT, (show ¬ (σ.1 35) = 0 → (τ9.1 35) = (σ.1 35) from by (first | omega | (simp only [st_s] <;> omega) | assumption | omega | fail)), (show (τ9.1 32) ≤ (σ.1 32) + 1 from by (first | omega | (simp only [st_s] <;> omega) | assumption | omega | fail)), (show σ.2.1 28 n1 = 0 → (τ9.1 32) = (σ.1 32) from by (first | omega | (simp only [st_s] <;> omega) | assumption | omega | fail)), (show (σ.1 35) = 0 → (τ9.1 35) = 0 → n_dA σ τ9 (σ.2.1 27 n1) (σ.2.1 28 n1) from by (first | (intro _ z; exfalso; omega) | (intro y z; exact n_dA_0 (mo y z) p9 p10 w32_τ9 w33_τ9 g44_τ9 g45_τ9 g47_τ9 (by rw [← e_x24]; assumption)) | (intro y z; exact n_dA_0 (mo y z) p9 p10 w32_τ14 w33_τ14 g44_τ14 g45_τ14 g47_τ14 (by rw [← e_x24]; assumption)) | (intro y z; exact n_dA_0 (mo y z) p9 p10 w32_τ21 w33_τ21 g44_τ21 g45_τ21 g47_τ21 (by rw [← e_x24]; assumption)) | (intro y z; have zz : τ9.1 35 = 0 := (by omega); exact n_dA_1 (mo y zz) p9 p10 w32_τ9 w33_τ9 g44_τ9 g45_τ9 g47_τ9 (by rw [← e_x24]; assumption) (q26_3 zz z).1 (q26_3 zz z).2 w30_τ28 w31_τ28 g40_τ28 g41_τ28 g43_τ28 v32o.1) | (intro y z; have zz : τ14.1 35 = 0 := (by omega); exact n_dA_1 (mo y zz) p9 p10 w32_τ14 w33_τ14 g44_τ14 g45_τ14 g47_τ14 (by rw [← e_x24]; assumption) (q26_3 zz z).1 (q26_3 zz z).2 w30_τ28 w31_τ28 g40_τ28 g41_τ28 g43_τ28 v32o.1) | (intro y z; have zz : τ21.1 35 = 0 := (by omega); exact n_dA_1 (mo y zz) p9 p10 w32_τ21 w33_τ21 g44_τ21 g45_τ21 g47_τ21 (by rw [← e_x24]; assumption) (q26_3 zz z).1 (q26_3 zz z).2 w30_τ28 w31_τ28 g40_τ28 g41_τ28 g43_τ28 v32o.1) | fail)), (show n3 = 0 → (σ.1 35) = 0 → n_mi σ (σ.2.1 27 n1) (σ.2.1 28 n1) → (τ9.1 35) = 0 from by (first | (intro y z h; have w := mi y z h; first | (exfalso; omega) | exact w | omega) | (intro y z h; have w := mi y z h; exact q26_4 w (n_mi_v h (mo z w) p9 p10 w33_τ9 (by rw [← e_x24]; assumption) (fun a b => by have w := p11 a; exact ⟨w.1, w.2.1 b⟩))) | (intro y z h; have w := mi y z h; exact q26_4 w (n_mi_v h (mo z w) p9 p10 w33_τ14 (by rw [← e_x24]; assumption) (fun a b => by have w := p11 a; exact ⟨w.1, w.2.1 b⟩))) | (intro y z h; have w := mi y z h; exact q26_4 w (n_mi_v h (mo z w) p9 p10 w33_τ21 (by rw [← e_x24]; assumption) (fun a b => by have w := p11 a; exact ⟨w.1, w.2.1 b⟩))) | fail))⟩
      ·
        refine ⟨(show 0 ≤ n1 ∧ n1 < 20001 from by (first | omega | (simp only [st_s] <;> omega) | assumption | omega | fail)), ?_⟩
        intro x24 r_x24 e_x24
        have b_x24 : 0 ≤ x24 ∧ x24 ≤ 1 := by rw [e_x24]; exact hT.2 28 _
        first | rw [g28_τ9] at e_x24 | rw [g28_τ14] at e_x24 | rw [g28_τ21] at e_x24
        refine ⟨fun c25 => ?_, fun c25 => ?_⟩
        ·
          exact ⟨hT, (show ¬ (σ.1 35) = 0 → (τ9.1 35) = (σ.1 35) from by (first | omega | (simp only [st_s] <;> omega) | assumption | omega | fail)), (show (τ9.1 32) ≤ (σ.1 32) + 1 from by (first | omega | (simp only [st_s] <;> omega) | assumption | omega | fail)), (show σ.2.1 28 n1 = 0 → (τ9.1 32) = (σ.1 32) from by (first | omega | (simp only [st_s] <;> omega) | assumption | omega | fail)), (show (σ.1 35) = 0 → (τ9.1 35) = 0 → n_dA σ τ9 (σ.2.1 27 n1) (σ.2.1 28 n1) from by (first | (intro _ z; exfalso; omega) | (intro y z; exact n_dA_0 (mo y z) p9 p10 w32_τ9 w33_τ9 g44_τ9 g45_τ9 g47_τ9 (by rw [← e_x24]; assumption)) | (intro y z; exact n_dA_0 (mo y z) p9 p10 w32_τ14 w33_τ14 g44_τ14 g45_τ14 g47_τ14 (by rw [← e_x24]; assumption)) | (intro y z; exact n_dA_0 (mo y z) p9 p10 w32_τ21 w33_τ21 g44_τ21 g45_τ21 g47_τ21 (by rw [← e_x24]; assumption)) | (intro y z; have zz : τ9.1 35 = 0 := (by omega); exact n_dA_1 (mo y zz) p9 p10 w32_τ9 w33_τ9 g44_τ9 g45_τ9 g47_τ9 (by rw [← e_x24]; assumption) (q26_3 zz z).1 (q26_3 zz z).2 w30_τ28 w31_τ28 g40_τ28 g41_τ28 g43_τ28 v32o.1) | (intro y z; have zz : τ14.1 35 = 0 := (by omega); exact n_dA_1 (mo y zz) p9 p10 w32_τ14 w33_τ14 g44_τ14 g45_τ14 g47_τ14 (by rw [← e_x24]; assumption) (q26_3 zz z).1 (q26_3 zz z).2 w30_τ28 w31_τ28 g40_τ28 g41_τ28 g43_τ28 v32o.1) | (intro y z; have zz : τ21.1 35 = 0 := (by omega); exact n_dA_1 (mo y zz) p9 p10 w32_τ21 w33_τ21 g44_τ21 g45_τ21 g47_τ21 (by rw [← e_x24]; assumption) (q26_3 zz z).1 (q26_3 zz z).2 w30_τ28 w31_τ28 g40_τ28 g41_τ28 g43_τ28 v32o.1) | fail)), (show n3 = 0 → (σ.1 35) = 0 → n_mi σ (σ.2.1 27 n1) (σ.2.1 28 n1) → (τ9.1 35) = 0 from by (first | (intro y z h; have w := mi y z h; first | (exfalso; omega) | exact w | omega) | (intro y z h; have w := mi y z h; exact q26_4 w (n_mi_v h (mo z w) p9 p10 w33_τ9 (by rw [← e_x24]; assumption) (fun a b => by have w := p11 a; exact ⟨w.1, w.2.1 b⟩))) | (intro y z h; have w := mi y z h; exact q26_4 w (n_mi_v h (mo z w) p9 p10 w33_τ14 (by rw [← e_x24]; assumption) (fun a b => by have w := p11 a; exact ⟨w.1, w.2.1 b⟩))) | (intro y z h; have w := mi y z h; exact q26_4 w (n_mi_v h (mo z w) p9 p10 w33_τ21 (by rw [← e_x24]; assumption) (fun a b => by have w := p11 a; exact ⟨w.1, w.2.1 b⟩))) | fail))⟩
        ·
          refine ⟨_, K3_X13_saveTop hT (show 1 ≤ (τ9.1 30) from by (first | omega | (simp only [st_s] <;> omega) | assumption | omega | fail)) (show (τ9.1 32) < 300 from by (first | omega | (simp only [st_s] <;> omega) | assumption | omega | fail)), ?_⟩
          intro τ28 hn_τ28 hf_τ28 hq
          obtain ⟨hT, q26_1, q26_2, q26_3, q26_4⟩ := hq
          replace q26_1 : ¬ (τ9.1 35) = 0 → (τ28.1 35) = (τ9.1 35) := q26_1
          replace q26_2 : (τ28.1 32) ≤ (τ9.1 32) + 1 := q26_2
          replace q26_3 : (τ9.1 35) = 0 → (τ28.1 35) = 0 → (τ9.1 31) + (τ9.1 33) + τ9.2.1 41 ((τ9.1 30) - 1) ≤ 40000 ∧ n_sv τ9 τ28 (τ9.2.1 41 ((τ9.1 30) - 1)) (τ9.2.1 43 (τ9.2.1 40 ((τ9.1 30) - 1))) := q26_3
          replace q26_4 : (τ9.1 35) = 0 → (τ9.1 31) + (τ9.1 33) + τ9.2.1 41 ((τ9.1 30) - 1) ≤ 40000 → (τ28.1 35) = 0 := q26_4
          have w3_τ28 : τ28.1 3 = τ9.1 3 := hf_τ28.1 3 (by decide)
          have w30_τ28 : τ28.1 30 = τ9.1 30 := hf_τ28.1 30 (by decide)
          have w31_τ28 : τ28.1 31 = τ9.1 31 := hf_τ28.1 31 (by decide)
          have g13_τ28 : τ28.2.1 13 = τ9.2.1 13 := hf_τ28.2.1 13 (by decide)
          have g14_τ28 : τ28.2.1 14 = τ9.2.1 14 := hf_τ28.2.1 14 (by decide)
          have g15_τ28 : τ28.2.1 15 = τ9.2.1 15 := hf_τ28.2.1 15 (by decide)
          have g16_τ28 : τ28.2.1 16 = τ9.2.1 16 := hf_τ28.2.1 16 (by decide)
          have g19_τ28 : τ28.2.1 19 = τ9.2.1 19 := hf_τ28.2.1 19 (by decide)
          have g27_τ28 : τ28.2.1 27 = τ9.2.1 27 := hf_τ28.2.1 27 (by decide)
          have g28_τ28 : τ28.2.1 28 = τ9.2.1 28 := hf_τ28.2.1 28 (by decide)
          have g40_τ28 : τ28.2.1 40 = τ9.2.1 40 := hf_τ28.2.1 40 (by decide)
          have g41_τ28 : τ28.2.1 41 = τ9.2.1 41 := hf_τ28.2.1 41 (by decide)
          have g43_τ28 : τ28.2.1 43 = τ9.2.1 43 := hf_τ28.2.1 43 (by decide)
          have W3 : τ28.1 3 = σ.1 3 := by first | exact w3_τ28.trans W3 | omega
          have G13 : τ28.2.1 13 = σ.2.1 13 := (g13_τ28).trans G13
          have G14 : τ28.2.1 14 = σ.2.1 14 := (g14_τ28).trans G14
          have G15 : τ28.2.1 15 = σ.2.1 15 := (g15_τ28).trans G15
          have G16 : τ28.2.1 16 = σ.2.1 16 := (g16_τ28).trans G16
          have G19 : τ28.2.1 19 = σ.2.1 19 := (g19_τ28).trans G19
          have G27 : τ28.2.1 27 = σ.2.1 27 := (g27_τ28).trans G27
          have G28 : τ28.2.1 28 = σ.2.1 28 := (g28_τ28).trans G28
          have A13 : ∀ j, 0 ≤ τ28.2.1 13 j ∧ τ28.2.1 13 j ≤ 4 := fun j => hT.2 13 j
          have A14 : ∀ j, 0 ≤ τ28.2.1 14 j ∧ τ28.2.1 14 j ≤ 30000 := fun j => hT.2 14 j
          have A15 : ∀ j, 0 ≤ τ28.2.1 15 j ∧ τ28.2.1 15 j ≤ 300 := fun j => hT.2 15 j
          have A16 : ∀ j, 0 ≤ τ28.2.1 16 j ∧ τ28.2.1 16 j ≤ 999 := fun j => hT.2 16 j
          have A19 : ∀ j, 0 ≤ τ28.2.1 19 j ∧ τ28.2.1 19 j ≤ 60 := fun j => hT.2 19 j
          have A27 : ∀ j, (-300) ≤ τ28.2.1 27 j ∧ τ28.2.1 27 j ≤ 1499 := fun j => hT.2 27 j
          have A28 : ∀ j, 0 ≤ τ28.2.1 28 j ∧ τ28.2.1 28 j ≤ 1 := fun j => hT.2 28 j
          have A40 : ∀ j, 0 ≤ τ28.2.1 40 j ∧ τ28.2.1 40 j ≤ 40000 := fun j => hT.2 40 j
          have A41 : ∀ j, 0 ≤ τ28.2.1 41 j ∧ τ28.2.1 41 j ≤ 1000 := fun j => hT.2 41 j
          have A43 : ∀ j, 0 ≤ τ28.2.1 43 j ∧ τ28.2.1 43 j ≤ 999 := fun j => hT.2 43 j
          have A44 : ∀ j, 0 ≤ τ28.2.1 44 j ∧ τ28.2.1 44 j ≤ 40000 := fun j => hT.2 44 j
          have A45 : ∀ j, 0 ≤ τ28.2.1 45 j ∧ τ28.2.1 45 j ≤ 1000 := fun j => hT.2 45 j
          have A47 : ∀ j, 0 ≤ τ28.2.1 47 j ∧ τ28.2.1 47 j ≤ 999 := fun j => hT.2 47 j
          have v3 : 0 ≤ τ28.1 3 ∧ τ28.1 3 ≤ 1000 := hT.1 3
          have v30 : 0 ≤ τ28.1 30 ∧ τ28.1 30 ≤ 200 := hT.1 30
          have v31 : 0 ≤ τ28.1 31 ∧ τ28.1 31 ≤ 40000 := hT.1 31
          have v32 : 0 ≤ τ28.1 32 ∧ τ28.1 32 ≤ 300 := hT.1 32
          have v33 : 0 ≤ τ28.1 33 ∧ τ28.1 33 ≤ 40000 := hT.1 33
          have v35 : 0 ≤ τ28.1 35 ∧ τ28.1 35 ≤ 19 := hT.1 35
          exact ⟨hT, (show ¬ (σ.1 35) = 0 → (τ28.1 35) = (σ.1 35) from by (first | omega | (simp only [st_s] <;> omega) | assumption | omega | fail)), (show (τ28.1 32) ≤ (σ.1 32) + 1 from by (first | omega | (simp only [st_s] <;> omega) | assumption | omega | fail)), (show σ.2.1 28 n1 = 0 → (τ28.1 32) = (σ.1 32) from by (first | omega | (simp only [st_s] <;> omega) | assumption | omega | fail)), (show (σ.1 35) = 0 → (τ28.1 35) = 0 → n_dA σ τ28 (σ.2.1 27 n1) (σ.2.1 28 n1) from by (first | (intro _ z; exfalso; omega) | (intro y z; exact n_dA_0 (mo y z) p9 p10 w32_τ9 w33_τ9 g44_τ9 g45_τ9 g47_τ9 (by rw [← e_x24]; assumption)) | (intro y z; exact n_dA_0 (mo y z) p9 p10 w32_τ14 w33_τ14 g44_τ14 g45_τ14 g47_τ14 (by rw [← e_x24]; assumption)) | (intro y z; exact n_dA_0 (mo y z) p9 p10 w32_τ21 w33_τ21 g44_τ21 g45_τ21 g47_τ21 (by rw [← e_x24]; assumption)) | (intro y z; have zz : τ9.1 35 = 0 := (by omega); exact n_dA_1 (mo y zz) p9 p10 w32_τ9 w33_τ9 g44_τ9 g45_τ9 g47_τ9 (by rw [← e_x24]; assumption) (q26_3 zz z).1 (q26_3 zz z).2 w30_τ28 w31_τ28 g40_τ28 g41_τ28 g43_τ28 v32o.1) | (intro y z; have zz : τ14.1 35 = 0 := (by omega); exact n_dA_1 (mo y zz) p9 p10 w32_τ14 w33_τ14 g44_τ14 g45_τ14 g47_τ14 (by rw [← e_x24]; assumption) (q26_3 zz z).1 (q26_3 zz z).2 w30_τ28 w31_τ28 g40_τ28 g41_τ28 g43_τ28 v32o.1) | (intro y z; have zz : τ21.1 35 = 0 := (by omega); exact n_dA_1 (mo y zz) p9 p10 w32_τ21 w33_τ21 g44_τ21 g45_τ21 g47_τ21 (by rw [← e_x24]; assumption) (q26_3 zz z).1 (q26_3 zz z).2 w30_τ28 w31_τ28 g40_τ28 g41_τ28 g43_τ28 v32o.1) | fail)), (show n3 = 0 → (σ.1 35) = 0 → n_mi σ (σ.2.1 27 n1) (σ.2.1 28 n1) → (τ28.1 35) = 0 from by (first | (intro y z h; have w := mi y z h; first | (exfalso; omega) | exact w | omega) | (intro y z h; have w := mi y z h; exact q26_4 w (n_mi_v h (mo z w) p9 p10 w33_τ9 (by rw [← e_x24]; assumption) (fun a b => by have w := p11 a; exact ⟨w.1, w.2.1 b⟩))) | (intro y z h; have w := mi y z h; exact q26_4 w (n_mi_v h (mo z w) p9 p10 w33_τ14 (by rw [← e_x24]; assumption) (fun a b => by have w := p11 a; exact ⟨w.1, w.2.1 b⟩))) | (intro y z h; have w := mi y z h; exact q26_4 w (n_mi_v h (mo z w) p9 p10 w33_τ21 (by rw [← e_x24]; assumption) (fun a b => by have w := p11 a; exact ⟨w.1, w.2.1 b⟩))) | fail))⟩
    ·
      intro x10 r_x10 e_x10
      have b_x10 : 0 ≤ x10 ∧ x10 ≤ 30000 := by rw [e_x10]; exact hT.2 14 _
      intro x11 r_x11 e_x11
      have b_x11 : 0 ≤ x11 ∧ x11 ≤ 300 := by rw [e_x11]; exact hT.2 15 _
      have j11 := p11 (by rw [← e_x2]; omega)
      have k13 : σ.2.1 13 (σ.2.1 27 n1) < 2 := by rw [← e_x2, ← e_x5]; assumption
      refine ⟨_, K3_X13_pushRow_q17 hT (show 0 ≤ x10 from by (first | omega | (simp only [st_s] <;> omega) | assumption | omega | fail)) (show x10 ≤ 30000 from by (first | omega | (simp only [st_s] <;> omega) | assumption | omega | fail)) (show 0 ≤ x11 from by (first | omega | (simp only [st_s] <;> omega) | assumption | omega | fail)) (show 0 ≤ n2 from by (first | omega | (simp only [st_s] <;> omega) | assumption | omega | fail)) (show n2 ≤ 20000 from by (first | omega | (simp only [st_s] <;> omega) | assumption | omega | fail)) (show x11 ≤ 300 from by (first | omega | (simp only [st_s] <;> omega) | assumption | omega | fail)), ?_⟩
      intro τ14 hn_τ14 hf_τ14 hq
      obtain ⟨hT, q12_1, q12_2, q12_3, q12_4⟩ := hq
      replace q12_1 : (σ.1 35) = 0 → (τ14.1 35) = 0 → (τ14.1 30) = (σ.1 30) + 1 ∧ 1 ≤ (τ14.1 30) := q12_1
      replace q12_2 : ¬ (σ.1 35) = 0 → (τ14.1 35) = (σ.1 35) := q12_2
      replace q12_3 : (σ.1 35) = 0 → (τ14.1 35) = 0 → (¬ (σ.1 30) = 200 ∧ x11 ≤ 1000 ∧ (σ.1 31) + (σ.1 33) + x11 ≤ 40000) ∧ n_pu σ τ14 x11 (σ.2.1 16 x10) := q12_3
      replace q12_4 : (σ.1 35) = 0 → (¬ (σ.1 30) = 200 ∧ x11 ≤ 1000 ∧ (σ.1 31) + (σ.1 33) + x11 ≤ 40000) → (τ14.1 35) = 0 := q12_4
      have w3_τ14 : τ14.1 3 = σ.1 3 := hf_τ14.1 3 (by decide)
      have w32_τ14 : τ14.1 32 = σ.1 32 := hf_τ14.1 32 (by decide)
      have w33_τ14 : τ14.1 33 = σ.1 33 := hf_τ14.1 33 (by decide)
      have g13_τ14 : τ14.2.1 13 = σ.2.1 13 := hf_τ14.2.1 13 (by decide)
      have g14_τ14 : τ14.2.1 14 = σ.2.1 14 := hf_τ14.2.1 14 (by decide)
      have g15_τ14 : τ14.2.1 15 = σ.2.1 15 := hf_τ14.2.1 15 (by decide)
      have g16_τ14 : τ14.2.1 16 = σ.2.1 16 := hf_τ14.2.1 16 (by decide)
      have g19_τ14 : τ14.2.1 19 = σ.2.1 19 := hf_τ14.2.1 19 (by decide)
      have g27_τ14 : τ14.2.1 27 = σ.2.1 27 := hf_τ14.2.1 27 (by decide)
      have g28_τ14 : τ14.2.1 28 = σ.2.1 28 := hf_τ14.2.1 28 (by decide)
      have g44_τ14 : τ14.2.1 44 = σ.2.1 44 := hf_τ14.2.1 44 (by decide)
      have g45_τ14 : τ14.2.1 45 = σ.2.1 45 := hf_τ14.2.1 45 (by decide)
      have g47_τ14 : τ14.2.1 47 = σ.2.1 47 := hf_τ14.2.1 47 (by decide)
      have W3 : τ14.1 3 = σ.1 3 := by first | exact w3_τ14.trans W3 | omega
      have G13 : τ14.2.1 13 = σ.2.1 13 := (g13_τ14).trans G13
      have G14 : τ14.2.1 14 = σ.2.1 14 := (g14_τ14).trans G14
      have G15 : τ14.2.1 15 = σ.2.1 15 := (g15_τ14).trans G15
      have G16 : τ14.2.1 16 = σ.2.1 16 := (g16_τ14).trans G16
      have G19 : τ14.2.1 19 = σ.2.1 19 := (g19_τ14).trans G19
      have G27 : τ14.2.1 27 = σ.2.1 27 := (g27_τ14).trans G27
      have G28 : τ14.2.1 28 = σ.2.1 28 := (g28_τ14).trans G28
      have A13 : ∀ j, 0 ≤ τ14.2.1 13 j ∧ τ14.2.1 13 j ≤ 4 := fun j => hT.2 13 j
      have A14 : ∀ j, 0 ≤ τ14.2.1 14 j ∧ τ14.2.1 14 j ≤ 30000 := fun j => hT.2 14 j
      have A15 : ∀ j, 0 ≤ τ14.2.1 15 j ∧ τ14.2.1 15 j ≤ 300 := fun j => hT.2 15 j
      have A16 : ∀ j, 0 ≤ τ14.2.1 16 j ∧ τ14.2.1 16 j ≤ 999 := fun j => hT.2 16 j
      have A19 : ∀ j, 0 ≤ τ14.2.1 19 j ∧ τ14.2.1 19 j ≤ 60 := fun j => hT.2 19 j
      have A27 : ∀ j, (-300) ≤ τ14.2.1 27 j ∧ τ14.2.1 27 j ≤ 1499 := fun j => hT.2 27 j
      have A28 : ∀ j, 0 ≤ τ14.2.1 28 j ∧ τ14.2.1 28 j ≤ 1 := fun j => hT.2 28 j
      have A40 : ∀ j, 0 ≤ τ14.2.1 40 j ∧ τ14.2.1 40 j ≤ 40000 := fun j => hT.2 40 j
      have A41 : ∀ j, 0 ≤ τ14.2.1 41 j ∧ τ14.2.1 41 j ≤ 1000 := fun j => hT.2 41 j
      have A43 : ∀ j, 0 ≤ τ14.2.1 43 j ∧ τ14.2.1 43 j ≤ 999 := fun j => hT.2 43 j
      have A44 : ∀ j, 0 ≤ τ14.2.1 44 j ∧ τ14.2.1 44 j ≤ 40000 := fun j => hT.2 44 j
      have A45 : ∀ j, 0 ≤ τ14.2.1 45 j ∧ τ14.2.1 45 j ≤ 1000 := fun j => hT.2 45 j
      have A47 : ∀ j, 0 ≤ τ14.2.1 47 j ∧ τ14.2.1 47 j ≤ 999 := fun j => hT.2 47 j
      have v3 : 0 ≤ τ14.1 3 ∧ τ14.1 3 ≤ 1000 := hT.1 3
      have v30 : 0 ≤ τ14.1 30 ∧ τ14.1 30 ≤ 200 := hT.1 30
      have v31 : 0 ≤ τ14.1 31 ∧ τ14.1 31 ≤ 40000 := hT.1 31
      have v32 : 0 ≤ τ14.1 32 ∧ τ14.1 32 ≤ 300 := hT.1 32
      have v33 : 0 ≤ τ14.1 33 ∧ τ14.1 33 ≤ 40000 := hT.1 33
      have v35 : 0 ≤ τ14.1 35 ∧ τ14.1 35 ≤ 19 := hT.1 35
      rw [e_x11, e_x2] at q12_3 q12_4
      have mo : σ.1 35 = 0 → τ14.1 35 = 0 → n_mo σ τ14 (σ.2.1 27 n1) := fun y z => n_mo_h (by have w := (q12_3 y z).2; rw [e_x10, e_x2] at w; exact w) (q12_3 y z).1 (by rw [← e_x2]; omega) k13 j11.1.1.1 p9 p10 v30o
      have mi : n3 = 0 → σ.1 35 = 0 → n_mi σ (σ.2.1 27 n1) (σ.2.1 28 n1) → τ14.1 35 = 0 := fun y z h => q12_4 z (n_mi_h h (by rw [← e_x2]; omega) k13 p9 p10)
      refine h96 _ _ ?_
      refine ⟨fun c22 => ?_, fun c22 => ?_⟩
      ·
        exact ⟨hT, (show ¬ (σ.1 35) = 0 → (τ14.1 35) = (σ.1 35) from by (first | omega | (simp only [st_s] <;> omega) | assumption | omega | fail)), (show (τ14.1 32) ≤ (σ.1 32) + 1 from by (first | omega | (simp only [st_s] <;> omega) | assumption | omega | fail)), (show σ.2.1 28 n1 = 0 → (τ14.1 32) = (σ.1 32) from by (first | omega | (simp only [st_s] <;> omega) | assumption | omega | fail)), (show (σ.1 35) = 0 → (τ14.1 35) = 0 → n_dA σ τ14 (σ.2.1 27 n1) (σ.2.1 28 n1) from by (first | (intro _ z; exfalso; omega) | (intro y z; exact n_dA_0 (mo y z) p9 p10 w32_τ9 w33_τ9 g44_τ9 g45_τ9 g47_τ9 (by rw [← e_x24]; assumption)) | (intro y z; exact n_dA_0 (mo y z) p9 p10 w32_τ14 w33_τ14 g44_τ14 g45_τ14 g47_τ14 (by rw [← e_x24]; assumption)) | (intro y z; exact n_dA_0 (mo y z) p9 p10 w32_τ21 w33_τ21 g44_τ21 g45_τ21 g47_τ21 (by rw [← e_x24]; assumption)) | (intro y z; have zz : τ9.1 35 = 0 := (by omega); exact n_dA_1 (mo y zz) p9 p10 w32_τ9 w33_τ9 g44_τ9 g45_τ9 g47_τ9 (by rw [← e_x24]; assumption) (q26_3 zz z).1 (q26_3 zz z).2 w30_τ28 w31_τ28 g40_τ28 g41_τ28 g43_τ28 v32o.1) | (intro y z; have zz : τ14.1 35 = 0 := (by omega); exact n_dA_1 (mo y zz) p9 p10 w32_τ14 w33_τ14 g44_τ14 g45_τ14 g47_τ14 (by rw [← e_x24]; assumption) (q26_3 zz z).1 (q26_3 zz z).2 w30_τ28 w31_τ28 g40_τ28 g41_τ28 g43_τ28 v32o.1) | (intro y z; have zz : τ21.1 35 = 0 := (by omega); exact n_dA_1 (mo y zz) p9 p10 w32_τ21 w33_τ21 g44_τ21 g45_τ21 g47_τ21 (by rw [← e_x24]; assumption) (q26_3 zz z).1 (q26_3 zz z).2 w30_τ28 w31_τ28 g40_τ28 g41_τ28 g43_τ28 v32o.1) | fail)), (show n3 = 0 → (σ.1 35) = 0 → n_mi σ (σ.2.1 27 n1) (σ.2.1 28 n1) → (τ14.1 35) = 0 from by (first | (intro y z h; have w := mi y z h; first | (exfalso; omega) | exact w | omega) | (intro y z h; have w := mi y z h; exact q26_4 w (n_mi_v h (mo z w) p9 p10 w33_τ9 (by rw [← e_x24]; assumption) (fun a b => by have w := p11 a; exact ⟨w.1, w.2.1 b⟩))) | (intro y z h; have w := mi y z h; exact q26_4 w (n_mi_v h (mo z w) p9 p10 w33_τ14 (by rw [← e_x24]; assumption) (fun a b => by have w := p11 a; exact ⟨w.1, w.2.1 b⟩))) | (intro y z h; have w := mi y z h; exact q26_4 w (n_mi_v h (mo z w) p9 p10 w33_τ21 (by rw [← e_x24]; assumption) (fun a b => by have w := p11 a; exact ⟨w.1, w.2.1 b⟩))) | fail))⟩
      ·
        refine ⟨(show 0 ≤ n1 ∧ n1 < 20001 from by (first | omega | (simp only [st_s] <;> omega) | assumption | omega | fail)), ?_⟩
        intro x24 r_x24 e_x24
        have b_x24 : 0 ≤ x24 ∧ x24 ≤ 1 := by rw [e_x24]; exact hT.2 28 _
        first | rw [g28_τ9] at e_x24 | rw [g28_τ14] at e_x24 | rw [g28_τ21] at e_x24
        refine ⟨fun c25 => ?_, fun c25 => ?_⟩
        ·
          exact ⟨hT, (show ¬ (σ.1 35) = 0 → (τ14.1 35) = (σ.1 35) from by (first | omega | (simp only [st_s] <;> omega) | assumption | omega | fail)), (show (τ14.1 32) ≤ (σ.1 32) + 1 from by (first | omega | (simp only [st_s] <;> omega) | assumption | omega | fail)), (show σ.2.1 28 n1 = 0 → (τ14.1 32) = (σ.1 32) from by (first | omega | (simp only [st_s] <;> omega) | assumption | omega | fail)), (show (σ.1 35) = 0 → (τ14.1 35) = 0 → n_dA σ τ14 (σ.2.1 27 n1) (σ.2.1 28 n1) from by (first | (intro _ z; exfalso; omega) | (intro y z; exact n_dA_0 (mo y z) p9 p10 w32_τ9 w33_τ9 g44_τ9 g45_τ9 g47_τ9 (by rw [← e_x24]; assumption)) | (intro y z; exact n_dA_0 (mo y z) p9 p10 w32_τ14 w33_τ14 g44_τ14 g45_τ14 g47_τ14 (by rw [← e_x24]; assumption)) | (intro y z; exact n_dA_0 (mo y z) p9 p10 w32_τ21 w33_τ21 g44_τ21 g45_τ21 g47_τ21 (by rw [← e_x24]; assumption)) | (intro y z; have zz : τ9.1 35 = 0 := (by omega); exact n_dA_1 (mo y zz) p9 p10 w32_τ9 w33_τ9 g44_τ9 g45_τ9 g47_τ9 (by rw [← e_x24]; assumption) (q26_3 zz z).1 (q26_3 zz z).2 w30_τ28 w31_τ28 g40_τ28 g41_τ28 g43_τ28 v32o.1) | (intro y z; have zz : τ14.1 35 = 0 := (by omega); exact n_dA_1 (mo y zz) p9 p10 w32_τ14 w33_τ14 g44_τ14 g45_τ14 g47_τ14 (by rw [← e_x24]; assumption) (q26_3 zz z).1 (q26_3 zz z).2 w30_τ28 w31_τ28 g40_τ28 g41_τ28 g43_τ28 v32o.1) | (intro y z; have zz : τ21.1 35 = 0 := (by omega); exact n_dA_1 (mo y zz) p9 p10 w32_τ21 w33_τ21 g44_τ21 g45_τ21 g47_τ21 (by rw [← e_x24]; assumption) (q26_3 zz z).1 (q26_3 zz z).2 w30_τ28 w31_τ28 g40_τ28 g41_τ28 g43_τ28 v32o.1) | fail)), (show n3 = 0 → (σ.1 35) = 0 → n_mi σ (σ.2.1 27 n1) (σ.2.1 28 n1) → (τ14.1 35) = 0 from by (first | (intro y z h; have w := mi y z h; first | (exfalso; omega) | exact w | omega) | (intro y z h; have w := mi y z h; exact q26_4 w (n_mi_v h (mo z w) p9 p10 w33_τ9 (by rw [← e_x24]; assumption) (fun a b => by have w := p11 a; exact ⟨w.1, w.2.1 b⟩))) | (intro y z h; have w := mi y z h; exact q26_4 w (n_mi_v h (mo z w) p9 p10 w33_τ14 (by rw [← e_x24]; assumption) (fun a b => by have w := p11 a; exact ⟨w.1, w.2.1 b⟩))) | (intro y z h; have w := mi y z h; exact q26_4 w (n_mi_v h (mo z w) p9 p10 w33_τ21 (by rw [← e_x24]; assumption) (fun a b => by have w := p11 a; exact ⟨w.1, w.2.1 b⟩))) | fail))⟩
        ·
          refine ⟨_, K3_X13_saveTop hT (show 1 ≤ (τ14.1 30) from by (first | omega | (simp only [st_s] <;> omega) | assumption | omega | fail)) (show (τ14.1 32) < 300 from by (first | omega | (simp only [st_s] <;> omega) | assumption | omega | fail)), ?_⟩
          intro τ28 hn_τ28 hf_τ28 hq
          obtain ⟨hT, q26_1, q26_2, q26_3, q26_4⟩ := hq
          replace q26_1 : ¬ (τ14.1 35) = 0 → (τ28.1 35) = (τ14.1 35) := q26_1
          replace q26_2 : (τ28.1 32) ≤ (τ14.1 32) + 1 := q26_2
          replace q26_3 : (τ14.1 35) = 0 → (τ28.1 35) = 0 → (τ14.1 31) + (τ14.1 33) + τ14.2.1 41 ((τ14.1 30) - 1) ≤ 40000 ∧ n_sv τ14 τ28 (τ14.2.1 41 ((τ14.1 30) - 1)) (τ14.2.1 43 (τ14.2.1 40 ((τ14.1 30) - 1))) := q26_3
          replace q26_4 : (τ14.1 35) = 0 → (τ14.1 31) + (τ14.1 33) + τ14.2.1 41 ((τ14.1 30) - 1) ≤ 40000 → (τ28.1 35) = 0 := q26_4
          have w3_τ28 : τ28.1 3 = τ14.1 3 := hf_τ28.1 3 (by decide)
          have w30_τ28 : τ28.1 30 = τ14.1 30 := hf_τ28.1 30 (by decide)
          have w31_τ28 : τ28.1 31 = τ14.1 31 := hf_τ28.1 31 (by decide)
          have g13_τ28 : τ28.2.1 13 = τ14.2.1 13 := hf_τ28.2.1 13 (by decide)
          have g14_τ28 : τ28.2.1 14 = τ14.2.1 14 := hf_τ28.2.1 14 (by decide)
          have g15_τ28 : τ28.2.1 15 = τ14.2.1 15 := hf_τ28.2.1 15 (by decide)
          have g16_τ28 : τ28.2.1 16 = τ14.2.1 16 := hf_τ28.2.1 16 (by decide)
          have g19_τ28 : τ28.2.1 19 = τ14.2.1 19 := hf_τ28.2.1 19 (by decide)
          have g27_τ28 : τ28.2.1 27 = τ14.2.1 27 := hf_τ28.2.1 27 (by decide)
          have g28_τ28 : τ28.2.1 28 = τ14.2.1 28 := hf_τ28.2.1 28 (by decide)
          have g40_τ28 : τ28.2.1 40 = τ14.2.1 40 := hf_τ28.2.1 40 (by decide)
          have g41_τ28 : τ28.2.1 41 = τ14.2.1 41 := hf_τ28.2.1 41 (by decide)
          have g43_τ28 : τ28.2.1 43 = τ14.2.1 43 := hf_τ28.2.1 43 (by decide)
          have W3 : τ28.1 3 = σ.1 3 := by first | exact w3_τ28.trans W3 | omega
          have G13 : τ28.2.1 13 = σ.2.1 13 := (g13_τ28).trans G13
          have G14 : τ28.2.1 14 = σ.2.1 14 := (g14_τ28).trans G14
          have G15 : τ28.2.1 15 = σ.2.1 15 := (g15_τ28).trans G15
          have G16 : τ28.2.1 16 = σ.2.1 16 := (g16_τ28).trans G16
          have G19 : τ28.2.1 19 = σ.2.1 19 := (g19_τ28).trans G19
          have G27 : τ28.2.1 27 = σ.2.1 27 := (g27_τ28).trans G27
          have G28 : τ28.2.1 28 = σ.2.1 28 := (g28_τ28).trans G28
          have A13 : ∀ j, 0 ≤ τ28.2.1 13 j ∧ τ28.2.1 13 j ≤ 4 := fun j => hT.2 13 j
          have A14 : ∀ j, 0 ≤ τ28.2.1 14 j ∧ τ28.2.1 14 j ≤ 30000 := fun j => hT.2 14 j
          have A15 : ∀ j, 0 ≤ τ28.2.1 15 j ∧ τ28.2.1 15 j ≤ 300 := fun j => hT.2 15 j
          have A16 : ∀ j, 0 ≤ τ28.2.1 16 j ∧ τ28.2.1 16 j ≤ 999 := fun j => hT.2 16 j
          have A19 : ∀ j, 0 ≤ τ28.2.1 19 j ∧ τ28.2.1 19 j ≤ 60 := fun j => hT.2 19 j
          have A27 : ∀ j, (-300) ≤ τ28.2.1 27 j ∧ τ28.2.1 27 j ≤ 1499 := fun j => hT.2 27 j
          have A28 : ∀ j, 0 ≤ τ28.2.1 28 j ∧ τ28.2.1 28 j ≤ 1 := fun j => hT.2 28 j
          have A40 : ∀ j, 0 ≤ τ28.2.1 40 j ∧ τ28.2.1 40 j ≤ 40000 := fun j => hT.2 40 j
          have A41 : ∀ j, 0 ≤ τ28.2.1 41 j ∧ τ28.2.1 41 j ≤ 1000 := fun j => hT.2 41 j
          have A43 : ∀ j, 0 ≤ τ28.2.1 43 j ∧ τ28.2.1 43 j ≤ 999 := fun j => hT.2 43 j
          have A44 : ∀ j, 0 ≤ τ28.2.1 44 j ∧ τ28.2.1 44 j ≤ 40000 := fun j => hT.2 44 j
          have A45 : ∀ j, 0 ≤ τ28.2.1 45 j ∧ τ28.2.1 45 j ≤ 1000 := fun j => hT.2 45 j
          have A47 : ∀ j, 0 ≤ τ28.2.1 47 j ∧ τ28.2.1 47 j ≤ 999 := fun j => hT.2 47 j
          have v3 : 0 ≤ τ28.1 3 ∧ τ28.1 3 ≤ 1000 := hT.1 3
          have v30 : 0 ≤ τ28.1 30 ∧ τ28.1 30 ≤ 200 := hT.1 30
          have v31 : 0 ≤ τ28.1 31 ∧ τ28.1 31 ≤ 40000 := hT.1 31
          have v32 : 0 ≤ τ28.1 32 ∧ τ28.1 32 ≤ 300 := hT.1 32
          have v33 : 0 ≤ τ28.1 33 ∧ τ28.1 33 ≤ 40000 := hT.1 33
          have v35 : 0 ≤ τ28.1 35 ∧ τ28.1 35 ≤ 19 := hT.1 35
          exact ⟨hT, (show ¬ (σ.1 35) = 0 → (τ28.1 35) = (σ.1 35) from by (first | omega | (simp only [st_s] <;> omega) | assumption | omega | fail)), (show (τ28.1 32) ≤ (σ.1 32) + 1 from by (first | omega | (simp only [st_s] <;> omega) | assumption | omega | fail)), (show σ.2.1 28 n1 = 0 → (τ28.1 32) = (σ.1 32) from by (first | omega | (simp only [st_s] <;> omega) | assumption | omega | fail)), (show (σ.1 35) = 0 → (τ28.1 35) = 0 → n_dA σ τ28 (σ.2.1 27 n1) (σ.2.1 28 n1) from by (first | (intro _ z; exfalso; omega) | (intro y z; exact n_dA_0 (mo y z) p9 p10 w32_τ9 w33_τ9 g44_τ9 g45_τ9 g47_τ9 (by rw [← e_x24]; assumption)) | (intro y z; exact n_dA_0 (mo y z) p9 p10 w32_τ14 w33_τ14 g44_τ14 g45_τ14 g47_τ14 (by rw [← e_x24]; assumption)) | (intro y z; exact n_dA_0 (mo y z) p9 p10 w32_τ21 w33_τ21 g44_τ21 g45_τ21 g47_τ21 (by rw [← e_x24]; assumption)) | (intro y z; have zz : τ9.1 35 = 0 := (by omega); exact n_dA_1 (mo y zz) p9 p10 w32_τ9 w33_τ9 g44_τ9 g45_τ9 g47_τ9 (by rw [← e_x24]; assumption) (q26_3 zz z).1 (q26_3 zz z).2 w30_τ28 w31_τ28 g40_τ28 g41_τ28 g43_τ28 v32o.1) | (intro y z; have zz : τ14.1 35 = 0 := (by omega); exact n_dA_1 (mo y zz) p9 p10 w32_τ14 w33_τ14 g44_τ14 g45_τ14 g47_τ14 (by rw [← e_x24]; assumption) (q26_3 zz z).1 (q26_3 zz z).2 w30_τ28 w31_τ28 g40_τ28 g41_τ28 g43_τ28 v32o.1) | (intro y z; have zz : τ21.1 35 = 0 := (by omega); exact n_dA_1 (mo y zz) p9 p10 w32_τ21 w33_τ21 g44_τ21 g45_τ21 g47_τ21 (by rw [← e_x24]; assumption) (q26_3 zz z).1 (q26_3 zz z).2 w30_τ28 w31_τ28 g40_τ28 g41_τ28 g43_τ28 v32o.1) | fail)), (show n3 = 0 → (σ.1 35) = 0 → n_mi σ (σ.2.1 27 n1) (σ.2.1 28 n1) → (τ28.1 35) = 0 from by (first | (intro y z h; have w := mi y z h; first | (exfalso; omega) | exact w | omega) | (intro y z h; have w := mi y z h; exact q26_4 w (n_mi_v h (mo z w) p9 p10 w33_τ9 (by rw [← e_x24]; assumption) (fun a b => by have w := p11 a; exact ⟨w.1, w.2.1 b⟩))) | (intro y z h; have w := mi y z h; exact q26_4 w (n_mi_v h (mo z w) p9 p10 w33_τ14 (by rw [← e_x24]; assumption) (fun a b => by have w := p11 a; exact ⟨w.1, w.2.1 b⟩))) | (intro y z h; have w := mi y z h; exact q26_4 w (n_mi_v h (mo z w) p9 p10 w33_τ21 (by rw [← e_x24]; assumption) (fun a b => by have w := p11 a; exact ⟨w.1, w.2.1 b⟩))) | fail))⟩
  ·
    refine ⟨(show 0 ≤ ((-1) - x2) ∧ ((-1) - x2) < 300 from by (first | omega | (simp only [st_s] <;> omega) | assumption | omega | fail)), ?_⟩
    intro x16 r_x16 e_x16
    have b_x16 : 0 ≤ x16 ∧ x16 ≤ 40000 := by rw [e_x16]; exact hT.2 44 _
    intro x17 r_x17 e_x17
    have b_x17 : 0 ≤ x17 ∧ x17 ≤ 1000 := by rw [e_x17]; exact hT.2 45 _
    intro x18 r_x18 e_x18
    have b_x18 : 0 ≤ x18 ∧ x18 ≤ 20000 := by rw [e_x18]; exact hT.2 46 _
    have w0 : σ.2.1 27 n1 < 0 := by rw [← e_x2]; assumption
    have l12 := p12 w0
    refine ⟨_, K3_X13_pushRow_q50 hT (show 0 ≤ x16 from by (first | omega | (simp only [st_s] <;> omega) | assumption | omega | fail)) (show x16 ≤ 40000 from by (first | omega | (simp only [st_s] <;> omega) | assumption | omega | fail)) (show 0 ≤ x17 from by (first | omega | (simp only [st_s] <;> omega) | assumption | omega | fail)) (show 0 ≤ x18 from by (first | omega | (simp only [st_s] <;> omega) | assumption | omega | fail)) (show x18 ≤ 20000 from by (first | omega | (simp only [st_s] <;> omega) | assumption | omega | fail)) (show x17 ≤ 1000 from by (first | omega | (simp only [st_s] <;> omega) | assumption | omega | fail)), ?_⟩
    intro τ21 hn_τ21 hf_τ21 hq
    obtain ⟨hT, q19_1, q19_2, q19_3, q19_4⟩ := hq
    replace q19_1 : (σ.1 35) = 0 → (τ21.1 35) = 0 → (τ21.1 30) = (σ.1 30) + 1 ∧ 1 ≤ (τ21.1 30) := q19_1
    replace q19_2 : ¬ (σ.1 35) = 0 → (τ21.1 35) = (σ.1 35) := q19_2
    replace q19_3 : (σ.1 35) = 0 → (τ21.1 35) = 0 → (¬ (σ.1 30) = 200 ∧ x17 ≤ 1000 ∧ (σ.1 31) + (σ.1 33) + x17 ≤ 40000) ∧ n_pu σ τ21 x17 (σ.2.1 47 x16) := q19_3
    replace q19_4 : (σ.1 35) = 0 → (¬ (σ.1 30) = 200 ∧ x17 ≤ 1000 ∧ (σ.1 31) + (σ.1 33) + x17 ≤ 40000) → (τ21.1 35) = 0 := q19_4
    have w3_τ21 : τ21.1 3 = σ.1 3 := hf_τ21.1 3 (by decide)
    have w32_τ21 : τ21.1 32 = σ.1 32 := hf_τ21.1 32 (by decide)
    have w33_τ21 : τ21.1 33 = σ.1 33 := hf_τ21.1 33 (by decide)
    have g13_τ21 : τ21.2.1 13 = σ.2.1 13 := hf_τ21.2.1 13 (by decide)
    have g14_τ21 : τ21.2.1 14 = σ.2.1 14 := hf_τ21.2.1 14 (by decide)
    have g15_τ21 : τ21.2.1 15 = σ.2.1 15 := hf_τ21.2.1 15 (by decide)
    have g16_τ21 : τ21.2.1 16 = σ.2.1 16 := hf_τ21.2.1 16 (by decide)
    have g19_τ21 : τ21.2.1 19 = σ.2.1 19 := hf_τ21.2.1 19 (by decide)
    have g27_τ21 : τ21.2.1 27 = σ.2.1 27 := hf_τ21.2.1 27 (by decide)
    have g28_τ21 : τ21.2.1 28 = σ.2.1 28 := hf_τ21.2.1 28 (by decide)
    have g44_τ21 : τ21.2.1 44 = σ.2.1 44 := hf_τ21.2.1 44 (by decide)
    have g45_τ21 : τ21.2.1 45 = σ.2.1 45 := hf_τ21.2.1 45 (by decide)
    have g47_τ21 : τ21.2.1 47 = σ.2.1 47 := hf_τ21.2.1 47 (by decide)
    have W3 : τ21.1 3 = σ.1 3 := by first | exact w3_τ21.trans W3 | omega
    have G13 : τ21.2.1 13 = σ.2.1 13 := (g13_τ21).trans G13
    have G14 : τ21.2.1 14 = σ.2.1 14 := (g14_τ21).trans G14
    have G15 : τ21.2.1 15 = σ.2.1 15 := (g15_τ21).trans G15
    have G16 : τ21.2.1 16 = σ.2.1 16 := (g16_τ21).trans G16
    have G19 : τ21.2.1 19 = σ.2.1 19 := (g19_τ21).trans G19
    have G27 : τ21.2.1 27 = σ.2.1 27 := (g27_τ21).trans G27
    have G28 : τ21.2.1 28 = σ.2.1 28 := (g28_τ21).trans G28
    have A13 : ∀ j, 0 ≤ τ21.2.1 13 j ∧ τ21.2.1 13 j ≤ 4 := fun j => hT.2 13 j
    have A14 : ∀ j, 0 ≤ τ21.2.1 14 j ∧ τ21.2.1 14 j ≤ 30000 := fun j => hT.2 14 j
    have A15 : ∀ j, 0 ≤ τ21.2.1 15 j ∧ τ21.2.1 15 j ≤ 300 := fun j => hT.2 15 j
    have A16 : ∀ j, 0 ≤ τ21.2.1 16 j ∧ τ21.2.1 16 j ≤ 999 := fun j => hT.2 16 j
    have A19 : ∀ j, 0 ≤ τ21.2.1 19 j ∧ τ21.2.1 19 j ≤ 60 := fun j => hT.2 19 j
    have A27 : ∀ j, (-300) ≤ τ21.2.1 27 j ∧ τ21.2.1 27 j ≤ 1499 := fun j => hT.2 27 j
    have A28 : ∀ j, 0 ≤ τ21.2.1 28 j ∧ τ21.2.1 28 j ≤ 1 := fun j => hT.2 28 j
    have A40 : ∀ j, 0 ≤ τ21.2.1 40 j ∧ τ21.2.1 40 j ≤ 40000 := fun j => hT.2 40 j
    have A41 : ∀ j, 0 ≤ τ21.2.1 41 j ∧ τ21.2.1 41 j ≤ 1000 := fun j => hT.2 41 j
    have A43 : ∀ j, 0 ≤ τ21.2.1 43 j ∧ τ21.2.1 43 j ≤ 999 := fun j => hT.2 43 j
    have A44 : ∀ j, 0 ≤ τ21.2.1 44 j ∧ τ21.2.1 44 j ≤ 40000 := fun j => hT.2 44 j
    have A45 : ∀ j, 0 ≤ τ21.2.1 45 j ∧ τ21.2.1 45 j ≤ 1000 := fun j => hT.2 45 j
    have A47 : ∀ j, 0 ≤ τ21.2.1 47 j ∧ τ21.2.1 47 j ≤ 999 := fun j => hT.2 47 j
    have v3 : 0 ≤ τ21.1 3 ∧ τ21.1 3 ≤ 1000 := hT.1 3
    have v30 : 0 ≤ τ21.1 30 ∧ τ21.1 30 ≤ 200 := hT.1 30
    have v31 : 0 ≤ τ21.1 31 ∧ τ21.1 31 ≤ 40000 := hT.1 31
    have v32 : 0 ≤ τ21.1 32 ∧ τ21.1 32 ≤ 300 := hT.1 32
    have v33 : 0 ≤ τ21.1 33 ∧ τ21.1 33 ≤ 40000 := hT.1 33
    have v35 : 0 ≤ τ21.1 35 ∧ τ21.1 35 ≤ 19 := hT.1 35
    rw [e_x17, e_x2] at q19_3 q19_4
    have mo : σ.1 35 = 0 → τ21.1 35 = 0 → n_mo σ τ21 (σ.2.1 27 n1) := fun y z => n_mo_s (by have w := (q19_3 y z).2; rw [e_x16, e_x2] at w; exact w) (q19_3 y z).1 w0 l12 p9 p10 v30o
    have mi : n3 = 0 → σ.1 35 = 0 → n_mi σ (σ.2.1 27 n1) (σ.2.1 28 n1) → τ21.1 35 = 0 := fun y z h => q19_4 z (n_mi_s h w0 p9 p10)
    refine h96 _ _ ?_
    refine ⟨fun c22 => ?_, fun c22 => ?_⟩
    ·
      exact ⟨hT, (show ¬ (σ.1 35) = 0 → (τ21.1 35) = (σ.1 35) from by (first | omega | (simp only [st_s] <;> omega) | assumption | omega | fail)), (show (τ21.1 32) ≤ (σ.1 32) + 1 from by (first | omega | (simp only [st_s] <;> omega) | assumption | omega | fail)), (show σ.2.1 28 n1 = 0 → (τ21.1 32) = (σ.1 32) from by (first | omega | (simp only [st_s] <;> omega) | assumption | omega | fail)), (show (σ.1 35) = 0 → (τ21.1 35) = 0 → n_dA σ τ21 (σ.2.1 27 n1) (σ.2.1 28 n1) from by (first | (intro _ z; exfalso; omega) | (intro y z; exact n_dA_0 (mo y z) p9 p10 w32_τ9 w33_τ9 g44_τ9 g45_τ9 g47_τ9 (by rw [← e_x24]; assumption)) | (intro y z; exact n_dA_0 (mo y z) p9 p10 w32_τ14 w33_τ14 g44_τ14 g45_τ14 g47_τ14 (by rw [← e_x24]; assumption)) | (intro y z; exact n_dA_0 (mo y z) p9 p10 w32_τ21 w33_τ21 g44_τ21 g45_τ21 g47_τ21 (by rw [← e_x24]; assumption)) | (intro y z; have zz : τ9.1 35 = 0 := (by omega); exact n_dA_1 (mo y zz) p9 p10 w32_τ9 w33_τ9 g44_τ9 g45_τ9 g47_τ9 (by rw [← e_x24]; assumption) (q26_3 zz z).1 (q26_3 zz z).2 w30_τ28 w31_τ28 g40_τ28 g41_τ28 g43_τ28 v32o.1) | (intro y z; have zz : τ14.1 35 = 0 := (by omega); exact n_dA_1 (mo y zz) p9 p10 w32_τ14 w33_τ14 g44_τ14 g45_τ14 g47_τ14 (by rw [← e_x24]; assumption) (q26_3 zz z).1 (q26_3 zz z).2 w30_τ28 w31_τ28 g40_τ28 g41_τ28 g43_τ28 v32o.1) | (intro y z; have zz : τ21.1 35 = 0 := (by omega); exact n_dA_1 (mo y zz) p9 p10 w32_τ21 w33_τ21 g44_τ21 g45_τ21 g47_τ21 (by rw [← e_x24]; assumption) (q26_3 zz z).1 (q26_3 zz z).2 w30_τ28 w31_τ28 g40_τ28 g41_τ28 g43_τ28 v32o.1) | fail)), (show n3 = 0 → (σ.1 35) = 0 → n_mi σ (σ.2.1 27 n1) (σ.2.1 28 n1) → (τ21.1 35) = 0 from by (first | (intro y z h; have w := mi y z h; first | (exfalso; omega) | exact w | omega) | (intro y z h; have w := mi y z h; exact q26_4 w (n_mi_v h (mo z w) p9 p10 w33_τ9 (by rw [← e_x24]; assumption) (fun a b => by have w := p11 a; exact ⟨w.1, w.2.1 b⟩))) | (intro y z h; have w := mi y z h; exact q26_4 w (n_mi_v h (mo z w) p9 p10 w33_τ14 (by rw [← e_x24]; assumption) (fun a b => by have w := p11 a; exact ⟨w.1, w.2.1 b⟩))) | (intro y z h; have w := mi y z h; exact q26_4 w (n_mi_v h (mo z w) p9 p10 w33_τ21 (by rw [← e_x24]; assumption) (fun a b => by have w := p11 a; exact ⟨w.1, w.2.1 b⟩))) | fail))⟩
    ·
      refine ⟨(show 0 ≤ n1 ∧ n1 < 20001 from by (first | omega | (simp only [st_s] <;> omega) | assumption | omega | fail)), ?_⟩
      intro x24 r_x24 e_x24
      have b_x24 : 0 ≤ x24 ∧ x24 ≤ 1 := by rw [e_x24]; exact hT.2 28 _
      first | rw [g28_τ9] at e_x24 | rw [g28_τ14] at e_x24 | rw [g28_τ21] at e_x24
      refine ⟨fun c25 => ?_, fun c25 => ?_⟩
      ·
        exact ⟨hT, (show ¬ (σ.1 35) = 0 → (τ21.1 35) = (σ.1 35) from by (first | omega | (simp only [st_s] <;> omega) | assumption | omega | fail)), (show (τ21.1 32) ≤ (σ.1 32) + 1 from by (first | omega | (simp only [st_s] <;> omega) | assumption | omega | fail)), (show σ.2.1 28 n1 = 0 → (τ21.1 32) = (σ.1 32) from by (first | omega | (simp only [st_s] <;> omega) | assumption | omega | fail)), (show (σ.1 35) = 0 → (τ21.1 35) = 0 → n_dA σ τ21 (σ.2.1 27 n1) (σ.2.1 28 n1) from by (first | (intro _ z; exfalso; omega) | (intro y z; exact n_dA_0 (mo y z) p9 p10 w32_τ9 w33_τ9 g44_τ9 g45_τ9 g47_τ9 (by rw [← e_x24]; assumption)) | (intro y z; exact n_dA_0 (mo y z) p9 p10 w32_τ14 w33_τ14 g44_τ14 g45_τ14 g47_τ14 (by rw [← e_x24]; assumption)) | (intro y z; exact n_dA_0 (mo y z) p9 p10 w32_τ21 w33_τ21 g44_τ21 g45_τ21 g47_τ21 (by rw [← e_x24]; assumption)) | (intro y z; have zz : τ9.1 35 = 0 := (by omega); exact n_dA_1 (mo y zz) p9 p10 w32_τ9 w33_τ9 g44_τ9 g45_τ9 g47_τ9 (by rw [← e_x24]; assumption) (q26_3 zz z).1 (q26_3 zz z).2 w30_τ28 w31_τ28 g40_τ28 g41_τ28 g43_τ28 v32o.1) | (intro y z; have zz : τ14.1 35 = 0 := (by omega); exact n_dA_1 (mo y zz) p9 p10 w32_τ14 w33_τ14 g44_τ14 g45_τ14 g47_τ14 (by rw [← e_x24]; assumption) (q26_3 zz z).1 (q26_3 zz z).2 w30_τ28 w31_τ28 g40_τ28 g41_τ28 g43_τ28 v32o.1) | (intro y z; have zz : τ21.1 35 = 0 := (by omega); exact n_dA_1 (mo y zz) p9 p10 w32_τ21 w33_τ21 g44_τ21 g45_τ21 g47_τ21 (by rw [← e_x24]; assumption) (q26_3 zz z).1 (q26_3 zz z).2 w30_τ28 w31_τ28 g40_τ28 g41_τ28 g43_τ28 v32o.1) | fail)), (show n3 = 0 → (σ.1 35) = 0 → n_mi σ (σ.2.1 27 n1) (σ.2.1 28 n1) → (τ21.1 35) = 0 from by (first | (intro y z h; have w := mi y z h; first | (exfalso; omega) | exact w | omega) | (intro y z h; have w := mi y z h; exact q26_4 w (n_mi_v h (mo z w) p9 p10 w33_τ9 (by rw [← e_x24]; assumption) (fun a b => by have w := p11 a; exact ⟨w.1, w.2.1 b⟩))) | (intro y z h; have w := mi y z h; exact q26_4 w (n_mi_v h (mo z w) p9 p10 w33_τ14 (by rw [← e_x24]; assumption) (fun a b => by have w := p11 a; exact ⟨w.1, w.2.1 b⟩))) | (intro y z h; have w := mi y z h; exact q26_4 w (n_mi_v h (mo z w) p9 p10 w33_τ21 (by rw [← e_x24]; assumption) (fun a b => by have w := p11 a; exact ⟨w.1, w.2.1 b⟩))) | fail))⟩
      ·
        refine ⟨_, K3_X13_saveTop hT (show 1 ≤ (τ21.1 30) from by (first | omega | (simp only [st_s] <;> omega) | assumption | omega | fail)) (show (τ21.1 32) < 300 from by (first | omega | (simp only [st_s] <;> omega) | assumption | omega | fail)), ?_⟩
        intro τ28 hn_τ28 hf_τ28 hq
        obtain ⟨hT, q26_1, q26_2, q26_3, q26_4⟩ := hq
        replace q26_1 : ¬ (τ21.1 35) = 0 → (τ28.1 35) = (τ21.1 35) := q26_1
        replace q26_2 : (τ28.1 32) ≤ (τ21.1 32) + 1 := q26_2
        replace q26_3 : (τ21.1 35) = 0 → (τ28.1 35) = 0 → (τ21.1 31) + (τ21.1 33) + τ21.2.1 41 ((τ21.1 30) - 1) ≤ 40000 ∧ n_sv τ21 τ28 (τ21.2.1 41 ((τ21.1 30) - 1)) (τ21.2.1 43 (τ21.2.1 40 ((τ21.1 30) - 1))) := q26_3
        replace q26_4 : (τ21.1 35) = 0 → (τ21.1 31) + (τ21.1 33) + τ21.2.1 41 ((τ21.1 30) - 1) ≤ 40000 → (τ28.1 35) = 0 := q26_4
        have w3_τ28 : τ28.1 3 = τ21.1 3 := hf_τ28.1 3 (by decide)
        have w30_τ28 : τ28.1 30 = τ21.1 30 := hf_τ28.1 30 (by decide)
        have w31_τ28 : τ28.1 31 = τ21.1 31 := hf_τ28.1 31 (by decide)
        have g13_τ28 : τ28.2.1 13 = τ21.2.1 13 := hf_τ28.2.1 13 (by decide)
        have g14_τ28 : τ28.2.1 14 = τ21.2.1 14 := hf_τ28.2.1 14 (by decide)
        have g15_τ28 : τ28.2.1 15 = τ21.2.1 15 := hf_τ28.2.1 15 (by decide)
        have g16_τ28 : τ28.2.1 16 = τ21.2.1 16 := hf_τ28.2.1 16 (by decide)
        have g19_τ28 : τ28.2.1 19 = τ21.2.1 19 := hf_τ28.2.1 19 (by decide)
        have g27_τ28 : τ28.2.1 27 = τ21.2.1 27 := hf_τ28.2.1 27 (by decide)
        have g28_τ28 : τ28.2.1 28 = τ21.2.1 28 := hf_τ28.2.1 28 (by decide)
        have g40_τ28 : τ28.2.1 40 = τ21.2.1 40 := hf_τ28.2.1 40 (by decide)
        have g41_τ28 : τ28.2.1 41 = τ21.2.1 41 := hf_τ28.2.1 41 (by decide)
        have g43_τ28 : τ28.2.1 43 = τ21.2.1 43 := hf_τ28.2.1 43 (by decide)
        have W3 : τ28.1 3 = σ.1 3 := by first | exact w3_τ28.trans W3 | omega
        have G13 : τ28.2.1 13 = σ.2.1 13 := (g13_τ28).trans G13
        have G14 : τ28.2.1 14 = σ.2.1 14 := (g14_τ28).trans G14
        have G15 : τ28.2.1 15 = σ.2.1 15 := (g15_τ28).trans G15
        have G16 : τ28.2.1 16 = σ.2.1 16 := (g16_τ28).trans G16
        have G19 : τ28.2.1 19 = σ.2.1 19 := (g19_τ28).trans G19
        have G27 : τ28.2.1 27 = σ.2.1 27 := (g27_τ28).trans G27
        have G28 : τ28.2.1 28 = σ.2.1 28 := (g28_τ28).trans G28
        have A13 : ∀ j, 0 ≤ τ28.2.1 13 j ∧ τ28.2.1 13 j ≤ 4 := fun j => hT.2 13 j
        have A14 : ∀ j, 0 ≤ τ28.2.1 14 j ∧ τ28.2.1 14 j ≤ 30000 := fun j => hT.2 14 j
        have A15 : ∀ j, 0 ≤ τ28.2.1 15 j ∧ τ28.2.1 15 j ≤ 300 := fun j => hT.2 15 j
        have A16 : ∀ j, 0 ≤ τ28.2.1 16 j ∧ τ28.2.1 16 j ≤ 999 := fun j => hT.2 16 j
        have A19 : ∀ j, 0 ≤ τ28.2.1 19 j ∧ τ28.2.1 19 j ≤ 60 := fun j => hT.2 19 j
        have A27 : ∀ j, (-300) ≤ τ28.2.1 27 j ∧ τ28.2.1 27 j ≤ 1499 := fun j => hT.2 27 j
        have A28 : ∀ j, 0 ≤ τ28.2.1 28 j ∧ τ28.2.1 28 j ≤ 1 := fun j => hT.2 28 j
        have A40 : ∀ j, 0 ≤ τ28.2.1 40 j ∧ τ28.2.1 40 j ≤ 40000 := fun j => hT.2 40 j
        have A41 : ∀ j, 0 ≤ τ28.2.1 41 j ∧ τ28.2.1 41 j ≤ 1000 := fun j => hT.2 41 j
        have A43 : ∀ j, 0 ≤ τ28.2.1 43 j ∧ τ28.2.1 43 j ≤ 999 := fun j => hT.2 43 j
        have A44 : ∀ j, 0 ≤ τ28.2.1 44 j ∧ τ28.2.1 44 j ≤ 40000 := fun j => hT.2 44 j
        have A45 : ∀ j, 0 ≤ τ28.2.1 45 j ∧ τ28.2.1 45 j ≤ 1000 := fun j => hT.2 45 j
        have A47 : ∀ j, 0 ≤ τ28.2.1 47 j ∧ τ28.2.1 47 j ≤ 999 := fun j => hT.2 47 j
        have v3 : 0 ≤ τ28.1 3 ∧ τ28.1 3 ≤ 1000 := hT.1 3
        have v30 : 0 ≤ τ28.1 30 ∧ τ28.1 30 ≤ 200 := hT.1 30
        have v31 : 0 ≤ τ28.1 31 ∧ τ28.1 31 ≤ 40000 := hT.1 31
        have v32 : 0 ≤ τ28.1 32 ∧ τ28.1 32 ≤ 300 := hT.1 32
        have v33 : 0 ≤ τ28.1 33 ∧ τ28.1 33 ≤ 40000 := hT.1 33
        have v35 : 0 ≤ τ28.1 35 ∧ τ28.1 35 ≤ 19 := hT.1 35
        exact ⟨hT, (show ¬ (σ.1 35) = 0 → (τ28.1 35) = (σ.1 35) from by (first | omega | (simp only [st_s] <;> omega) | assumption | omega | fail)), (show (τ28.1 32) ≤ (σ.1 32) + 1 from by (first | omega | (simp only [st_s] <;> omega) | assumption | omega | fail)), (show σ.2.1 28 n1 = 0 → (τ28.1 32) = (σ.1 32) from by (first | omega | (simp only [st_s] <;> omega) | assumption | omega | fail)), (show (σ.1 35) = 0 → (τ28.1 35) = 0 → n_dA σ τ28 (σ.2.1 27 n1) (σ.2.1 28 n1) from by (first | (intro _ z; exfalso; omega) | (intro y z; exact n_dA_0 (mo y z) p9 p10 w32_τ9 w33_τ9 g44_τ9 g45_τ9 g47_τ9 (by rw [← e_x24]; assumption)) | (intro y z; exact n_dA_0 (mo y z) p9 p10 w32_τ14 w33_τ14 g44_τ14 g45_τ14 g47_τ14 (by rw [← e_x24]; assumption)) | (intro y z; exact n_dA_0 (mo y z) p9 p10 w32_τ21 w33_τ21 g44_τ21 g45_τ21 g47_τ21 (by rw [← e_x24]; assumption)) | (intro y z; have zz : τ9.1 35 = 0 := (by omega); exact n_dA_1 (mo y zz) p9 p10 w32_τ9 w33_τ9 g44_τ9 g45_τ9 g47_τ9 (by rw [← e_x24]; assumption) (q26_3 zz z).1 (q26_3 zz z).2 w30_τ28 w31_τ28 g40_τ28 g41_τ28 g43_τ28 v32o.1) | (intro y z; have zz : τ14.1 35 = 0 := (by omega); exact n_dA_1 (mo y zz) p9 p10 w32_τ14 w33_τ14 g44_τ14 g45_τ14 g47_τ14 (by rw [← e_x24]; assumption) (q26_3 zz z).1 (q26_3 zz z).2 w30_τ28 w31_τ28 g40_τ28 g41_τ28 g43_τ28 v32o.1) | (intro y z; have zz : τ21.1 35 = 0 := (by omega); exact n_dA_1 (mo y zz) p9 p10 w32_τ21 w33_τ21 g44_τ21 g45_τ21 g47_τ21 (by rw [← e_x24]; assumption) (q26_3 zz z).1 (q26_3 zz z).2 w30_τ28 w31_τ28 g40_τ28 g41_τ28 g43_τ28 v32o.1) | fail)), (show n3 = 0 → (σ.1 35) = 0 → n_mi σ (σ.2.1 27 n1) (σ.2.1 28 n1) → (τ28.1 35) = 0 from by (first | (intro y z h; have w := mi y z h; first | (exfalso; omega) | exact w | omega) | (intro y z h; have w := mi y z h; exact q26_4 w (n_mi_v h (mo z w) p9 p10 w33_τ9 (by rw [← e_x24]; assumption) (fun a b => by have w := p11 a; exact ⟨w.1, w.2.1 b⟩))) | (intro y z h; have w := mi y z h; exact q26_4 w (n_mi_v h (mo z w) p9 p10 w33_τ14 (by rw [← e_x24]; assumption) (fun a b => by have w := p11 a; exact ⟨w.1, w.2.1 b⟩))) | (intro y z h; have w := mi y z h; exact q26_4 w (n_mi_v h (mo z w) p9 p10 w33_τ21 (by rw [← e_x24]; assumption) (fun a b => by have w := p11 a; exact ⟨w.1, w.2.1 b⟩))) | fail))⟩
