-- pure: the reader, whole texts
/-- what a text has left so far -/
def c_Z (σ τ : S0) : Prop := (j_eq (σ.1 8) (σ.2.1 20) (τ.2.1 20) ∧ j_eq (σ.1 9) (σ.2.1 22) (τ.2.1 22) ∧ j_eq (σ.1 4) (σ.2.1 11) (τ.2.1 11) ∧ σ.1 4 ≤ τ.1 4) ∧ τ.2.1 25 0 = σ.1 8 ∧ τ.2.1 25 1 = σ.1 9 ∧ τ.2.1 25 2 = σ.1 10
theorem c_Z_t {σ τ υ : S0} (a : c_Z σ τ) (b : c_Y τ υ) : c_Z σ υ := by
  obtain ⟨⟨a1, a2, a3, a4⟩, a5, a6, a7⟩ := a
  obtain ⟨⟨b1, b2, b3, b4⟩, b5, b6, b7⟩ := b
  rw [a5] at b1; rw [a6] at b2
  exact ⟨⟨j_eqt a1 b1, j_eqt a2 b2, j_eqt a3 (j_eqw b3 a4), by omega⟩, by rw [b5, a5], by rw [b6, a6], by rw [b7, a7]⟩
set_option maxHeartbeats 1000000 in
theorem K2_X3_statementOf {n1 : Int} {σ : S0} (hT : c_T σ) (p1 : -1 ≤ n1) (p2 : n1 < 2500) : W_X3_statementOf n1 σ (fun (x : Int) => (-1 ≤ x ∧ x ≤ 1499) ∧ (0 ≤ x → 0 ≤ n1 ∧ σ.2.1 4 n1 = x)) := by
  have A4 : ∀ j, (-1000) ≤ σ.2.1 4 j ∧ σ.2.1 4 j ≤ 1499 := fun j => hT.2 4 j
  unfold W_X3_statementOf
  refine ⟨fun c1 => ?_, fun c1 => ?_⟩
  ·
    refine ⟨(show 0 ≤ n1 ∧ n1 < 2500 from by (first | assumption | omega | (simp only [st_s] <;> omega) | fail)), ?_⟩
    intro x3 r_x3 e_x3
    have b_x3 : (-1000) ≤ x3 ∧ x3 ≤ 1499 := by rw [e_x3]; exact hT.2 4 _
    intro x4 r_x4 h1_x4 h2_x4 h3_x4
    exact ⟨(show -1 ≤ x4 ∧ x4 ≤ 1499 from by (first | assumption | omega | (simp only [st_s] <;> omega) | fail)), (show 0 ≤ x4 → 0 ≤ n1 ∧ σ.2.1 4 n1 = x4 from by (first | assumption | omega | (simp only [st_s] <;> omega) | fail))⟩
  ·
    exact ⟨(show -1 ≤ (-1) ∧ (-1) ≤ 1499 from by (first | assumption | omega | (simp only [st_s] <;> omega) | fail)), (show 0 ≤ (-1) → 0 ≤ n1 ∧ σ.2.1 4 n1 = (-1) from by (first | assumption | omega | (simp only [st_s] <;> omega) | fail))⟩
set_option maxHeartbeats 1000000 in
theorem K2_X3_symbolOf {n1 : Int} {σ : S0} (hT : c_T σ) (p1 : -1 ≤ n1) (p2 : n1 < (σ.1 3)) (p3 : J_mn (σ.1 3) (σ.1 5) ((σ.1 7) + 1) (σ.2.1 4)) : W_X3_symbolOf n1 σ (fun (x : Int) => (-1 ≤ x ∧ x ≤ 999) ∧ (x < (σ.1 5))) := by
  have A4 : ∀ j, (-1000) ≤ σ.2.1 4 j ∧ σ.2.1 4 j ≤ 1499 := fun j => hT.2 4 j
  have v3 : 0 ≤ σ.1 3 ∧ σ.1 3 ≤ 2500 := hT.1 3
  have v5 : 0 ≤ σ.1 5 ∧ σ.1 5 ≤ 1000 := hT.1 5
  have v7 : 0 ≤ σ.1 7 ∧ σ.1 7 ≤ 1500 := hT.1 7
  have MN : J_mn (σ.1 3) (σ.1 5) ((σ.1 7) + 1) (σ.2.1 4) := p3
  have MN_0 := MN
  unfold W_X3_symbolOf
  refine ⟨fun c1 => ?_, fun c1 => ?_⟩
  ·
    have mm := p3 n1 (by omega) (by omega)
    refine ⟨(show 0 ≤ n1 ∧ n1 < 2500 from by (first | assumption | omega | (simp only [st_s] <;> omega) | fail)), ?_⟩
    intro x3 r_x3 e_x3
    have b_x3 : (-1000) ≤ x3 ∧ x3 ≤ 1499 := by rw [e_x3]; exact hT.2 4 _
    intro x4 r_x4 h1_x4 h2_x4 h3_x4
    exact ⟨(show -1 ≤ x4 ∧ x4 ≤ 999 from by (first | assumption | omega | (simp only [st_s] <;> omega) | fail)), (show x4 < (σ.1 5) from by (first | assumption | omega | (simp only [st_s] <;> omega) | fail))⟩
  ·
    exact ⟨(show -1 ≤ (-1) ∧ (-1) ≤ 999 from by (first | assumption | omega | (simp only [st_s] <;> omega) | fail)), (show (-1) < (σ.1 5) from by (first | assumption | omega | (simp only [st_s] <;> omega) | fail))⟩
set_option maxHeartbeats 4000000 in
theorem K_X7_token {n1 : Int} {n2 : Int} {σ : S0} (hT : c_T σ) (p1 : J_ht (σ.1 3) (σ.2.1 2) (σ.2.1 3) (σ.2.1 5) (σ.2.1 6)) (p2 : J_mn (σ.1 3) (σ.1 5) ((σ.1 7) + 1) (σ.2.1 4)) (p3 : J_rks (σ.1 5) (σ.1 4) (σ.2.1 10) (σ.2.1 11)) (p4 : J_vs (σ.1 8) (σ.1 5) (σ.2.1 20)) (p5 : J_vs (σ.1 6) (σ.1 5) (σ.2.1 15)) (p6 : J_va (σ.1 8) 1000 (σ.2.1 18) (σ.2.1 20)) (p7 : J_mk (σ.1 11) (σ.1 8) (σ.1 9) (σ.1 10) (σ.2.1 25)) (p8 : J_sc (σ.1 7) (σ.1 9) (σ.2.1 13) (σ.2.1 14) (σ.2.1 15) (σ.2.1 16) (σ.2.1 22) (σ.2.1 19)) (p9 : J_ff (σ.1 5) (σ.1 7) (σ.2.1 9) (σ.2.1 13) (σ.2.1 14) (σ.2.1 15)) (p10 : ∀ s : Int, σ.2.1 26 s ≤ (σ.1 12)) (p11 : J_all (σ.1 7) (σ.1 6) (σ.1 13) (σ.1 14) (σ.1 15) (σ.2.1 13) (σ.2.1 14) (σ.2.1 15) (σ.2.1 16) (σ.2.1 10) (σ.2.1 27) (σ.2.1 28) (σ.2.1 29) (σ.2.1 30) (σ.2.1 31) (σ.2.1 32) (σ.2.1 33) (σ.2.1 34) (σ.2.1 35) (σ.2.1 36) (σ.2.1 37)) (p12 : J_bp (σ.2.1 44) (σ.2.1 45)) (p13 : J_nl (σ.1 3) (σ.2.1 2) (σ.2.1 3) (σ.2.1 4)) (p14 : J_rs (σ.1 35) (σ.1 7) (σ.1 6) (σ.1 36) (σ.1 37) (σ.1 5) (σ.1 8) (σ.2.1 14)) (p15 : 5 ≤ (σ.1 35) → 1 ≤ (σ.1 36) → 0 ≤ σ.2.1 10 (σ.2.1 15 (σ.2.1 14 (σ.1 7)))) (p16 : (σ.1 35) = 4 → j_in (σ.1 36) 1000 (σ.2.1 54)) (p17 : 5 ≤ (σ.1 35) → J_ip (σ.1 7) (σ.1 6) (σ.1 37) (σ.2.1 14) (σ.2.1 15) (σ.2.1 16) (σ.2.1 19)) (p18 : ((σ.1 35) ≤ 5 → (σ.1 13) ≤ 60 * (σ.1 7)) ∧ (σ.1 13) ≤ 60 * (σ.1 7) + 60) (p19 : 6 ≤ (σ.1 35) → (σ.1 24) = (σ.1 7) ∧ J_f (σ.1 7) (σ.1 13) (σ.1 14) (σ.2.1 13) (σ.2.1 14) (σ.2.1 15) (σ.2.1 16) (σ.2.1 27) (σ.2.1 28) (σ.2.1 29) (σ.2.1 30) (σ.2.1 31) (σ.2.1 32)) (p20 : 6 ≤ (σ.1 35) → J_sp (σ.1 24) (σ.1 21) (σ.1 23) (σ.1 22) (σ.2.1 49) (σ.2.1 51) ∧ ((σ.1 16) + (σ.1 21) ≤ 20000) ∧ (¬ (σ.1 27) = 0 → 1 ≤ (σ.1 21) ∧ 0 ≤ σ.2.1 49 ((σ.1 21) - 1) ∧ σ.2.1 49 ((σ.1 21) - 1) < 65536) ∧ ((σ.1 26) ≤ 1000000) ∧ ((σ.1 25) ≤ 2 → (σ.1 27) = 0)) (p21 : (σ.1 15) ≤ (σ.1 16) ∧ σ.2.1 36 (σ.1 15) ≤ (σ.1 16)) (p22 : (σ.1 9) ≤ (σ.1 7)) (p23 : 0 ≤ n1) (p24 : 1 ≤ n2) (p25 : n1 + n2 ≤ 60000) (p26 : ¬ σ.1 66 = 0) (p27 : (σ.1 12) < 2147483647) : W_X7_token n1 n2 σ (fun (x : Int) (τ : S0) => (c_T τ) ∧ (0 ≤ x ∧ x ≤ 19) ∧ (J_ht (τ.1 3) (τ.2.1 2) (τ.2.1 3) (τ.2.1 5) (τ.2.1 6)) ∧ (J_mn (τ.1 3) (τ.1 5) ((τ.1 7) + 1) (τ.2.1 4)) ∧ (J_rks (τ.1 5) (τ.1 4) (τ.2.1 10) (τ.2.1 11)) ∧ (J_vs (τ.1 8) (τ.1 5) (τ.2.1 20)) ∧ (J_vs (τ.1 6) (τ.1 5) (τ.2.1 15)) ∧ (J_va (τ.1 8) 1000 (τ.2.1 18) (τ.2.1 20)) ∧ (J_mk (τ.1 11) (τ.1 8) (τ.1 9) (τ.1 10) (τ.2.1 25)) ∧ (J_sc (τ.1 7) (τ.1 9) (τ.2.1 13) (τ.2.1 14) (τ.2.1 15) (τ.2.1 16) (τ.2.1 22) (τ.2.1 19)) ∧ (J_ff (τ.1 5) (τ.1 7) (τ.2.1 9) (τ.2.1 13) (τ.2.1 14) (τ.2.1 15)) ∧ (∀ s : Int, τ.2.1 26 s ≤ (τ.1 12)) ∧ (J_all (τ.1 7) (τ.1 6) (τ.1 13) (τ.1 14) (τ.1 15) (τ.2.1 13) (τ.2.1 14) (τ.2.1 15) (τ.2.1 16) (τ.2.1 10) (τ.2.1 27) (τ.2.1 28) (τ.2.1 29) (τ.2.1 30) (τ.2.1 31) (τ.2.1 32) (τ.2.1 33) (τ.2.1 34) (τ.2.1 35) (τ.2.1 36) (τ.2.1 37)) ∧ (J_bp (τ.2.1 44) (τ.2.1 45)) ∧ (J_nl (τ.1 3) (τ.2.1 2) (τ.2.1 3) (τ.2.1 4)) ∧ (x = 0 → J_rs (τ.1 35) (τ.1 7) (τ.1 6) (τ.1 36) (τ.1 37) (τ.1 5) (τ.1 8) (τ.2.1 14)) ∧ (x = 0 → 5 ≤ (τ.1 35) → 1 ≤ (τ.1 36) → 0 ≤ τ.2.1 10 (τ.2.1 15 (τ.2.1 14 (τ.1 7)))) ∧ (x = 0 → (τ.1 35) = 4 → j_in (τ.1 36) 1000 (τ.2.1 54)) ∧ (x = 0 → 5 ≤ (τ.1 35) → J_ip (τ.1 7) (τ.1 6) (τ.1 37) (τ.2.1 14) (τ.2.1 15) (τ.2.1 16) (τ.2.1 19)) ∧ (x = 0 → ((τ.1 35) ≤ 5 → (τ.1 13) ≤ 60 * (τ.1 7)) ∧ (τ.1 13) ≤ 60 * (τ.1 7) + 60) ∧ (x = 0 → 6 ≤ (τ.1 35) → (τ.1 24) = (τ.1 7) ∧ J_f (τ.1 7) (τ.1 13) (τ.1 14) (τ.2.1 13) (τ.2.1 14) (τ.2.1 15) (τ.2.1 16) (τ.2.1 27) (τ.2.1 28) (τ.2.1 29) (τ.2.1 30) (τ.2.1 31) (τ.2.1 32)) ∧ (x = 0 → 6 ≤ (τ.1 35) → J_sp (τ.1 24) (τ.1 21) (τ.1 23) (τ.1 22) (τ.2.1 49) (τ.2.1 51) ∧ ((τ.1 16) + (τ.1 21) ≤ 20000) ∧ (¬ (τ.1 27) = 0 → 1 ≤ (τ.1 21) ∧ 0 ≤ τ.2.1 49 ((τ.1 21) - 1) ∧ τ.2.1 49 ((τ.1 21) - 1) < 65536) ∧ ((τ.1 26) ≤ 1000000) ∧ ((τ.1 25) ≤ 2 → (τ.1 27) = 0)) ∧ (x = 0 → (τ.1 15) ≤ (τ.1 16) ∧ τ.2.1 36 (τ.1 15) ≤ (τ.1 16)) ∧ (x = 0 → (τ.1 9) ≤ (τ.1 7)) ∧ (j_rr ((σ.1 5)) (σ.2.1 10) (τ.2.1 10)) ∧ (j_eq (σ.2.1 36 (σ.1 15)) (σ.2.1 37) (τ.2.1 37)) ∧ ((τ.1 12) ≤ (σ.1 12) + 1) ∧ (c_Y σ τ) ∧ (c_ag σ τ)) := by
  have A2 : ∀ j, 0 ≤ σ.2.1 2 j ∧ σ.2.1 2 j ≤ 65535 := fun j => hT.2 2 j
  have A3 : ∀ j, 0 ≤ σ.2.1 3 j ∧ σ.2.1 3 j ≤ 30000 := fun j => hT.2 3 j
  have A4 : ∀ j, (-1000) ≤ σ.2.1 4 j ∧ σ.2.1 4 j ≤ 1499 := fun j => hT.2 4 j
  have A5 : ∀ j, 0 ≤ σ.2.1 5 j ∧ σ.2.1 5 j ≤ 2500 := fun j => hT.2 5 j
  have A6 : ∀ j, 0 ≤ σ.2.1 6 j ∧ σ.2.1 6 j ≤ 2500 := fun j => hT.2 6 j
  have A8 : ∀ j, 0 ≤ σ.2.1 8 j ∧ σ.2.1 8 j ≤ 1 := fun j => hT.2 8 j
  have A9 : ∀ j, (-1) ≤ σ.2.1 9 j ∧ σ.2.1 9 j ≤ 1499 := fun j => hT.2 9 j
  have A10 : ∀ j, (-1) ≤ σ.2.1 10 j ∧ σ.2.1 10 j ≤ 99 := fun j => hT.2 10 j
  have A11 : ∀ j, 0 ≤ σ.2.1 11 j ∧ σ.2.1 11 j ≤ 999 := fun j => hT.2 11 j
  have A13 : ∀ j, 0 ≤ σ.2.1 13 j ∧ σ.2.1 13 j ≤ 4 := fun j => hT.2 13 j
  have A14 : ∀ j, 0 ≤ σ.2.1 14 j ∧ σ.2.1 14 j ≤ 30000 := fun j => hT.2 14 j
  have A15 : ∀ j, 0 ≤ σ.2.1 15 j ∧ σ.2.1 15 j ≤ 999 := fun j => hT.2 15 j
  have A16 : ∀ j, (-1) ≤ σ.2.1 16 j ∧ σ.2.1 16 j ≤ 1499 := fun j => hT.2 16 j
  have A18 : ∀ j, 0 ≤ σ.2.1 18 j ∧ σ.2.1 18 j ≤ 1 := fun j => hT.2 18 j
  have A19 : ∀ j, (-1) ≤ σ.2.1 19 j ∧ σ.2.1 19 j ≤ 1499 := fun j => hT.2 19 j
  have A20 : ∀ j, 0 ≤ σ.2.1 20 j ∧ σ.2.1 20 j ≤ 999 := fun j => hT.2 20 j
  have A22 : ∀ j, 0 ≤ σ.2.1 22 j ∧ σ.2.1 22 j ≤ 1499 := fun j => hT.2 22 j
  have A23 : ∀ j, 0 ≤ σ.2.1 23 j ∧ σ.2.1 23 j ≤ 999 := fun j => hT.2 23 j
  have A24 : ∀ j, 0 ≤ σ.2.1 24 j ∧ σ.2.1 24 j ≤ 999 := fun j => hT.2 24 j
  have A26 : ∀ j, (-2147483648) ≤ σ.2.1 26 j ∧ σ.2.1 26 j ≤ 2147483647 := fun j => hT.2 26 j
  have A27 : ∀ j, 0 ≤ σ.2.1 27 j ∧ σ.2.1 27 j ≤ 90000 := fun j => hT.2 27 j
  have A28 : ∀ j, 0 ≤ σ.2.1 28 j ∧ σ.2.1 28 j ≤ 60 := fun j => hT.2 28 j
  have A29 : ∀ j, 0 ≤ σ.2.1 29 j ∧ σ.2.1 29 j ≤ 1499 := fun j => hT.2 29 j
  have A30 : ∀ j, 0 ≤ σ.2.1 30 j ∧ σ.2.1 30 j ≤ 20000 := fun j => hT.2 30 j
  have A31 : ∀ j, 0 ≤ σ.2.1 31 j ∧ σ.2.1 31 j ≤ 20000 := fun j => hT.2 31 j
  have A32 : ∀ j, 0 ≤ σ.2.1 32 j ∧ σ.2.1 32 j ≤ 999999 := fun j => hT.2 32 j
  have A33 : ∀ j, 0 ≤ σ.2.1 33 j ∧ σ.2.1 33 j ≤ 20000 := fun j => hT.2 33 j
  have A34 : ∀ j, 0 ≤ σ.2.1 34 j ∧ σ.2.1 34 j ≤ 20000 := fun j => hT.2 34 j
  have A35 : ∀ j, 0 ≤ σ.2.1 35 j ∧ σ.2.1 35 j ≤ 1499 := fun j => hT.2 35 j
  have A36 : ∀ j, 0 ≤ σ.2.1 36 j ∧ σ.2.1 36 j ≤ 20000 := fun j => hT.2 36 j
  have A37 : ∀ j, 0 ≤ σ.2.1 37 j ∧ σ.2.1 37 j ≤ 19999 := fun j => hT.2 37 j
  have A44 : ∀ j, 0 ≤ σ.2.1 44 j ∧ σ.2.1 44 j ≤ 42000 := fun j => hT.2 44 j
  have A45 : ∀ j, 0 ≤ σ.2.1 45 j ∧ σ.2.1 45 j ≤ 1000 := fun j => hT.2 45 j
  have A49 : ∀ j, (-300) ≤ σ.2.1 49 j ∧ σ.2.1 49 j ≤ 67035 := fun j => hT.2 49 j
  have A51 : ∀ j, 0 ≤ σ.2.1 51 j ∧ σ.2.1 51 j ≤ 1499 := fun j => hT.2 51 j
  have A54 : ∀ j, 0 ≤ σ.2.1 54 j ∧ σ.2.1 54 j ≤ 999 := fun j => hT.2 54 j
  have v3 : 0 ≤ σ.1 3 ∧ σ.1 3 ≤ 2500 := hT.1 3
  have v4 : 0 ≤ σ.1 4 ∧ σ.1 4 ≤ 100 := hT.1 4
  have v5 : 0 ≤ σ.1 5 ∧ σ.1 5 ≤ 1000 := hT.1 5
  have v6 : 0 ≤ σ.1 6 ∧ σ.1 6 ≤ 30000 := hT.1 6
  have v7 : 0 ≤ σ.1 7 ∧ σ.1 7 ≤ 1500 := hT.1 7
  have v8 : 0 ≤ σ.1 8 ∧ σ.1 8 ≤ 1000 := hT.1 8
  have v9 : 0 ≤ σ.1 9 ∧ σ.1 9 ≤ 1500 := hT.1 9
  have v10 : 0 ≤ σ.1 10 ∧ σ.1 10 ≤ 1000 := hT.1 10
  have v11 : 0 ≤ σ.1 11 ∧ σ.1 11 ≤ 50 := hT.1 11
  have v12 : (-2147483648) ≤ σ.1 12 ∧ σ.1 12 ≤ 2147483647 := hT.1 12
  have v13 : 0 ≤ σ.1 13 ∧ σ.1 13 ≤ 90000 := hT.1 13
  have v14 : 0 ≤ σ.1 14 ∧ σ.1 14 ≤ 20000 := hT.1 14
  have v15 : 0 ≤ σ.1 15 ∧ σ.1 15 ≤ 20000 := hT.1 15
  have v16 : 0 ≤ σ.1 16 ∧ σ.1 16 ≤ 20000 := hT.1 16
  have v21 : 0 ≤ σ.1 21 ∧ σ.1 21 ≤ 20000 := hT.1 21
  have v22 : 0 ≤ σ.1 22 ∧ σ.1 22 ≤ 300 := hT.1 22
  have v23 : 0 ≤ σ.1 23 ∧ σ.1 23 ≤ 300 := hT.1 23
  have v24 : 0 ≤ σ.1 24 ∧ σ.1 24 ≤ 1499 := hT.1 24
  have v25 : 0 ≤ σ.1 25 ∧ σ.1 25 ≤ 3 := hT.1 25
  have v26 : 0 ≤ σ.1 26 ∧ σ.1 26 ≤ 5000010 := hT.1 26
  have v27 : 0 ≤ σ.1 27 ∧ σ.1 27 ≤ 1 := hT.1 27
  have v29 : 0 ≤ σ.1 29 ∧ σ.1 29 ≤ 60000 := hT.1 29
  have v34 : 0 ≤ σ.1 34 ∧ σ.1 34 ≤ 1 := hT.1 34
  have v35 : 0 ≤ σ.1 35 ∧ σ.1 35 ≤ 7 := hT.1 35
  have v36 : 0 ≤ σ.1 36 ∧ σ.1 36 ≤ 1001 := hT.1 36
  have v37 : 0 ≤ σ.1 37 ∧ σ.1 37 ≤ 4 := hT.1 37
  have v38 : (-1) ≤ σ.1 38 ∧ σ.1 38 ≤ 999 := hT.1 38
  have v66 : 0 ≤ σ.1 66 ∧ σ.1 66 ≤ 1 := hT.1 66
  have a14_7 : 0 ≤ σ.2.1 14 (σ.1 7) ∧ σ.2.1 14 (σ.1 7) ≤ 30000 := hT.2 14 _
  have a36_15 : 0 ≤ σ.2.1 36 (σ.1 15) ∧ σ.2.1 36 (σ.1 15) ≤ 20000 := hT.2 36 _
  have W15 : σ.1 15 = σ.1 15 := rfl
  have W16 : σ.1 16 = σ.1 16 := rfl
  have W66 : σ.1 66 = σ.1 66 := rfl
  have G33 : σ.2.1 33 = σ.2.1 33 := rfl
  have G34 : σ.2.1 34 = σ.2.1 34 := rfl
  have G35 : σ.2.1 35 = σ.2.1 35 := rfl
  have G36 : σ.2.1 36 = σ.2.1 36 := rfl
  have G37 : σ.2.1 37 = σ.2.1 37 := rfl
  have G44 : σ.2.1 44 = σ.2.1 44 := rfl
  have G45 : σ.2.1 45 = σ.2.1 45 := rfl
  have ag : c_ag σ σ := ag_0 σ
  intro P21 P38 P60 h21 h38 h60
  have hT0 := hT
  have t015 : ∀ p : Int, 0 ≤ σ.2.1 15 p ∧ σ.2.1 15 p < 1000 := fun p => ⟨(A15 p).1, by have := (A15 p).2; omega⟩
  have CH := j_eq0 (σ.2.1 36 (σ.1 15)) (σ.2.1 37)
  have jt := c_Jt p11
  have JFx := c_JF jt p8 (fun m => (hT.2 22 m).1) (by omega)
  have FPx := c_FP jt p9 (by omega)
  have uc := p15
  have dj := p16
  have ipx := p17
  have hux := p18
  have frx := p19
  have spx := p20
  have sux := p21
  have hcx := p22
  have rsx := p14
  unfold J_rs at rsx
  have HT : J_ht (σ.1 3) (σ.2.1 2) (σ.2.1 3) (σ.2.1 5) (σ.2.1 6) := p1
  have NL : J_nl (σ.1 3) (σ.2.1 2) (σ.2.1 3) (σ.2.1 4) := p13
  have MN : J_mn (σ.1 3) (σ.1 5) ((σ.1 7) + 1) (σ.2.1 4) := p2
  have VA : J_va (σ.1 8) 1000 (σ.2.1 18) (σ.2.1 20) := p6
  have SC : J_sc (σ.1 7) (σ.1 9) (σ.2.1 13) (σ.2.1 14) (σ.2.1 15) (σ.2.1 16) (σ.2.1 22) (σ.2.1 19) := p8
  have MK : J_mk (σ.1 11) (σ.1 8) (σ.1 9) (σ.1 10) (σ.2.1 25) := p7
  have FF : J_ff (σ.1 5) (σ.1 7) (σ.2.1 9) (σ.2.1 13) (σ.2.1 14) (σ.2.1 15) := p9
  have MT : ∀ s : Int, σ.2.1 26 s ≤ (σ.1 12) := p10
  have VS : J_vs (σ.1 8) (σ.1 5) (σ.2.1 20) := p4
  have TX : J_vs (σ.1 6) (σ.1 5) (σ.2.1 15) := p5
  have RKS : J_rks (σ.1 5) (σ.1 4) (σ.2.1 10) (σ.2.1 11) := p3
  have CJ : J_all (σ.1 7) (σ.1 6) (σ.1 13) (σ.1 14) (σ.1 15) (σ.2.1 13) (σ.2.1 14) (σ.2.1 15) (σ.2.1 16) (σ.2.1 10) (σ.2.1 27) (σ.2.1 28) (σ.2.1 29) (σ.2.1 30) (σ.2.1 31) (σ.2.1 32) (σ.2.1 33) (σ.2.1 34) (σ.2.1 35) (σ.2.1 36) (σ.2.1 37) := p11
  have BP : J_bp (σ.2.1 44) (σ.2.1 45) := p12
  have RS : J_rs (σ.1 35) (σ.1 7) (σ.1 6) (σ.1 36) (σ.1 37) (σ.1 5) (σ.1 8) (σ.2.1 14) := p14
  have BP_0 := BP
  have CH_0 := CH
  have CJ_0 := CJ
  have FF_0 := FF
  have HT_0 := HT
  have MK_0 := MK
  have MN_0 := MN
  have MT_0 := MT
  have NL_0 := NL
  have RKS_0 := RKS
  have RS_0 := RS
  have SC_0 := SC
  have TX_0 := TX
  have VA_0 := VA
  have VS_0 := VS
  have l_38 : ∀ (u3_38 : Int) (k0_38 : Int), (0 ≤ k0_38 ∧ k0_38 ≤ 255) → (0 ≤ u3_38 ∧ u3_38 ≤ 1) → P38 n1 n2 u3_38 k0_38 σ := by
    intro u3_38 k0_38 i38_1 i38_2
    refine h38 n1 n2 u3_38 k0_38 σ ?_
    refine ⟨fun c10 => ?_, fun c10 => ?_⟩
    ·
      refine ⟨fun c11 => ?_, fun c11 => ?_⟩
      ·
        refine ⟨fun c12 => ?_, fun c12 => ?_⟩
        ·
          refine ⟨fun c13 => ?_, fun c13 => ?_⟩
          ·
            refine ⟨fun c14 => ?_, fun c14 => ?_⟩
            ·
              refine ⟨_, K_X7_hasDollar hT (show 0 ≤ n1 from by (first | assumption | omega | (simp only [st_s] <;> omega) | fail)) (show 0 ≤ n2 from by (first | assumption | omega | (simp only [st_s] <;> omega) | fail)) (show n1 + n2 ≤ 60000 from by (first | assumption | omega | (simp only [st_s] <;> omega) | fail)) (show ¬ σ.1 66 = 0 from by (first | assumption | omega | (simp only [st_s] <;> omega) | fail)), ?_⟩
              intro x16 r_x16 hq
              have q15_1 := hq
              replace q15_1 : 0 ≤ x16 ∧ x16 ≤ 1 := q15_1
              refine ⟨fun c18 => ?_, fun c18 => ?_⟩
              ·
                refine ⟨(show ¬ σ.1 66 = 0 from by (first | assumption | omega | (simp only [st_s] <;> omega) | fail)), ?_⟩
                refine ⟨_, K2_X3_nameOf_q13 hT (show 0 ≤ n1 from by (first | assumption | omega | (simp only [st_s] <;> omega) | fail)) (show n1 + n2 ≤ 60000 from by (first | assumption | omega | (simp only [st_s] <;> omega) | fail)) (show J_ht (σ.1 3) (σ.2.1 2) (σ.2.1 3) (σ.2.1 5) (σ.2.1 6) from HT), ?_⟩
                intro x21 r_x21 hq
                obtain ⟨q20_1, q20_2, q20_3, q20_4⟩ := hq
                replace q20_1 : -1 ≤ x21 := q20_1
                replace q20_2 : x21 < (σ.1 3) := q20_2
                replace q20_3 : 0 ≤ x21 → c_eq (σ.2.1 2) (σ.2.1 3) x21 (σ.2.1 0) n1 n2 := q20_3
                replace q20_4 : x21 = -1 → ∀ n : Int, 0 ≤ n → n < (σ.1 3) → ¬ c_eq (σ.2.1 2) (σ.2.1 3) n (σ.2.1 0) n1 n2 := q20_4
                refine ⟨_, K2_X3_symbolOf hT (show -1 ≤ x21 from by (first | assumption | omega | (simp only [st_s] <;> omega) | fail)) (show x21 < (σ.1 3) from by (first | assumption | omega | (simp only [st_s] <;> omega) | fail)) (show J_mn (σ.1 3) (σ.1 5) ((σ.1 7) + 1) (σ.2.1 4) from MN), ?_⟩
                intro x24 r_x24 hq
                obtain ⟨q23_1, q23_2⟩ := hq
                replace q23_1 : -1 ≤ x24 ∧ x24 ≤ 999 := q23_1
                replace q23_2 : x24 < (σ.1 5) := q23_2
                replace ag := ag_v (i := 38) (x := x24) ag (Or.inl rfl)
                replace hT := cT_v (i := 38) hT (show (-1) ≤ x24 ∧ x24 ≤ 999 from by (first | assumption | omega | (simp only [st_s] <;> omega) | fail))
                refine ⟨_, K2_X3_statementOf hT (show -1 ≤ x21 from by (first | assumption | omega | (simp only [st_s] <;> omega) | fail)) (show x21 < 2500 from by (first | assumption | omega | (simp only [st_s] <;> omega) | fail)), ?_⟩
                intro x27 r_x27 hq
                obtain ⟨q26_1, q26_2⟩ := hq
                replace q26_1 : -1 ≤ x27 ∧ x27 ≤ 1499 := q26_1
                replace q26_2 : 0 ≤ x27 → 0 ≤ x21 ∧ σ.2.1 4 x21 = x27 := q26_2
                replace ag := ag_v (i := 39) (x := x27) ag (Or.inl rfl)
                replace hT := cT_v (i := 39) hT (show (-1) ≤ x27 ∧ x27 ≤ 1499 from by (first | assumption | omega | (simp only [st_s] <;> omega) | fail))
                refine ⟨fun c29 => ?_, fun c29 => ?_⟩
                ·
                  refine ⟨(show ¬ σ.1 66 = 0 from by (first | assumption | omega | (simp only [st_s] <;> omega) | fail)), ?_⟩
                  have sps := spx (by omega)
                  have frs := frx (by omega)
                  have frt : J_f (σ.1 24) (σ.1 13) (σ.1 14) (σ.2.1 13) (σ.2.1 14) (σ.2.1 15) (σ.2.1 16) (σ.2.1 27) (σ.2.1 28) (σ.2.1 29) (σ.2.1 30) (σ.2.1 31) (σ.2.1 32) := by rw [frs.1]; exact frs.2
                  refine ⟨_, K_X10_word_q13 hT (show 0 ≤ n1 from by (first | assumption | omega | (simp only [st_s] <;> omega) | fail)) (show 0 ≤ n2 from by (first | assumption | omega | (simp only [st_s] <;> omega) | fail)) (show n1 + n2 ≤ 60000 from by (first | assumption | omega | (simp only [st_s] <;> omega) | fail)) (show n1 < 60000 from by (first | assumption | omega | (simp only [st_s] <;> omega) | fail)) (show -1 ≤ x27 from by (first | assumption | omega | (simp only [st_s] <;> omega) | fail)) (show x27 < 1500 from by (first | assumption | omega | (simp only [st_s] <;> omega) | fail)) (show 0 ≤ x27 → ∀ k : Int, 0 ≤ k → k < n2 → j_lc (σ.2.1 0 (n1 + k)) from by (intro z; first | exact J_nl_l NL (show 0 ≤ x21 from by omega) (by omega) (by omega) (q20_3 (by omega)))) (show J_sp (σ.1 24) (σ.1 21) (σ.1 23) (σ.1 22) (σ.2.1 49) (σ.2.1 51) from by exact sps.1) (show (σ.1 16) + (σ.1 21) ≤ 20000 from by exact sps.2.1) (show J_f (σ.1 24) (σ.1 13) (σ.1 14) (σ.2.1 13) (σ.2.1 14) (σ.2.1 15) (σ.2.1 16) (σ.2.1 27) (σ.2.1 28) (σ.2.1 29) (σ.2.1 30) (σ.2.1 31) (σ.2.1 32) from by exact frt) (show ¬ (σ.1 27) = 0 → 1 ≤ (σ.1 21) ∧ 0 ≤ σ.2.1 49 ((σ.1 21) - 1) ∧ σ.2.1 49 ((σ.1 21) - 1) < 65536 from by exact sps.2.2.1) (show (σ.1 26) ≤ 1000000 from by exact sps.2.2.2.1) (show (σ.1 25) ≤ 2 → (σ.1 27) = 0 from by exact sps.2.2.2.2), ?_⟩
                  intro x32 τ33 r_x32 hn_τ33 hf_τ33 hq
                  obtain ⟨hT, q31_1, q31_2, q31_3, q31_4, q31_5, q31_6⟩ := hq
                  replace q31_1 : 0 ≤ x32 ∧ x32 ≤ 19 := q31_1
                  replace q31_2 : x32 = 0 → J_sp (τ33.1 24) (τ33.1 21) (τ33.1 23) (τ33.1 22) (τ33.2.1 49) (τ33.2.1 51) := q31_2
                  replace q31_3 : x32 = 0 → (τ33.1 16) + (τ33.1 21) ≤ 20000 := q31_3
                  replace q31_4 : x32 = 0 → ¬ (τ33.1 27) = 0 → 1 ≤ (τ33.1 21) ∧ 0 ≤ τ33.2.1 49 ((τ33.1 21) - 1) ∧ τ33.2.1 49 ((τ33.1 21) - 1) < 65536 := q31_4
                  replace q31_5 : x32 = 0 → (τ33.1 26) ≤ 1000000 := q31_5
                  replace q31_6 : x32 = 0 → (τ33.1 25) ≤ 2 → (τ33.1 27) = 0 := q31_6
                  replace ag : c_ag σ τ33 := ag_r ag hf_τ33 rfl rfl
                  have w3_τ33 : τ33.1 3 = σ.1 3 := hf_τ33.1 3 (by decide)
                  have w4_τ33 : τ33.1 4 = σ.1 4 := hf_τ33.1 4 (by decide)
                  have w5_τ33 : τ33.1 5 = σ.1 5 := hf_τ33.1 5 (by decide)
                  have w6_τ33 : τ33.1 6 = σ.1 6 := hf_τ33.1 6 (by decide)
                  have w7_τ33 : τ33.1 7 = σ.1 7 := hf_τ33.1 7 (by decide)
                  have w8_τ33 : τ33.1 8 = σ.1 8 := hf_τ33.1 8 (by decide)
                  have w9_τ33 : τ33.1 9 = σ.1 9 := hf_τ33.1 9 (by decide)
                  have w10_τ33 : τ33.1 10 = σ.1 10 := hf_τ33.1 10 (by decide)
                  have w11_τ33 : τ33.1 11 = σ.1 11 := hf_τ33.1 11 (by decide)
                  have w12_τ33 : τ33.1 12 = σ.1 12 := hf_τ33.1 12 (by decide)
                  have w13_τ33 : τ33.1 13 = σ.1 13 := hf_τ33.1 13 (by decide)
                  have w14_τ33 : τ33.1 14 = σ.1 14 := hf_τ33.1 14 (by decide)
                  have w15_τ33 : τ33.1 15 = σ.1 15 := hf_τ33.1 15 (by decide)
                  have w16_τ33 : τ33.1 16 = σ.1 16 := hf_τ33.1 16 (by decide)
                  have w24_τ33 : τ33.1 24 = σ.1 24 := hf_τ33.1 24 (by decide)
                  have w34_τ33 : τ33.1 34 = σ.1 34 := hf_τ33.1 34 (by decide)
                  have w35_τ33 : τ33.1 35 = σ.1 35 := hf_τ33.1 35 (by decide)
                  have w36_τ33 : τ33.1 36 = σ.1 36 := hf_τ33.1 36 (by decide)
                  have w37_τ33 : τ33.1 37 = σ.1 37 := hf_τ33.1 37 (by decide)
                  have w38_τ33 : τ33.1 38 = x24 := hf_τ33.1 38 (by decide)
                  have w66_τ33 : τ33.1 66 = σ.1 66 := hf_τ33.1 66 (by decide)
                  have g2_τ33 : τ33.2.1 2 = σ.2.1 2 := hf_τ33.2.1 2 (by decide)
                  have g3_τ33 : τ33.2.1 3 = σ.2.1 3 := hf_τ33.2.1 3 (by decide)
                  have g4_τ33 : τ33.2.1 4 = σ.2.1 4 := hf_τ33.2.1 4 (by decide)
                  have g5_τ33 : τ33.2.1 5 = σ.2.1 5 := hf_τ33.2.1 5 (by decide)
                  have g6_τ33 : τ33.2.1 6 = σ.2.1 6 := hf_τ33.2.1 6 (by decide)
                  have g8_τ33 : τ33.2.1 8 = σ.2.1 8 := hf_τ33.2.1 8 (by decide)
                  have g9_τ33 : τ33.2.1 9 = σ.2.1 9 := hf_τ33.2.1 9 (by decide)
                  have g10_τ33 : τ33.2.1 10 = σ.2.1 10 := hf_τ33.2.1 10 (by decide)
                  have g11_τ33 : τ33.2.1 11 = σ.2.1 11 := hf_τ33.2.1 11 (by decide)
                  have g13_τ33 : τ33.2.1 13 = σ.2.1 13 := hf_τ33.2.1 13 (by decide)
                  have g14_τ33 : τ33.2.1 14 = σ.2.1 14 := hf_τ33.2.1 14 (by decide)
                  have g15_τ33 : τ33.2.1 15 = σ.2.1 15 := hf_τ33.2.1 15 (by decide)
                  have g16_τ33 : τ33.2.1 16 = σ.2.1 16 := hf_τ33.2.1 16 (by decide)
                  have g18_τ33 : τ33.2.1 18 = σ.2.1 18 := hf_τ33.2.1 18 (by decide)
                  have g19_τ33 : τ33.2.1 19 = σ.2.1 19 := hf_τ33.2.1 19 (by decide)
                  have g20_τ33 : τ33.2.1 20 = σ.2.1 20 := hf_τ33.2.1 20 (by decide)
                  have g22_τ33 : τ33.2.1 22 = σ.2.1 22 := hf_τ33.2.1 22 (by decide)
                  have g23_τ33 : τ33.2.1 23 = σ.2.1 23 := hf_τ33.2.1 23 (by decide)
                  have g24_τ33 : τ33.2.1 24 = σ.2.1 24 := hf_τ33.2.1 24 (by decide)
                  have g25_τ33 : τ33.2.1 25 = σ.2.1 25 := hf_τ33.2.1 25 (by decide)
                  have g26_τ33 : τ33.2.1 26 = σ.2.1 26 := hf_τ33.2.1 26 (by decide)
                  have g27_τ33 : τ33.2.1 27 = σ.2.1 27 := hf_τ33.2.1 27 (by decide)
                  have g28_τ33 : τ33.2.1 28 = σ.2.1 28 := hf_τ33.2.1 28 (by decide)
                  have g29_τ33 : τ33.2.1 29 = σ.2.1 29 := hf_τ33.2.1 29 (by decide)
                  have g30_τ33 : τ33.2.1 30 = σ.2.1 30 := hf_τ33.2.1 30 (by decide)
                  have g31_τ33 : τ33.2.1 31 = σ.2.1 31 := hf_τ33.2.1 31 (by decide)
                  have g32_τ33 : τ33.2.1 32 = σ.2.1 32 := hf_τ33.2.1 32 (by decide)
                  have g33_τ33 : τ33.2.1 33 = σ.2.1 33 := hf_τ33.2.1 33 (by decide)
                  have g34_τ33 : τ33.2.1 34 = σ.2.1 34 := hf_τ33.2.1 34 (by decide)
                  have g35_τ33 : τ33.2.1 35 = σ.2.1 35 := hf_τ33.2.1 35 (by decide)
                  have g36_τ33 : τ33.2.1 36 = σ.2.1 36 := hf_τ33.2.1 36 (by decide)
                  have g37_τ33 : τ33.2.1 37 = σ.2.1 37 := hf_τ33.2.1 37 (by decide)
                  have g44_τ33 : τ33.2.1 44 = σ.2.1 44 := hf_τ33.2.1 44 (by decide)
                  have g45_τ33 : τ33.2.1 45 = σ.2.1 45 := hf_τ33.2.1 45 (by decide)
                  have g54_τ33 : τ33.2.1 54 = σ.2.1 54 := hf_τ33.2.1 54 (by decide)
                  have W15 : τ33.1 15 = σ.1 15 := by omega
                  have W16 : τ33.1 16 = σ.1 16 := by omega
                  have W66 : τ33.1 66 = σ.1 66 := by omega
                  have G33 : τ33.2.1 33 = σ.2.1 33 := (g33_τ33).trans G33
                  have G34 : τ33.2.1 34 = σ.2.1 34 := (g34_τ33).trans G34
                  have G35 : τ33.2.1 35 = σ.2.1 35 := (g35_τ33).trans G35
                  have G36 : τ33.2.1 36 = σ.2.1 36 := (g36_τ33).trans G36
                  have G37 : τ33.2.1 37 = σ.2.1 37 := (g37_τ33).trans G37
                  have G44 : τ33.2.1 44 = σ.2.1 44 := (g44_τ33).trans G44
                  have G45 : τ33.2.1 45 = σ.2.1 45 := (g45_τ33).trans G45
                  have y14_7_τ33 : τ33.2.1 14 (τ33.1 7) = (σ.2.1 14) (σ.1 7) := by rw [g14_τ33, w7_τ33]
                  have y36_15_τ33 : τ33.2.1 36 (τ33.1 15) = (σ.2.1 36) (σ.1 15) := by rw [g36_τ33, w15_τ33]
                  have HT : J_ht (τ33.1 3) (τ33.2.1 2) (τ33.2.1 3) (τ33.2.1 5) (τ33.2.1 6) := by rw [show (J_ht (τ33.1 3) (τ33.2.1 2) (τ33.2.1 3) (τ33.2.1 5) (τ33.2.1 6)) = (J_ht (σ.1 3) (σ.2.1 2) (σ.2.1 3) (σ.2.1 5) (σ.2.1 6)) from by rw [w3_τ33, g2_τ33, g3_τ33, g5_τ33, g6_τ33]]; exact HT
                  have NL : J_nl (τ33.1 3) (τ33.2.1 2) (τ33.2.1 3) (τ33.2.1 4) := by rw [show (J_nl (τ33.1 3) (τ33.2.1 2) (τ33.2.1 3) (τ33.2.1 4)) = (J_nl (σ.1 3) (σ.2.1 2) (σ.2.1 3) (σ.2.1 4)) from by rw [w3_τ33, g2_τ33, g3_τ33, g4_τ33]]; exact NL
                  have MN : J_mn (τ33.1 3) (τ33.1 5) ((τ33.1 7) + 1) (τ33.2.1 4) := by rw [show (J_mn (τ33.1 3) (τ33.1 5) ((τ33.1 7) + 1) (τ33.2.1 4)) = (J_mn (σ.1 3) (σ.1 5) ((σ.1 7) + 1) (σ.2.1 4)) from by rw [w3_τ33, w5_τ33, w7_τ33, g4_τ33]]; exact MN
                  have VA : J_va (τ33.1 8) 1000 (τ33.2.1 18) (τ33.2.1 20) := by rw [show (J_va (τ33.1 8) 1000 (τ33.2.1 18) (τ33.2.1 20)) = (J_va (σ.1 8) 1000 (σ.2.1 18) (σ.2.1 20)) from by rw [w8_τ33, g18_τ33, g20_τ33]]; exact VA
                  have SC : J_sc (τ33.1 7) (τ33.1 9) (τ33.2.1 13) (τ33.2.1 14) (τ33.2.1 15) (τ33.2.1 16) (τ33.2.1 22) (τ33.2.1 19) := by rw [show (J_sc (τ33.1 7) (τ33.1 9) (τ33.2.1 13) (τ33.2.1 14) (τ33.2.1 15) (τ33.2.1 16) (τ33.2.1 22) (τ33.2.1 19)) = (J_sc (σ.1 7) (σ.1 9) (σ.2.1 13) (σ.2.1 14) (σ.2.1 15) (σ.2.1 16) (σ.2.1 22) (σ.2.1 19)) from by rw [w7_τ33, w9_τ33, g13_τ33, g14_τ33, g15_τ33, g16_τ33, g19_τ33, g22_τ33]]; exact SC
                  have MK : J_mk (τ33.1 11) (τ33.1 8) (τ33.1 9) (τ33.1 10) (τ33.2.1 25) := by rw [show (J_mk (τ33.1 11) (τ33.1 8) (τ33.1 9) (τ33.1 10) (τ33.2.1 25)) = (J_mk (σ.1 11) (σ.1 8) (σ.1 9) (σ.1 10) (σ.2.1 25)) from by rw [w8_τ33, w9_τ33, w10_τ33, w11_τ33, g25_τ33]]; exact MK
                  have FF : J_ff (τ33.1 5) (τ33.1 7) (τ33.2.1 9) (τ33.2.1 13) (τ33.2.1 14) (τ33.2.1 15) := by rw [show (J_ff (τ33.1 5) (τ33.1 7) (τ33.2.1 9) (τ33.2.1 13) (τ33.2.1 14) (τ33.2.1 15)) = (J_ff (σ.1 5) (σ.1 7) (σ.2.1 9) (σ.2.1 13) (σ.2.1 14) (σ.2.1 15)) from by rw [w5_τ33, w7_τ33, g9_τ33, g13_τ33, g14_τ33, g15_τ33]]; exact FF
                  have MT : ∀ s : Int, τ33.2.1 26 s ≤ (τ33.1 12) := by rw [show (∀ s : Int, τ33.2.1 26 s ≤ (τ33.1 12)) = (∀ s : Int, σ.2.1 26 s ≤ (σ.1 12)) from by rw [w12_τ33, g26_τ33]]; exact MT
                  have VS : J_vs (τ33.1 8) (τ33.1 5) (τ33.2.1 20) := by rw [show (J_vs (τ33.1 8) (τ33.1 5) (τ33.2.1 20)) = (J_vs (σ.1 8) (σ.1 5) (σ.2.1 20)) from by rw [w5_τ33, w8_τ33, g20_τ33]]; exact VS
                  have TX : J_vs (τ33.1 6) (τ33.1 5) (τ33.2.1 15) := by rw [show (J_vs (τ33.1 6) (τ33.1 5) (τ33.2.1 15)) = (J_vs (σ.1 6) (σ.1 5) (σ.2.1 15)) from by rw [w5_τ33, w6_τ33, g15_τ33]]; exact TX
                  have RKS : J_rks (τ33.1 5) (τ33.1 4) (τ33.2.1 10) (τ33.2.1 11) := by rw [show (J_rks (τ33.1 5) (τ33.1 4) (τ33.2.1 10) (τ33.2.1 11)) = (J_rks (σ.1 5) (σ.1 4) (σ.2.1 10) (σ.2.1 11)) from by rw [w4_τ33, w5_τ33, g10_τ33, g11_τ33]]; exact RKS
                  have CJ : J_all (τ33.1 7) (τ33.1 6) (τ33.1 13) (τ33.1 14) (τ33.1 15) (τ33.2.1 13) (τ33.2.1 14) (τ33.2.1 15) (τ33.2.1 16) (τ33.2.1 10) (τ33.2.1 27) (τ33.2.1 28) (τ33.2.1 29) (τ33.2.1 30) (τ33.2.1 31) (τ33.2.1 32) (τ33.2.1 33) (τ33.2.1 34) (τ33.2.1 35) (τ33.2.1 36) (τ33.2.1 37) := by rw [show (J_all (τ33.1 7) (τ33.1 6) (τ33.1 13) (τ33.1 14) (τ33.1 15) (τ33.2.1 13) (τ33.2.1 14) (τ33.2.1 15) (τ33.2.1 16) (τ33.2.1 10) (τ33.2.1 27) (τ33.2.1 28) (τ33.2.1 29) (τ33.2.1 30) (τ33.2.1 31) (τ33.2.1 32) (τ33.2.1 33) (τ33.2.1 34) (τ33.2.1 35) (τ33.2.1 36) (τ33.2.1 37)) = (J_all (σ.1 7) (σ.1 6) (σ.1 13) (σ.1 14) (σ.1 15) (σ.2.1 13) (σ.2.1 14) (σ.2.1 15) (σ.2.1 16) (σ.2.1 10) (σ.2.1 27) (σ.2.1 28) (σ.2.1 29) (σ.2.1 30) (σ.2.1 31) (σ.2.1 32) (σ.2.1 33) (σ.2.1 34) (σ.2.1 35) (σ.2.1 36) (σ.2.1 37)) from by rw [w6_τ33, w7_τ33, w13_τ33, w14_τ33, w15_τ33, g10_τ33, g13_τ33, g14_τ33, g15_τ33, g16_τ33, g27_τ33, g28_τ33, g29_τ33, g30_τ33, g31_τ33, g32_τ33, g33_τ33, g34_τ33, g35_τ33, g36_τ33, g37_τ33]]; exact CJ
                  have BP : J_bp (τ33.2.1 44) (τ33.2.1 45) := by rw [show (J_bp (τ33.2.1 44) (τ33.2.1 45)) = (J_bp (σ.2.1 44) (σ.2.1 45)) from by rw [g44_τ33, g45_τ33]]; exact BP
                  have CH : j_eq (σ.2.1 36 (σ.1 15)) (σ.2.1 37) (τ33.2.1 37) := by rw [show (j_eq (σ.2.1 36 (σ.1 15)) (σ.2.1 37) (τ33.2.1 37)) = (j_eq (σ.2.1 36 (σ.1 15)) (σ.2.1 37) (σ.2.1 37)) from by rw [g37_τ33]]; exact CH
                  have RS : J_rs (τ33.1 35) (τ33.1 7) (τ33.1 6) (τ33.1 36) (τ33.1 37) (τ33.1 5) (τ33.1 8) (τ33.2.1 14) := by rw [show (J_rs (τ33.1 35) (τ33.1 7) (τ33.1 6) (τ33.1 36) (τ33.1 37) (τ33.1 5) (τ33.1 8) (τ33.2.1 14)) = (J_rs (σ.1 35) (σ.1 7) (σ.1 6) (σ.1 36) (σ.1 37) (σ.1 5) (σ.1 8) (σ.2.1 14)) from by rw [w5_τ33, w6_τ33, w7_τ33, w8_τ33, w35_τ33, w36_τ33, w37_τ33, g14_τ33]]; exact RS
                  have A2 : ∀ j, 0 ≤ τ33.2.1 2 j ∧ τ33.2.1 2 j ≤ 65535 := fun j => hT.2 2 j
                  have A3 : ∀ j, 0 ≤ τ33.2.1 3 j ∧ τ33.2.1 3 j ≤ 30000 := fun j => hT.2 3 j
                  have A4 : ∀ j, (-1000) ≤ τ33.2.1 4 j ∧ τ33.2.1 4 j ≤ 1499 := fun j => hT.2 4 j
                  have A5 : ∀ j, 0 ≤ τ33.2.1 5 j ∧ τ33.2.1 5 j ≤ 2500 := fun j => hT.2 5 j
                  have A6 : ∀ j, 0 ≤ τ33.2.1 6 j ∧ τ33.2.1 6 j ≤ 2500 := fun j => hT.2 6 j
                  have A8 : ∀ j, 0 ≤ τ33.2.1 8 j ∧ τ33.2.1 8 j ≤ 1 := fun j => hT.2 8 j
                  have A9 : ∀ j, (-1) ≤ τ33.2.1 9 j ∧ τ33.2.1 9 j ≤ 1499 := fun j => hT.2 9 j
                  have A10 : ∀ j, (-1) ≤ τ33.2.1 10 j ∧ τ33.2.1 10 j ≤ 99 := fun j => hT.2 10 j
                  have A11 : ∀ j, 0 ≤ τ33.2.1 11 j ∧ τ33.2.1 11 j ≤ 999 := fun j => hT.2 11 j
                  have A13 : ∀ j, 0 ≤ τ33.2.1 13 j ∧ τ33.2.1 13 j ≤ 4 := fun j => hT.2 13 j
                  have A14 : ∀ j, 0 ≤ τ33.2.1 14 j ∧ τ33.2.1 14 j ≤ 30000 := fun j => hT.2 14 j
                  have A15 : ∀ j, 0 ≤ τ33.2.1 15 j ∧ τ33.2.1 15 j ≤ 999 := fun j => hT.2 15 j
                  have A16 : ∀ j, (-1) ≤ τ33.2.1 16 j ∧ τ33.2.1 16 j ≤ 1499 := fun j => hT.2 16 j
                  have A18 : ∀ j, 0 ≤ τ33.2.1 18 j ∧ τ33.2.1 18 j ≤ 1 := fun j => hT.2 18 j
                  have A19 : ∀ j, (-1) ≤ τ33.2.1 19 j ∧ τ33.2.1 19 j ≤ 1499 := fun j => hT.2 19 j
                  have A20 : ∀ j, 0 ≤ τ33.2.1 20 j ∧ τ33.2.1 20 j ≤ 999 := fun j => hT.2 20 j
                  have A22 : ∀ j, 0 ≤ τ33.2.1 22 j ∧ τ33.2.1 22 j ≤ 1499 := fun j => hT.2 22 j
                  have A23 : ∀ j, 0 ≤ τ33.2.1 23 j ∧ τ33.2.1 23 j ≤ 999 := fun j => hT.2 23 j
                  have A24 : ∀ j, 0 ≤ τ33.2.1 24 j ∧ τ33.2.1 24 j ≤ 999 := fun j => hT.2 24 j
                  have A26 : ∀ j, (-2147483648) ≤ τ33.2.1 26 j ∧ τ33.2.1 26 j ≤ 2147483647 := fun j => hT.2 26 j
                  have A27 : ∀ j, 0 ≤ τ33.2.1 27 j ∧ τ33.2.1 27 j ≤ 90000 := fun j => hT.2 27 j
                  have A28 : ∀ j, 0 ≤ τ33.2.1 28 j ∧ τ33.2.1 28 j ≤ 60 := fun j => hT.2 28 j
                  have A29 : ∀ j, 0 ≤ τ33.2.1 29 j ∧ τ33.2.1 29 j ≤ 1499 := fun j => hT.2 29 j
                  have A30 : ∀ j, 0 ≤ τ33.2.1 30 j ∧ τ33.2.1 30 j ≤ 20000 := fun j => hT.2 30 j
                  have A31 : ∀ j, 0 ≤ τ33.2.1 31 j ∧ τ33.2.1 31 j ≤ 20000 := fun j => hT.2 31 j
                  have A32 : ∀ j, 0 ≤ τ33.2.1 32 j ∧ τ33.2.1 32 j ≤ 999999 := fun j => hT.2 32 j
                  have A33 : ∀ j, 0 ≤ τ33.2.1 33 j ∧ τ33.2.1 33 j ≤ 20000 := fun j => hT.2 33 j
                  have A34 : ∀ j, 0 ≤ τ33.2.1 34 j ∧ τ33.2.1 34 j ≤ 20000 := fun j => hT.2 34 j
                  have A35 : ∀ j, 0 ≤ τ33.2.1 35 j ∧ τ33.2.1 35 j ≤ 1499 := fun j => hT.2 35 j
                  have A36 : ∀ j, 0 ≤ τ33.2.1 36 j ∧ τ33.2.1 36 j ≤ 20000 := fun j => hT.2 36 j
                  have A37 : ∀ j, 0 ≤ τ33.2.1 37 j ∧ τ33.2.1 37 j ≤ 19999 := fun j => hT.2 37 j
                  have A44 : ∀ j, 0 ≤ τ33.2.1 44 j ∧ τ33.2.1 44 j ≤ 42000 := fun j => hT.2 44 j
                  have A45 : ∀ j, 0 ≤ τ33.2.1 45 j ∧ τ33.2.1 45 j ≤ 1000 := fun j => hT.2 45 j
                  have A49 : ∀ j, (-300) ≤ τ33.2.1 49 j ∧ τ33.2.1 49 j ≤ 67035 := fun j => hT.2 49 j
                  have A51 : ∀ j, 0 ≤ τ33.2.1 51 j ∧ τ33.2.1 51 j ≤ 1499 := fun j => hT.2 51 j
                  have A54 : ∀ j, 0 ≤ τ33.2.1 54 j ∧ τ33.2.1 54 j ≤ 999 := fun j => hT.2 54 j
                  have v3 : 0 ≤ τ33.1 3 ∧ τ33.1 3 ≤ 2500 := hT.1 3
                  have v4 : 0 ≤ τ33.1 4 ∧ τ33.1 4 ≤ 100 := hT.1 4
                  have v5 : 0 ≤ τ33.1 5 ∧ τ33.1 5 ≤ 1000 := hT.1 5
                  have v6 : 0 ≤ τ33.1 6 ∧ τ33.1 6 ≤ 30000 := hT.1 6
                  have v7 : 0 ≤ τ33.1 7 ∧ τ33.1 7 ≤ 1500 := hT.1 7
                  have v8 : 0 ≤ τ33.1 8 ∧ τ33.1 8 ≤ 1000 := hT.1 8
                  have v9 : 0 ≤ τ33.1 9 ∧ τ33.1 9 ≤ 1500 := hT.1 9
                  have v10 : 0 ≤ τ33.1 10 ∧ τ33.1 10 ≤ 1000 := hT.1 10
                  have v11 : 0 ≤ τ33.1 11 ∧ τ33.1 11 ≤ 50 := hT.1 11
                  have v12 : (-2147483648) ≤ τ33.1 12 ∧ τ33.1 12 ≤ 2147483647 := hT.1 12
                  have v13 : 0 ≤ τ33.1 13 ∧ τ33.1 13 ≤ 90000 := hT.1 13
                  have v14 : 0 ≤ τ33.1 14 ∧ τ33.1 14 ≤ 20000 := hT.1 14
                  have v15 : 0 ≤ τ33.1 15 ∧ τ33.1 15 ≤ 20000 := hT.1 15
                  have v16 : 0 ≤ τ33.1 16 ∧ τ33.1 16 ≤ 20000 := hT.1 16
                  have v21 : 0 ≤ τ33.1 21 ∧ τ33.1 21 ≤ 20000 := hT.1 21
                  have v22 : 0 ≤ τ33.1 22 ∧ τ33.1 22 ≤ 300 := hT.1 22
                  have v23 : 0 ≤ τ33.1 23 ∧ τ33.1 23 ≤ 300 := hT.1 23
                  have v24 : 0 ≤ τ33.1 24 ∧ τ33.1 24 ≤ 1499 := hT.1 24
                  have v25 : 0 ≤ τ33.1 25 ∧ τ33.1 25 ≤ 3 := hT.1 25
                  have v26 : 0 ≤ τ33.1 26 ∧ τ33.1 26 ≤ 5000010 := hT.1 26
                  have v27 : 0 ≤ τ33.1 27 ∧ τ33.1 27 ≤ 1 := hT.1 27
                  have v29 : 0 ≤ τ33.1 29 ∧ τ33.1 29 ≤ 60000 := hT.1 29
                  have v34 : 0 ≤ τ33.1 34 ∧ τ33.1 34 ≤ 1 := hT.1 34
                  have v35 : 0 ≤ τ33.1 35 ∧ τ33.1 35 ≤ 7 := hT.1 35
                  have v36 : 0 ≤ τ33.1 36 ∧ τ33.1 36 ≤ 1001 := hT.1 36
                  have v37 : 0 ≤ τ33.1 37 ∧ τ33.1 37 ≤ 4 := hT.1 37
                  have v38 : (-1) ≤ τ33.1 38 ∧ τ33.1 38 ≤ 999 := hT.1 38
                  have v66 : 0 ≤ τ33.1 66 ∧ τ33.1 66 ≤ 1 := hT.1 66
                  have a14_7 : 0 ≤ τ33.2.1 14 (τ33.1 7) ∧ τ33.2.1 14 (τ33.1 7) ≤ 30000 := hT.2 14 _
                  have a36_15 : 0 ≤ τ33.2.1 36 (τ33.1 15) ∧ τ33.2.1 36 (τ33.1 15) ≤ 20000 := hT.2 36 _
                  have av3 : σ.1 3 ≤ τ33.1 3 := ag.1 3 (by decide)
                  have av5 : σ.1 5 ≤ τ33.1 5 := ag.1 5 (by decide)
                  have av6 : σ.1 6 ≤ τ33.1 6 := ag.1 6 (by decide)
                  have av7 : σ.1 7 ≤ τ33.1 7 := ag.1 7 (by decide)
                  have av13 : σ.1 13 ≤ τ33.1 13 := ag.1 13 (by decide)
                  have av14 : σ.1 14 ≤ τ33.1 14 := ag.1 14 (by decide)
                  replace ag := ag_v (i := 33) (x := (τ33.1 29)) ag (Or.inl rfl)
                  replace hT := cT_v (i := 33) hT (show 0 ≤ (τ33.1 29) ∧ (τ33.1 29) ≤ 60000 from by (first | assumption | omega | (simp only [st_s] <;> omega) | fail))
                  exact ⟨hT, (show 0 ≤ x32 ∧ x32 ≤ 19 from by (first | assumption | omega | (simp only [st_s] <;> omega) | fail)), (show J_ht (τ33.1 3) (τ33.2.1 2) (τ33.2.1 3) (τ33.2.1 5) (τ33.2.1 6) from HT), (show J_mn (τ33.1 3) (τ33.1 5) ((τ33.1 7) + 1) (τ33.2.1 4) from MN), (show J_rks (τ33.1 5) (τ33.1 4) (τ33.2.1 10) (τ33.2.1 11) from RKS), (show J_vs (τ33.1 8) (τ33.1 5) (τ33.2.1 20) from VS), (show J_vs (τ33.1 6) (τ33.1 5) (τ33.2.1 15) from TX), (show J_va (τ33.1 8) 1000 (τ33.2.1 18) (τ33.2.1 20) from VA), (show J_mk (τ33.1 11) (τ33.1 8) (τ33.1 9) (τ33.1 10) (τ33.2.1 25) from MK), (show J_sc (τ33.1 7) (τ33.1 9) (τ33.2.1 13) (τ33.2.1 14) (τ33.2.1 15) (τ33.2.1 16) (τ33.2.1 22) (τ33.2.1 19) from SC), (show J_ff (τ33.1 5) (τ33.1 7) (τ33.2.1 9) (τ33.2.1 13) (τ33.2.1 14) (τ33.2.1 15) from FF), (show ∀ s : Int, τ33.2.1 26 s ≤ (τ33.1 12) from MT), (show J_all (τ33.1 7) (τ33.1 6) (τ33.1 13) (τ33.1 14) (τ33.1 15) (τ33.2.1 13) (τ33.2.1 14) (τ33.2.1 15) (τ33.2.1 16) (τ33.2.1 10) (τ33.2.1 27) (τ33.2.1 28) (τ33.2.1 29) (τ33.2.1 30) (τ33.2.1 31) (τ33.2.1 32) (τ33.2.1 33) (τ33.2.1 34) (τ33.2.1 35) (τ33.2.1 36) (τ33.2.1 37) from CJ), (show J_bp (τ33.2.1 44) (τ33.2.1 45) from BP), (show J_nl (τ33.1 3) (τ33.2.1 2) (τ33.2.1 3) (τ33.2.1 4) from NL), (show x32 = 0 → J_rs (τ33.1 35) (τ33.1 7) (τ33.1 6) (τ33.1 36) (τ33.1 37) (τ33.1 5) (τ33.1 8) (τ33.2.1 14) from by (first | (intro z; exfalso; omega) | exact q34_15 | exact q37_15 | exact q40_15 | (first | (intro z; exfalso; omega) | (intro z; unfold J_rs; omega) | (intro z; unfold J_rs; rw [G14, W7]; omega)) | fail)), (show x32 = 0 → 5 ≤ (τ33.1 35) → 1 ≤ (τ33.1 36) → 0 ≤ τ33.2.1 10 (τ33.2.1 15 (τ33.2.1 14 (τ33.1 7))) from by (first | (intro z; exfalso; omega) | exact q34_16 | exact q37_16 | exact q40_16 | (first | (intro z; exfalso; omega) | (intro z y; exfalso; omega) | exact fun _ => uc | (intro z y y2; exact uc (by omega) (by omega)) | (intro z y y2; exfalso; omega) | (intro z y y2; rw [G10, G14, G15, W7]; exact uc (by omega) (by omega))) | fail)), (show x32 = 0 → (τ33.1 35) = 4 → j_in (τ33.1 36) 1000 (τ33.2.1 54) from by (first | (intro z; exfalso; omega) | exact q34_17 | exact q37_17 | exact q40_17 | (first | (intro z; exfalso; omega) | (intro z y; exfalso; omega) | exact fun _ => dj) | fail)), (show x32 = 0 → 5 ≤ (τ33.1 35) → J_ip (τ33.1 7) (τ33.1 6) (τ33.1 37) (τ33.2.1 14) (τ33.2.1 15) (τ33.2.1 16) (τ33.2.1 19) from by (first | (intro z; exfalso; omega) | exact q34_18 | exact q37_18 | exact q40_18 | (first | (intro z; exfalso; omega) | (intro z y; exfalso; omega) | exact fun _ => ipx | (intro z y; exact ipx (by omega)) | (intro z y; rw [W7, W6, W37, G14, G15, G16, G19]; exact ipx (by omega))) | fail)), (show x32 = 0 → ((τ33.1 35) ≤ 5 → (τ33.1 13) ≤ 60 * (τ33.1 7)) ∧ (τ33.1 13) ≤ 60 * (τ33.1 7) + 60 from by (first | (intro z; exfalso; omega) | exact q34_19 | exact q37_19 | exact q40_19 | (intro z; omega) | fail)), (show x32 = 0 → 6 ≤ (τ33.1 35) → (τ33.1 24) = (τ33.1 7) ∧ J_f (τ33.1 7) (τ33.1 13) (τ33.1 14) (τ33.2.1 13) (τ33.2.1 14) (τ33.2.1 15) (τ33.2.1 16) (τ33.2.1 27) (τ33.2.1 28) (τ33.2.1 29) (τ33.2.1 30) (τ33.2.1 31) (τ33.2.1 32) from by (first | (intro z; exfalso; omega) | exact q34_20 | exact q37_20 | exact q40_20 | (intro z y; have w := frx (by omega); rw [W7, W13, W14, w24_τ33, G13, G14, G15, G16, G27, G28, G29, G30, G31, G32]; exact w) | (first | (intro z; exfalso; omega) | (intro z y; exfalso; omega) | exact fun _ => frx | (intro z y; exact frx (by omega)) | (intro z y; have w := frx (by omega); rw [W7, W13, W14, W24, G13, G14, G15, G16, G27, G28, G29, G30, G31, G32]; exact w)) | fail)), (show x32 = 0 → 6 ≤ (τ33.1 35) → J_sp (τ33.1 24) (τ33.1 21) (τ33.1 23) (τ33.1 22) (τ33.2.1 49) (τ33.2.1 51) ∧ ((τ33.1 16) + (τ33.1 21) ≤ 20000) ∧ (¬ (τ33.1 27) = 0 → 1 ≤ (τ33.1 21) ∧ 0 ≤ τ33.2.1 49 ((τ33.1 21) - 1) ∧ τ33.2.1 49 ((τ33.1 21) - 1) < 65536) ∧ ((τ33.1 26) ≤ 1000000) ∧ ((τ33.1 25) ≤ 2 → (τ33.1 27) = 0) from by (first | (intro z; exfalso; omega) | exact q34_21 | exact q37_21 | exact q40_21 | (intro z y; exact ⟨q31_2 z, q31_3 z, q31_4 z, q31_5 z, q31_6 z⟩) | (first | (intro z; exfalso; omega) | (intro z y; exfalso; omega) | exact fun _ => spx | (intro z y; exact spx (by omega))) | fail)), (show x32 = 0 → (τ33.1 15) ≤ (τ33.1 16) ∧ τ33.2.1 36 (τ33.1 15) ≤ (τ33.1 16) from by (first | (intro z; exfalso; omega) | exact q34_22 | exact q37_22 | exact q40_22 | (intro z; first | exact sux | omega) | fail)), (show x32 = 0 → (τ33.1 9) ≤ (τ33.1 7) from by (first | (intro z; exfalso; omega) | exact q34_23 | exact q37_23 | exact q40_23 | (intro z; omega) | fail)), (show j_rr ((σ.1 5)) (σ.2.1 10) (τ33.2.1 10) from by (first | exact j_rr0 _ _ | exact q34_24 | exact q37_24 | exact q40_24 | (rw [G10]; exact j_rr0 _ _) | fail)), (show j_eq (σ.2.1 36 (σ.1 15)) (σ.2.1 37) (τ33.2.1 37) from CH), (show (τ33.1 12) ≤ (σ.1 12) + 1 from by (first | assumption | omega | (simp only [st_s] <;> omega) | fail)), (show c_Y σ (s_v τ33 33 (τ33.1 29)) from by (first | exact c_Y0 _ | exact c_Y_g W4 G11 G20 G22 G25 | exact q34_27 | exact q37_27 | exact q40_27 | exact c_Y_g (by omega) (by rw [g11_τ33]) (by rw [g20_τ33]) (by rw [g22_τ33]) (by rw [g25_τ33]) | fail)), ag⟩
                ·
                  refine ⟨_, K_X7_word hT (show J_ht (σ.1 3) (σ.2.1 2) (σ.2.1 3) (σ.2.1 5) (σ.2.1 6) from HT) (show J_mn (σ.1 3) (σ.1 5) ((σ.1 7) + 1) (σ.2.1 4) from MN) (show J_rks (σ.1 5) (σ.1 4) (σ.2.1 10) (σ.2.1 11) from RKS) (show J_vs (σ.1 8) (σ.1 5) (σ.2.1 20) from VS) (show J_vs (σ.1 6) (σ.1 5) (σ.2.1 15) from TX) (show J_va (σ.1 8) 1000 (σ.2.1 18) (σ.2.1 20) from VA) (show J_mk (σ.1 11) (σ.1 8) (σ.1 9) (σ.1 10) (σ.2.1 25) from MK) (show J_sc (σ.1 7) (σ.1 9) (σ.2.1 13) (σ.2.1 14) (σ.2.1 15) (σ.2.1 16) (σ.2.1 22) (σ.2.1 19) from SC) (show J_ff (σ.1 5) (σ.1 7) (σ.2.1 9) (σ.2.1 13) (σ.2.1 14) (σ.2.1 15) from FF) (show ∀ s : Int, σ.2.1 26 s ≤ (σ.1 12) from MT) (show J_all (σ.1 7) (σ.1 6) (σ.1 13) (σ.1 14) (σ.1 15) (σ.2.1 13) (σ.2.1 14) (σ.2.1 15) (σ.2.1 16) (σ.2.1 10) (σ.2.1 27) (σ.2.1 28) (σ.2.1 29) (σ.2.1 30) (σ.2.1 31) (σ.2.1 32) (σ.2.1 33) (σ.2.1 34) (σ.2.1 35) (σ.2.1 36) (σ.2.1 37) from CJ) (show J_bp (σ.2.1 44) (σ.2.1 45) from BP) (show J_nl (σ.1 3) (σ.2.1 2) (σ.2.1 3) (σ.2.1 4) from NL) (show J_rs (σ.1 35) (σ.1 7) (σ.1 6) (σ.1 36) (σ.1 37) (σ.1 5) (σ.1 8) (σ.2.1 14) from RS) (show 5 ≤ (σ.1 35) → 1 ≤ (σ.1 36) → 0 ≤ σ.2.1 10 (σ.2.1 15 (σ.2.1 14 (σ.1 7))) from by (first | assumption | omega | (simp only [st_s] <;> omega) | fail)) (show (σ.1 35) = 4 → j_in (σ.1 36) 1000 (σ.2.1 54) from by (first | assumption | omega | (simp only [st_s] <;> omega) | fail)) (show 5 ≤ (σ.1 35) → J_ip (σ.1 7) (σ.1 6) (σ.1 37) (σ.2.1 14) (σ.2.1 15) (σ.2.1 16) (σ.2.1 19) from by (first | assumption | omega | (simp only [st_s] <;> omega) | fail)) (show ((σ.1 35) ≤ 5 → (σ.1 13) ≤ 60 * (σ.1 7)) ∧ (σ.1 13) ≤ 60 * (σ.1 7) + 60 from by (first | assumption | omega | (simp only [st_s] <;> omega) | fail)) (show 6 ≤ (σ.1 35) → (σ.1 24) = (σ.1 7) ∧ J_f (σ.1 7) (σ.1 13) (σ.1 14) (σ.2.1 13) (σ.2.1 14) (σ.2.1 15) (σ.2.1 16) (σ.2.1 27) (σ.2.1 28) (σ.2.1 29) (σ.2.1 30) (σ.2.1 31) (σ.2.1 32) from by (first | assumption | omega | (simp only [st_s] <;> omega) | fail)) (show 6 ≤ (σ.1 35) → J_sp (σ.1 24) (σ.1 21) (σ.1 23) (σ.1 22) (σ.2.1 49) (σ.2.1 51) ∧ ((σ.1 16) + (σ.1 21) ≤ 20000) ∧ (¬ (σ.1 27) = 0 → 1 ≤ (σ.1 21) ∧ 0 ≤ σ.2.1 49 ((σ.1 21) - 1) ∧ σ.2.1 49 ((σ.1 21) - 1) < 65536) ∧ ((σ.1 26) ≤ 1000000) ∧ ((σ.1 25) ≤ 2 → (σ.1 27) = 0) from by (first | assumption | omega | (simp only [st_s] <;> omega) | fail)) (show (σ.1 15) ≤ (σ.1 16) ∧ σ.2.1 36 (σ.1 15) ≤ (σ.1 16) from by (first | assumption | omega | (simp only [st_s] <;> omega) | fail)) (show (σ.1 9) ≤ (σ.1 7) from by (first | assumption | omega | (simp only [st_s] <;> omega) | fail)) (show 0 ≤ n1 from by (first | assumption | omega | (simp only [st_s] <;> omega) | fail)) (show 0 ≤ n2 from by (first | assumption | omega | (simp only [st_s] <;> omega) | fail)) (show n1 + n2 ≤ 60000 from by (first | assumption | omega | (simp only [st_s] <;> omega) | fail)) (show ¬ σ.1 66 = 0 from by (first | assumption | omega | (simp only [st_s] <;> omega) | fail)) (show (x24) < (σ.1 5) from by (first | assumption | omega | (simp only [st_s] <;> omega) | fail)), ?_⟩
                  intro x35 τ36 r_x35 hn_τ36 hf_τ36 hq
                  obtain ⟨hT, q34_1, q34_2, q34_3, q34_4, q34_5, q34_6, q34_7, q34_8, q34_9, q34_10, q34_11, q34_12, q34_13, q34_14, q34_15, q34_16, q34_17, q34_18, q34_19, q34_20, q34_21, q34_22, q34_23, q34_24, q34_25, q34_26, q34_27, q34_28⟩ := hq
                  replace q34_1 : 0 ≤ x35 ∧ x35 ≤ 19 := q34_1
                  replace q34_2 : J_ht (τ36.1 3) (τ36.2.1 2) (τ36.2.1 3) (τ36.2.1 5) (τ36.2.1 6) := q34_2
                  replace q34_3 : J_mn (τ36.1 3) (τ36.1 5) ((τ36.1 7) + 1) (τ36.2.1 4) := q34_3
                  replace q34_4 : J_rks (τ36.1 5) (τ36.1 4) (τ36.2.1 10) (τ36.2.1 11) := q34_4
                  replace q34_5 : J_vs (τ36.1 8) (τ36.1 5) (τ36.2.1 20) := q34_5
                  replace q34_6 : J_vs (τ36.1 6) (τ36.1 5) (τ36.2.1 15) := q34_6
                  replace q34_7 : J_va (τ36.1 8) 1000 (τ36.2.1 18) (τ36.2.1 20) := q34_7
                  replace q34_8 : J_mk (τ36.1 11) (τ36.1 8) (τ36.1 9) (τ36.1 10) (τ36.2.1 25) := q34_8
                  replace q34_9 : J_sc (τ36.1 7) (τ36.1 9) (τ36.2.1 13) (τ36.2.1 14) (τ36.2.1 15) (τ36.2.1 16) (τ36.2.1 22) (τ36.2.1 19) := q34_9
                  replace q34_10 : J_ff (τ36.1 5) (τ36.1 7) (τ36.2.1 9) (τ36.2.1 13) (τ36.2.1 14) (τ36.2.1 15) := q34_10
                  replace q34_11 : ∀ s : Int, τ36.2.1 26 s ≤ (τ36.1 12) := q34_11
                  replace q34_12 : J_all (τ36.1 7) (τ36.1 6) (τ36.1 13) (τ36.1 14) (τ36.1 15) (τ36.2.1 13) (τ36.2.1 14) (τ36.2.1 15) (τ36.2.1 16) (τ36.2.1 10) (τ36.2.1 27) (τ36.2.1 28) (τ36.2.1 29) (τ36.2.1 30) (τ36.2.1 31) (τ36.2.1 32) (τ36.2.1 33) (τ36.2.1 34) (τ36.2.1 35) (τ36.2.1 36) (τ36.2.1 37) := q34_12
                  replace q34_13 : J_bp (τ36.2.1 44) (τ36.2.1 45) := q34_13
                  replace q34_14 : J_nl (τ36.1 3) (τ36.2.1 2) (τ36.2.1 3) (τ36.2.1 4) := q34_14
                  replace q34_15 : x35 = 0 → J_rs (τ36.1 35) (τ36.1 7) (τ36.1 6) (τ36.1 36) (τ36.1 37) (τ36.1 5) (τ36.1 8) (τ36.2.1 14) := q34_15
                  replace q34_16 : x35 = 0 → 5 ≤ (τ36.1 35) → 1 ≤ (τ36.1 36) → 0 ≤ τ36.2.1 10 (τ36.2.1 15 (τ36.2.1 14 (τ36.1 7))) := q34_16
                  replace q34_17 : x35 = 0 → (τ36.1 35) = 4 → j_in (τ36.1 36) 1000 (τ36.2.1 54) := q34_17
                  replace q34_18 : x35 = 0 → 5 ≤ (τ36.1 35) → J_ip (τ36.1 7) (τ36.1 6) (τ36.1 37) (τ36.2.1 14) (τ36.2.1 15) (τ36.2.1 16) (τ36.2.1 19) := q34_18
                  replace q34_19 : x35 = 0 → ((τ36.1 35) ≤ 5 → (τ36.1 13) ≤ 60 * (τ36.1 7)) ∧ (τ36.1 13) ≤ 60 * (τ36.1 7) + 60 := q34_19
                  replace q34_20 : x35 = 0 → 6 ≤ (τ36.1 35) → (τ36.1 24) = (τ36.1 7) ∧ J_f (τ36.1 7) (τ36.1 13) (τ36.1 14) (τ36.2.1 13) (τ36.2.1 14) (τ36.2.1 15) (τ36.2.1 16) (τ36.2.1 27) (τ36.2.1 28) (τ36.2.1 29) (τ36.2.1 30) (τ36.2.1 31) (τ36.2.1 32) := q34_20
                  replace q34_21 : x35 = 0 → 6 ≤ (τ36.1 35) → J_sp (τ36.1 24) (τ36.1 21) (τ36.1 23) (τ36.1 22) (τ36.2.1 49) (τ36.2.1 51) ∧ ((τ36.1 16) + (τ36.1 21) ≤ 20000) ∧ (¬ (τ36.1 27) = 0 → 1 ≤ (τ36.1 21) ∧ 0 ≤ τ36.2.1 49 ((τ36.1 21) - 1) ∧ τ36.2.1 49 ((τ36.1 21) - 1) < 65536) ∧ ((τ36.1 26) ≤ 1000000) ∧ ((τ36.1 25) ≤ 2 → (τ36.1 27) = 0) := q34_21
                  replace q34_22 : x35 = 0 → (τ36.1 15) ≤ (τ36.1 16) ∧ τ36.2.1 36 (τ36.1 15) ≤ (τ36.1 16) := q34_22
                  replace q34_23 : x35 = 0 → (τ36.1 9) ≤ (τ36.1 7) := q34_23
                  replace q34_24 : j_rr ((σ.1 5)) (σ.2.1 10) (τ36.2.1 10) := q34_24
                  replace q34_25 : j_eq (σ.2.1 36 (σ.1 15)) (σ.2.1 37) (τ36.2.1 37) := q34_25
                  replace q34_26 : (τ36.1 12) ≤ (σ.1 12) + 1 := q34_26
                  replace q34_27 : c_Y (s_v (s_v σ 38 x24) 39 x27) τ36 := q34_27
                  replace q34_28 : c_ag (s_v (s_v σ 38 x24) 39 x27) τ36 := q34_28
                  replace ag : c_ag σ τ36 := ag_t ag q34_28 rfl
                  have w7_τ36 : τ36.1 7 = σ.1 7 := hf_τ36.1 7 (by decide)
                  have w9_τ36 : τ36.1 9 = σ.1 9 := hf_τ36.1 9 (by decide)
                  have w11_τ36 : τ36.1 11 = σ.1 11 := hf_τ36.1 11 (by decide)
                  have w12_τ36 : τ36.1 12 = σ.1 12 := hf_τ36.1 12 (by decide)
                  have w13_τ36 : τ36.1 13 = σ.1 13 := hf_τ36.1 13 (by decide)
                  have w14_τ36 : τ36.1 14 = σ.1 14 := hf_τ36.1 14 (by decide)
                  have w15_τ36 : τ36.1 15 = σ.1 15 := hf_τ36.1 15 (by decide)
                  have w16_τ36 : τ36.1 16 = σ.1 16 := hf_τ36.1 16 (by decide)
                  have w21_τ36 : τ36.1 21 = σ.1 21 := hf_τ36.1 21 (by decide)
                  have w22_τ36 : τ36.1 22 = σ.1 22 := hf_τ36.1 22 (by decide)
                  have w23_τ36 : τ36.1 23 = σ.1 23 := hf_τ36.1 23 (by decide)
                  have w24_τ36 : τ36.1 24 = σ.1 24 := hf_τ36.1 24 (by decide)
                  have w25_τ36 : τ36.1 25 = σ.1 25 := hf_τ36.1 25 (by decide)
                  have w26_τ36 : τ36.1 26 = σ.1 26 := hf_τ36.1 26 (by decide)
                  have w27_τ36 : τ36.1 27 = σ.1 27 := hf_τ36.1 27 (by decide)
                  have w29_τ36 : τ36.1 29 = σ.1 29 := hf_τ36.1 29 (by decide)
                  have w34_τ36 : τ36.1 34 = σ.1 34 := hf_τ36.1 34 (by decide)
                  have w37_τ36 : τ36.1 37 = σ.1 37 := hf_τ36.1 37 (by decide)
                  have w38_τ36 : τ36.1 38 = x24 := hf_τ36.1 38 (by decide)
                  have w66_τ36 : τ36.1 66 = σ.1 66 := hf_τ36.1 66 (by decide)
                  have g13_τ36 : τ36.2.1 13 = σ.2.1 13 := hf_τ36.2.1 13 (by decide)
                  have g19_τ36 : τ36.2.1 19 = σ.2.1 19 := hf_τ36.2.1 19 (by decide)
                  have g22_τ36 : τ36.2.1 22 = σ.2.1 22 := hf_τ36.2.1 22 (by decide)
                  have g25_τ36 : τ36.2.1 25 = σ.2.1 25 := hf_τ36.2.1 25 (by decide)
                  have g26_τ36 : τ36.2.1 26 = σ.2.1 26 := hf_τ36.2.1 26 (by decide)
                  have g27_τ36 : τ36.2.1 27 = σ.2.1 27 := hf_τ36.2.1 27 (by decide)
                  have g28_τ36 : τ36.2.1 28 = σ.2.1 28 := hf_τ36.2.1 28 (by decide)
                  have g29_τ36 : τ36.2.1 29 = σ.2.1 29 := hf_τ36.2.1 29 (by decide)
                  have g30_τ36 : τ36.2.1 30 = σ.2.1 30 := hf_τ36.2.1 30 (by decide)
                  have g31_τ36 : τ36.2.1 31 = σ.2.1 31 := hf_τ36.2.1 31 (by decide)
                  have g32_τ36 : τ36.2.1 32 = σ.2.1 32 := hf_τ36.2.1 32 (by decide)
                  have g33_τ36 : τ36.2.1 33 = σ.2.1 33 := hf_τ36.2.1 33 (by decide)
                  have g34_τ36 : τ36.2.1 34 = σ.2.1 34 := hf_τ36.2.1 34 (by decide)
                  have g35_τ36 : τ36.2.1 35 = σ.2.1 35 := hf_τ36.2.1 35 (by decide)
                  have g36_τ36 : τ36.2.1 36 = σ.2.1 36 := hf_τ36.2.1 36 (by decide)
                  have g37_τ36 : τ36.2.1 37 = σ.2.1 37 := hf_τ36.2.1 37 (by decide)
                  have g44_τ36 : τ36.2.1 44 = σ.2.1 44 := hf_τ36.2.1 44 (by decide)
                  have g45_τ36 : τ36.2.1 45 = σ.2.1 45 := hf_τ36.2.1 45 (by decide)
                  have g49_τ36 : τ36.2.1 49 = σ.2.1 49 := hf_τ36.2.1 49 (by decide)
                  have g51_τ36 : τ36.2.1 51 = σ.2.1 51 := hf_τ36.2.1 51 (by decide)
                  have W15 : τ36.1 15 = σ.1 15 := by omega
                  have W16 : τ36.1 16 = σ.1 16 := by omega
                  have W66 : τ36.1 66 = σ.1 66 := by omega
                  have G33 : τ36.2.1 33 = σ.2.1 33 := (g33_τ36).trans G33
                  have G34 : τ36.2.1 34 = σ.2.1 34 := (g34_τ36).trans G34
                  have G35 : τ36.2.1 35 = σ.2.1 35 := (g35_τ36).trans G35
                  have G36 : τ36.2.1 36 = σ.2.1 36 := (g36_τ36).trans G36
                  have G37 : τ36.2.1 37 = σ.2.1 37 := (g37_τ36).trans G37
                  have G44 : τ36.2.1 44 = σ.2.1 44 := (g44_τ36).trans G44
                  have G45 : τ36.2.1 45 = σ.2.1 45 := (g45_τ36).trans G45
                  have y36_15_τ36 : τ36.2.1 36 (τ36.1 15) = (σ.2.1 36) (σ.1 15) := by rw [g36_τ36, w15_τ36]
                  have HT : J_ht (τ36.1 3) (τ36.2.1 2) (τ36.2.1 3) (τ36.2.1 5) (τ36.2.1 6) := q34_2
                  have NL : J_nl (τ36.1 3) (τ36.2.1 2) (τ36.2.1 3) (τ36.2.1 4) := q34_14
                  have MN : J_mn (τ36.1 3) (τ36.1 5) ((τ36.1 7) + 1) (τ36.2.1 4) := q34_3
                  have VA : J_va (τ36.1 8) 1000 (τ36.2.1 18) (τ36.2.1 20) := q34_7
                  have SC : J_sc (τ36.1 7) (τ36.1 9) (τ36.2.1 13) (τ36.2.1 14) (τ36.2.1 15) (τ36.2.1 16) (τ36.2.1 22) (τ36.2.1 19) := q34_9
                  have MK : J_mk (τ36.1 11) (τ36.1 8) (τ36.1 9) (τ36.1 10) (τ36.2.1 25) := q34_8
                  have FF : J_ff (τ36.1 5) (τ36.1 7) (τ36.2.1 9) (τ36.2.1 13) (τ36.2.1 14) (τ36.2.1 15) := q34_10
                  have MT : ∀ s : Int, τ36.2.1 26 s ≤ (τ36.1 12) := q34_11
                  have VS : J_vs (τ36.1 8) (τ36.1 5) (τ36.2.1 20) := q34_5
                  have TX : J_vs (τ36.1 6) (τ36.1 5) (τ36.2.1 15) := q34_6
                  have RKS : J_rks (τ36.1 5) (τ36.1 4) (τ36.2.1 10) (τ36.2.1 11) := q34_4
                  have CJ : J_all (τ36.1 7) (τ36.1 6) (τ36.1 13) (τ36.1 14) (τ36.1 15) (τ36.2.1 13) (τ36.2.1 14) (τ36.2.1 15) (τ36.2.1 16) (τ36.2.1 10) (τ36.2.1 27) (τ36.2.1 28) (τ36.2.1 29) (τ36.2.1 30) (τ36.2.1 31) (τ36.2.1 32) (τ36.2.1 33) (τ36.2.1 34) (τ36.2.1 35) (τ36.2.1 36) (τ36.2.1 37) := q34_12
                  have BP : J_bp (τ36.2.1 44) (τ36.2.1 45) := q34_13
                  have CH : j_eq (σ.2.1 36 (σ.1 15)) (σ.2.1 37) (τ36.2.1 37) := by rw [show (j_eq (σ.2.1 36 (σ.1 15)) (σ.2.1 37) (τ36.2.1 37)) = (j_eq (σ.2.1 36 (σ.1 15)) (σ.2.1 37) (σ.2.1 37)) from by rw [g37_τ36]]; exact CH
                  have A2 : ∀ j, 0 ≤ τ36.2.1 2 j ∧ τ36.2.1 2 j ≤ 65535 := fun j => hT.2 2 j
                  have A3 : ∀ j, 0 ≤ τ36.2.1 3 j ∧ τ36.2.1 3 j ≤ 30000 := fun j => hT.2 3 j
                  have A4 : ∀ j, (-1000) ≤ τ36.2.1 4 j ∧ τ36.2.1 4 j ≤ 1499 := fun j => hT.2 4 j
                  have A5 : ∀ j, 0 ≤ τ36.2.1 5 j ∧ τ36.2.1 5 j ≤ 2500 := fun j => hT.2 5 j
                  have A6 : ∀ j, 0 ≤ τ36.2.1 6 j ∧ τ36.2.1 6 j ≤ 2500 := fun j => hT.2 6 j
                  have A8 : ∀ j, 0 ≤ τ36.2.1 8 j ∧ τ36.2.1 8 j ≤ 1 := fun j => hT.2 8 j
                  have A9 : ∀ j, (-1) ≤ τ36.2.1 9 j ∧ τ36.2.1 9 j ≤ 1499 := fun j => hT.2 9 j
                  have A10 : ∀ j, (-1) ≤ τ36.2.1 10 j ∧ τ36.2.1 10 j ≤ 99 := fun j => hT.2 10 j
                  have A11 : ∀ j, 0 ≤ τ36.2.1 11 j ∧ τ36.2.1 11 j ≤ 999 := fun j => hT.2 11 j
                  have A13 : ∀ j, 0 ≤ τ36.2.1 13 j ∧ τ36.2.1 13 j ≤ 4 := fun j => hT.2 13 j
                  have A14 : ∀ j, 0 ≤ τ36.2.1 14 j ∧ τ36.2.1 14 j ≤ 30000 := fun j => hT.2 14 j
                  have A15 : ∀ j, 0 ≤ τ36.2.1 15 j ∧ τ36.2.1 15 j ≤ 999 := fun j => hT.2 15 j
                  have A16 : ∀ j, (-1) ≤ τ36.2.1 16 j ∧ τ36.2.1 16 j ≤ 1499 := fun j => hT.2 16 j
                  have A18 : ∀ j, 0 ≤ τ36.2.1 18 j ∧ τ36.2.1 18 j ≤ 1 := fun j => hT.2 18 j
                  have A19 : ∀ j, (-1) ≤ τ36.2.1 19 j ∧ τ36.2.1 19 j ≤ 1499 := fun j => hT.2 19 j
                  have A20 : ∀ j, 0 ≤ τ36.2.1 20 j ∧ τ36.2.1 20 j ≤ 999 := fun j => hT.2 20 j
                  have A22 : ∀ j, 0 ≤ τ36.2.1 22 j ∧ τ36.2.1 22 j ≤ 1499 := fun j => hT.2 22 j
                  have A23 : ∀ j, 0 ≤ τ36.2.1 23 j ∧ τ36.2.1 23 j ≤ 999 := fun j => hT.2 23 j
                  have A24 : ∀ j, 0 ≤ τ36.2.1 24 j ∧ τ36.2.1 24 j ≤ 999 := fun j => hT.2 24 j
                  have A26 : ∀ j, (-2147483648) ≤ τ36.2.1 26 j ∧ τ36.2.1 26 j ≤ 2147483647 := fun j => hT.2 26 j
                  have A27 : ∀ j, 0 ≤ τ36.2.1 27 j ∧ τ36.2.1 27 j ≤ 90000 := fun j => hT.2 27 j
                  have A28 : ∀ j, 0 ≤ τ36.2.1 28 j ∧ τ36.2.1 28 j ≤ 60 := fun j => hT.2 28 j
                  have A29 : ∀ j, 0 ≤ τ36.2.1 29 j ∧ τ36.2.1 29 j ≤ 1499 := fun j => hT.2 29 j
                  have A30 : ∀ j, 0 ≤ τ36.2.1 30 j ∧ τ36.2.1 30 j ≤ 20000 := fun j => hT.2 30 j
                  have A31 : ∀ j, 0 ≤ τ36.2.1 31 j ∧ τ36.2.1 31 j ≤ 20000 := fun j => hT.2 31 j
                  have A32 : ∀ j, 0 ≤ τ36.2.1 32 j ∧ τ36.2.1 32 j ≤ 999999 := fun j => hT.2 32 j
                  have A33 : ∀ j, 0 ≤ τ36.2.1 33 j ∧ τ36.2.1 33 j ≤ 20000 := fun j => hT.2 33 j
                  have A34 : ∀ j, 0 ≤ τ36.2.1 34 j ∧ τ36.2.1 34 j ≤ 20000 := fun j => hT.2 34 j
                  have A35 : ∀ j, 0 ≤ τ36.2.1 35 j ∧ τ36.2.1 35 j ≤ 1499 := fun j => hT.2 35 j
                  have A36 : ∀ j, 0 ≤ τ36.2.1 36 j ∧ τ36.2.1 36 j ≤ 20000 := fun j => hT.2 36 j
                  have A37 : ∀ j, 0 ≤ τ36.2.1 37 j ∧ τ36.2.1 37 j ≤ 19999 := fun j => hT.2 37 j
                  have A44 : ∀ j, 0 ≤ τ36.2.1 44 j ∧ τ36.2.1 44 j ≤ 42000 := fun j => hT.2 44 j
                  have A45 : ∀ j, 0 ≤ τ36.2.1 45 j ∧ τ36.2.1 45 j ≤ 1000 := fun j => hT.2 45 j
                  have A49 : ∀ j, (-300) ≤ τ36.2.1 49 j ∧ τ36.2.1 49 j ≤ 67035 := fun j => hT.2 49 j
                  have A51 : ∀ j, 0 ≤ τ36.2.1 51 j ∧ τ36.2.1 51 j ≤ 1499 := fun j => hT.2 51 j
                  have A54 : ∀ j, 0 ≤ τ36.2.1 54 j ∧ τ36.2.1 54 j ≤ 999 := fun j => hT.2 54 j
                  have v3 : 0 ≤ τ36.1 3 ∧ τ36.1 3 ≤ 2500 := hT.1 3
                  have v4 : 0 ≤ τ36.1 4 ∧ τ36.1 4 ≤ 100 := hT.1 4
                  have v5 : 0 ≤ τ36.1 5 ∧ τ36.1 5 ≤ 1000 := hT.1 5
                  have v6 : 0 ≤ τ36.1 6 ∧ τ36.1 6 ≤ 30000 := hT.1 6
                  have v7 : 0 ≤ τ36.1 7 ∧ τ36.1 7 ≤ 1500 := hT.1 7
                  have v8 : 0 ≤ τ36.1 8 ∧ τ36.1 8 ≤ 1000 := hT.1 8
                  have v9 : 0 ≤ τ36.1 9 ∧ τ36.1 9 ≤ 1500 := hT.1 9
                  have v10 : 0 ≤ τ36.1 10 ∧ τ36.1 10 ≤ 1000 := hT.1 10
                  have v11 : 0 ≤ τ36.1 11 ∧ τ36.1 11 ≤ 50 := hT.1 11
                  have v12 : (-2147483648) ≤ τ36.1 12 ∧ τ36.1 12 ≤ 2147483647 := hT.1 12
                  have v13 : 0 ≤ τ36.1 13 ∧ τ36.1 13 ≤ 90000 := hT.1 13
                  have v14 : 0 ≤ τ36.1 14 ∧ τ36.1 14 ≤ 20000 := hT.1 14
                  have v15 : 0 ≤ τ36.1 15 ∧ τ36.1 15 ≤ 20000 := hT.1 15
                  have v16 : 0 ≤ τ36.1 16 ∧ τ36.1 16 ≤ 20000 := hT.1 16
                  have v21 : 0 ≤ τ36.1 21 ∧ τ36.1 21 ≤ 20000 := hT.1 21
                  have v22 : 0 ≤ τ36.1 22 ∧ τ36.1 22 ≤ 300 := hT.1 22
                  have v23 : 0 ≤ τ36.1 23 ∧ τ36.1 23 ≤ 300 := hT.1 23
                  have v24 : 0 ≤ τ36.1 24 ∧ τ36.1 24 ≤ 1499 := hT.1 24
                  have v25 : 0 ≤ τ36.1 25 ∧ τ36.1 25 ≤ 3 := hT.1 25
                  have v26 : 0 ≤ τ36.1 26 ∧ τ36.1 26 ≤ 5000010 := hT.1 26
                  have v27 : 0 ≤ τ36.1 27 ∧ τ36.1 27 ≤ 1 := hT.1 27
                  have v29 : 0 ≤ τ36.1 29 ∧ τ36.1 29 ≤ 60000 := hT.1 29
                  have v34 : 0 ≤ τ36.1 34 ∧ τ36.1 34 ≤ 1 := hT.1 34
                  have v35 : 0 ≤ τ36.1 35 ∧ τ36.1 35 ≤ 7 := hT.1 35
                  have v36 : 0 ≤ τ36.1 36 ∧ τ36.1 36 ≤ 1001 := hT.1 36
                  have v37 : 0 ≤ τ36.1 37 ∧ τ36.1 37 ≤ 4 := hT.1 37
                  have v38 : (-1) ≤ τ36.1 38 ∧ τ36.1 38 ≤ 999 := hT.1 38
                  have v66 : 0 ≤ τ36.1 66 ∧ τ36.1 66 ≤ 1 := hT.1 66
                  have a14_7 : 0 ≤ τ36.2.1 14 (τ36.1 7) ∧ τ36.2.1 14 (τ36.1 7) ≤ 30000 := hT.2 14 _
                  have a36_15 : 0 ≤ τ36.2.1 36 (τ36.1 15) ∧ τ36.2.1 36 (τ36.1 15) ≤ 20000 := hT.2 36 _
                  have av3 : σ.1 3 ≤ τ36.1 3 := ag.1 3 (by decide)
                  have av5 : σ.1 5 ≤ τ36.1 5 := ag.1 5 (by decide)
                  have av6 : σ.1 6 ≤ τ36.1 6 := ag.1 6 (by decide)
                  have av7 : σ.1 7 ≤ τ36.1 7 := ag.1 7 (by decide)
                  have av13 : σ.1 13 ≤ τ36.1 13 := ag.1 13 (by decide)
                  have av14 : σ.1 14 ≤ τ36.1 14 := ag.1 14 (by decide)
                  exact ⟨hT, (show 0 ≤ x35 ∧ x35 ≤ 19 from by (first | assumption | omega | (simp only [st_s] <;> omega) | fail)), (show J_ht (τ36.1 3) (τ36.2.1 2) (τ36.2.1 3) (τ36.2.1 5) (τ36.2.1 6) from HT), (show J_mn (τ36.1 3) (τ36.1 5) ((τ36.1 7) + 1) (τ36.2.1 4) from MN), (show J_rks (τ36.1 5) (τ36.1 4) (τ36.2.1 10) (τ36.2.1 11) from RKS), (show J_vs (τ36.1 8) (τ36.1 5) (τ36.2.1 20) from VS), (show J_vs (τ36.1 6) (τ36.1 5) (τ36.2.1 15) from TX), (show J_va (τ36.1 8) 1000 (τ36.2.1 18) (τ36.2.1 20) from VA), (show J_mk (τ36.1 11) (τ36.1 8) (τ36.1 9) (τ36.1 10) (τ36.2.1 25) from MK), (show J_sc (τ36.1 7) (τ36.1 9) (τ36.2.1 13) (τ36.2.1 14) (τ36.2.1 15) (τ36.2.1 16) (τ36.2.1 22) (τ36.2.1 19) from SC), (show J_ff (τ36.1 5) (τ36.1 7) (τ36.2.1 9) (τ36.2.1 13) (τ36.2.1 14) (τ36.2.1 15) from FF), (show ∀ s : Int, τ36.2.1 26 s ≤ (τ36.1 12) from MT), (show J_all (τ36.1 7) (τ36.1 6) (τ36.1 13) (τ36.1 14) (τ36.1 15) (τ36.2.1 13) (τ36.2.1 14) (τ36.2.1 15) (τ36.2.1 16) (τ36.2.1 10) (τ36.2.1 27) (τ36.2.1 28) (τ36.2.1 29) (τ36.2.1 30) (τ36.2.1 31) (τ36.2.1 32) (τ36.2.1 33) (τ36.2.1 34) (τ36.2.1 35) (τ36.2.1 36) (τ36.2.1 37) from CJ), (show J_bp (τ36.2.1 44) (τ36.2.1 45) from BP), (show J_nl (τ36.1 3) (τ36.2.1 2) (τ36.2.1 3) (τ36.2.1 4) from NL), (show x35 = 0 → J_rs (τ36.1 35) (τ36.1 7) (τ36.1 6) (τ36.1 36) (τ36.1 37) (τ36.1 5) (τ36.1 8) (τ36.2.1 14) from by (first | (intro z; exfalso; omega) | exact q34_15 | exact q37_15 | exact q40_15 | (first | (intro z; exfalso; omega) | (intro z; unfold J_rs; omega) | (intro z; unfold J_rs; rw [G14, W7]; omega)) | fail)), (show x35 = 0 → 5 ≤ (τ36.1 35) → 1 ≤ (τ36.1 36) → 0 ≤ τ36.2.1 10 (τ36.2.1 15 (τ36.2.1 14 (τ36.1 7))) from by (first | (intro z; exfalso; omega) | exact q34_16 | exact q37_16 | exact q40_16 | (first | (intro z; exfalso; omega) | (intro z y; exfalso; omega) | exact fun _ => uc | (intro z y y2; exact uc (by omega) (by omega)) | (intro z y y2; exfalso; omega) | (intro z y y2; rw [G10, G14, G15, W7]; exact uc (by omega) (by omega))) | fail)), (show x35 = 0 → (τ36.1 35) = 4 → j_in (τ36.1 36) 1000 (τ36.2.1 54) from by (first | (intro z; exfalso; omega) | exact q34_17 | exact q37_17 | exact q40_17 | (first | (intro z; exfalso; omega) | (intro z y; exfalso; omega) | exact fun _ => dj) | fail)), (show x35 = 0 → 5 ≤ (τ36.1 35) → J_ip (τ36.1 7) (τ36.1 6) (τ36.1 37) (τ36.2.1 14) (τ36.2.1 15) (τ36.2.1 16) (τ36.2.1 19) from by (first | (intro z; exfalso; omega) | exact q34_18 | exact q37_18 | exact q40_18 | (first | (intro z; exfalso; omega) | (intro z y; exfalso; omega) | exact fun _ => ipx | (intro z y; exact ipx (by omega)) | (intro z y; rw [W7, W6, W37, G14, G15, G16, G19]; exact ipx (by omega))) | fail)), (show x35 = 0 → ((τ36.1 35) ≤ 5 → (τ36.1 13) ≤ 60 * (τ36.1 7)) ∧ (τ36.1 13) ≤ 60 * (τ36.1 7) + 60 from by (first | (intro z; exfalso; omega) | exact q34_19 | exact q37_19 | exact q40_19 | (intro z; omega) | fail)), (show x35 = 0 → 6 ≤ (τ36.1 35) → (τ36.1 24) = (τ36.1 7) ∧ J_f (τ36.1 7) (τ36.1 13) (τ36.1 14) (τ36.2.1 13) (τ36.2.1 14) (τ36.2.1 15) (τ36.2.1 16) (τ36.2.1 27) (τ36.2.1 28) (τ36.2.1 29) (τ36.2.1 30) (τ36.2.1 31) (τ36.2.1 32) from by (first | (intro z; exfalso; omega) | exact q34_20 | exact q37_20 | exact q40_20 | (intro z y; have w := frx (by omega); rw [W7, W13, W14, w24_τ33, G13, G14, G15, G16, G27, G28, G29, G30, G31, G32]; exact w) | (first | (intro z; exfalso; omega) | (intro z y; exfalso; omega) | exact fun _ => frx | (intro z y; exact frx (by omega)) | (intro z y; have w := frx (by omega); rw [W7, W13, W14, W24, G13, G14, G15, G16, G27, G28, G29, G30, G31, G32]; exact w)) | fail)), (show x35 = 0 → 6 ≤ (τ36.1 35) → J_sp (τ36.1 24) (τ36.1 21) (τ36.1 23) (τ36.1 22) (τ36.2.1 49) (τ36.2.1 51) ∧ ((τ36.1 16) + (τ36.1 21) ≤ 20000) ∧ (¬ (τ36.1 27) = 0 → 1 ≤ (τ36.1 21) ∧ 0 ≤ τ36.2.1 49 ((τ36.1 21) - 1) ∧ τ36.2.1 49 ((τ36.1 21) - 1) < 65536) ∧ ((τ36.1 26) ≤ 1000000) ∧ ((τ36.1 25) ≤ 2 → (τ36.1 27) = 0) from by (first | (intro z; exfalso; omega) | exact q34_21 | exact q37_21 | exact q40_21 | (intro z y; exact ⟨q31_2 z, q31_3 z, q31_4 z, q31_5 z, q31_6 z⟩) | (first | (intro z; exfalso; omega) | (intro z y; exfalso; omega) | exact fun _ => spx | (intro z y; exact spx (by omega))) | fail)), (show x35 = 0 → (τ36.1 15) ≤ (τ36.1 16) ∧ τ36.2.1 36 (τ36.1 15) ≤ (τ36.1 16) from by (first | (intro z; exfalso; omega) | exact q34_22 | exact q37_22 | exact q40_22 | (intro z; first | exact sux | omega) | fail)), (show x35 = 0 → (τ36.1 9) ≤ (τ36.1 7) from by (first | (intro z; exfalso; omega) | exact q34_23 | exact q37_23 | exact q40_23 | (intro z; omega) | fail)), (show j_rr ((σ.1 5)) (σ.2.1 10) (τ36.2.1 10) from by (first | exact j_rr0 _ _ | exact q34_24 | exact q37_24 | exact q40_24 | (rw [G10]; exact j_rr0 _ _) | fail)), (show j_eq (σ.2.1 36 (σ.1 15)) (σ.2.1 37) (τ36.2.1 37) from CH), (show (τ36.1 12) ≤ (σ.1 12) + 1 from by (first | assumption | omega | (simp only [st_s] <;> omega) | fail)), (show c_Y σ τ36 from by (first | exact c_Y0 _ | exact c_Y_g W4 G11 G20 G22 G25 | exact q34_27 | exact q37_27 | exact q40_27 | exact c_Y_g (by omega) (by rw [g11_τ33]) (by rw [g20_τ33]) (by rw [g22_τ33]) (by rw [g25_τ33]) | fail)), ag⟩
              ·
                exact ⟨hT, (show 0 ≤ 3 ∧ 3 ≤ 19 from by (first | assumption | omega | (simp only [st_s] <;> omega) | fail)), (show J_ht (σ.1 3) (σ.2.1 2) (σ.2.1 3) (σ.2.1 5) (σ.2.1 6) from HT), (show J_mn (σ.1 3) (σ.1 5) ((σ.1 7) + 1) (σ.2.1 4) from MN), (show J_rks (σ.1 5) (σ.1 4) (σ.2.1 10) (σ.2.1 11) from RKS), (show J_vs (σ.1 8) (σ.1 5) (σ.2.1 20) from VS), (show J_vs (σ.1 6) (σ.1 5) (σ.2.1 15) from TX), (show J_va (σ.1 8) 1000 (σ.2.1 18) (σ.2.1 20) from VA), (show J_mk (σ.1 11) (σ.1 8) (σ.1 9) (σ.1 10) (σ.2.1 25) from MK), (show J_sc (σ.1 7) (σ.1 9) (σ.2.1 13) (σ.2.1 14) (σ.2.1 15) (σ.2.1 16) (σ.2.1 22) (σ.2.1 19) from SC), (show J_ff (σ.1 5) (σ.1 7) (σ.2.1 9) (σ.2.1 13) (σ.2.1 14) (σ.2.1 15) from FF), (show ∀ s : Int, σ.2.1 26 s ≤ (σ.1 12) from MT), (show J_all (σ.1 7) (σ.1 6) (σ.1 13) (σ.1 14) (σ.1 15) (σ.2.1 13) (σ.2.1 14) (σ.2.1 15) (σ.2.1 16) (σ.2.1 10) (σ.2.1 27) (σ.2.1 28) (σ.2.1 29) (σ.2.1 30) (σ.2.1 31) (σ.2.1 32) (σ.2.1 33) (σ.2.1 34) (σ.2.1 35) (σ.2.1 36) (σ.2.1 37) from CJ), (show J_bp (σ.2.1 44) (σ.2.1 45) from BP), (show J_nl (σ.1 3) (σ.2.1 2) (σ.2.1 3) (σ.2.1 4) from NL), (show 3 = 0 → J_rs (σ.1 35) (σ.1 7) (σ.1 6) (σ.1 36) (σ.1 37) (σ.1 5) (σ.1 8) (σ.2.1 14) from by (first | (intro z; exfalso; omega) | exact q34_15 | exact q37_15 | exact q40_15 | (first | (intro z; exfalso; omega) | (intro z; unfold J_rs; omega) | (intro z; unfold J_rs; rw [G14, W7]; omega)) | fail)), (show 3 = 0 → 5 ≤ (σ.1 35) → 1 ≤ (σ.1 36) → 0 ≤ σ.2.1 10 (σ.2.1 15 (σ.2.1 14 (σ.1 7))) from by (first | (intro z; exfalso; omega) | exact q34_16 | exact q37_16 | exact q40_16 | (first | (intro z; exfalso; omega) | (intro z y; exfalso; omega) | exact fun _ => uc | (intro z y y2; exact uc (by omega) (by omega)) | (intro z y y2; exfalso; omega) | (intro z y y2; rw [G10, G14, G15, W7]; exact uc (by omega) (by omega))) | fail)), (show 3 = 0 → (σ.1 35) = 4 → j_in (σ.1 36) 1000 (σ.2.1 54) from by (first | (intro z; exfalso; omega) | exact q34_17 | exact q37_17 | exact q40_17 | (first | (intro z; exfalso; omega) | (intro z y; exfalso; omega) | exact fun _ => dj) | fail)), (show 3 = 0 → 5 ≤ (σ.1 35) → J_ip (σ.1 7) (σ.1 6) (σ.1 37) (σ.2.1 14) (σ.2.1 15) (σ.2.1 16) (σ.2.1 19) from by (first | (intro z; exfalso; omega) | exact q34_18 | exact q37_18 | exact q40_18 | (first | (intro z; exfalso; omega) | (intro z y; exfalso; omega) | exact fun _ => ipx | (intro z y; exact ipx (by omega)) | (intro z y; rw [W7, W6, W37, G14, G15, G16, G19]; exact ipx (by omega))) | fail)), (show 3 = 0 → ((σ.1 35) ≤ 5 → (σ.1 13) ≤ 60 * (σ.1 7)) ∧ (σ.1 13) ≤ 60 * (σ.1 7) + 60 from by (first | (intro z; exfalso; omega) | exact q34_19 | exact q37_19 | exact q40_19 | (intro z; omega) | fail)), (show 3 = 0 → 6 ≤ (σ.1 35) → (σ.1 24) = (σ.1 7) ∧ J_f (σ.1 7) (σ.1 13) (σ.1 14) (σ.2.1 13) (σ.2.1 14) (σ.2.1 15) (σ.2.1 16) (σ.2.1 27) (σ.2.1 28) (σ.2.1 29) (σ.2.1 30) (σ.2.1 31) (σ.2.1 32) from by (first | (intro z; exfalso; omega) | exact q34_20 | exact q37_20 | exact q40_20 | (intro z y; have w := frx (by omega); rw [W7, W13, W14, w24_τ33, G13, G14, G15, G16, G27, G28, G29, G30, G31, G32]; exact w) | (first | (intro z; exfalso; omega) | (intro z y; exfalso; omega) | exact fun _ => frx | (intro z y; exact frx (by omega)) | (intro z y; have w := frx (by omega); rw [W7, W13, W14, W24, G13, G14, G15, G16, G27, G28, G29, G30, G31, G32]; exact w)) | fail)), (show 3 = 0 → 6 ≤ (σ.1 35) → J_sp (σ.1 24) (σ.1 21) (σ.1 23) (σ.1 22) (σ.2.1 49) (σ.2.1 51) ∧ ((σ.1 16) + (σ.1 21) ≤ 20000) ∧ (¬ (σ.1 27) = 0 → 1 ≤ (σ.1 21) ∧ 0 ≤ σ.2.1 49 ((σ.1 21) - 1) ∧ σ.2.1 49 ((σ.1 21) - 1) < 65536) ∧ ((σ.1 26) ≤ 1000000) ∧ ((σ.1 25) ≤ 2 → (σ.1 27) = 0) from by (first | (intro z; exfalso; omega) | exact q34_21 | exact q37_21 | exact q40_21 | (intro z y; exact ⟨q31_2 z, q31_3 z, q31_4 z, q31_5 z, q31_6 z⟩) | (first | (intro z; exfalso; omega) | (intro z y; exfalso; omega) | exact fun _ => spx | (intro z y; exact spx (by omega))) | fail)), (show 3 = 0 → (σ.1 15) ≤ (σ.1 16) ∧ σ.2.1 36 (σ.1 15) ≤ (σ.1 16) from by (first | (intro z; exfalso; omega) | exact q34_22 | exact q37_22 | exact q40_22 | (intro z; first | exact sux | omega) | fail)), (show 3 = 0 → (σ.1 9) ≤ (σ.1 7) from by (first | (intro z; exfalso; omega) | exact q34_23 | exact q37_23 | exact q40_23 | (intro z; omega) | fail)), (show j_rr ((σ.1 5)) (σ.2.1 10) (σ.2.1 10) from by (first | exact j_rr0 _ _ | exact q34_24 | exact q37_24 | exact q40_24 | (rw [G10]; exact j_rr0 _ _) | fail)), (show j_eq (σ.2.1 36 (σ.1 15)) (σ.2.1 37) (σ.2.1 37) from CH), (show (σ.1 12) ≤ (σ.1 12) + 1 from by (first | assumption | omega | (simp only [st_s] <;> omega) | fail)), (show c_Y σ σ from by (first | exact c_Y0 _ | exact c_Y_g W4 G11 G20 G22 G25 | exact q34_27 | exact q37_27 | exact q40_27 | exact c_Y_g (by omega) (by rw [g11_τ33]) (by rw [g20_τ33]) (by rw [g22_τ33]) (by rw [g25_τ33]) | fail)), ag⟩
            ·
              refine ⟨_, K_X7_keyword hT (show J_ht (σ.1 3) (σ.2.1 2) (σ.2.1 3) (σ.2.1 5) (σ.2.1 6) from HT) (show J_mn (σ.1 3) (σ.1 5) ((σ.1 7) + 1) (σ.2.1 4) from MN) (show J_rks (σ.1 5) (σ.1 4) (σ.2.1 10) (σ.2.1 11) from RKS) (show J_vs (σ.1 8) (σ.1 5) (σ.2.1 20) from VS) (show J_vs (σ.1 6) (σ.1 5) (σ.2.1 15) from TX) (show J_va (σ.1 8) 1000 (σ.2.1 18) (σ.2.1 20) from VA) (show J_mk (σ.1 11) (σ.1 8) (σ.1 9) (σ.1 10) (σ.2.1 25) from MK) (show J_sc (σ.1 7) (σ.1 9) (σ.2.1 13) (σ.2.1 14) (σ.2.1 15) (σ.2.1 16) (σ.2.1 22) (σ.2.1 19) from SC) (show J_ff (σ.1 5) (σ.1 7) (σ.2.1 9) (σ.2.1 13) (σ.2.1 14) (σ.2.1 15) from FF) (show ∀ s : Int, σ.2.1 26 s ≤ (σ.1 12) from MT) (show J_all (σ.1 7) (σ.1 6) (σ.1 13) (σ.1 14) (σ.1 15) (σ.2.1 13) (σ.2.1 14) (σ.2.1 15) (σ.2.1 16) (σ.2.1 10) (σ.2.1 27) (σ.2.1 28) (σ.2.1 29) (σ.2.1 30) (σ.2.1 31) (σ.2.1 32) (σ.2.1 33) (σ.2.1 34) (σ.2.1 35) (σ.2.1 36) (σ.2.1 37) from CJ) (show J_bp (σ.2.1 44) (σ.2.1 45) from BP) (show J_nl (σ.1 3) (σ.2.1 2) (σ.2.1 3) (σ.2.1 4) from NL) (show J_rs (σ.1 35) (σ.1 7) (σ.1 6) (σ.1 36) (σ.1 37) (σ.1 5) (σ.1 8) (σ.2.1 14) from RS) (show 5 ≤ (σ.1 35) → 1 ≤ (σ.1 36) → 0 ≤ σ.2.1 10 (σ.2.1 15 (σ.2.1 14 (σ.1 7))) from by (first | assumption | omega | (simp only [st_s] <;> omega) | fail)) (show (σ.1 35) = 4 → j_in (σ.1 36) 1000 (σ.2.1 54) from by (first | assumption | omega | (simp only [st_s] <;> omega) | fail)) (show 5 ≤ (σ.1 35) → J_ip (σ.1 7) (σ.1 6) (σ.1 37) (σ.2.1 14) (σ.2.1 15) (σ.2.1 16) (σ.2.1 19) from by (first | assumption | omega | (simp only [st_s] <;> omega) | fail)) (show ((σ.1 35) ≤ 5 → (σ.1 13) ≤ 60 * (σ.1 7)) ∧ (σ.1 13) ≤ 60 * (σ.1 7) + 60 from by (first | assumption | omega | (simp only [st_s] <;> omega) | fail)) (show 6 ≤ (σ.1 35) → (σ.1 24) = (σ.1 7) ∧ J_f (σ.1 7) (σ.1 13) (σ.1 14) (σ.2.1 13) (σ.2.1 14) (σ.2.1 15) (σ.2.1 16) (σ.2.1 27) (σ.2.1 28) (σ.2.1 29) (σ.2.1 30) (σ.2.1 31) (σ.2.1 32) from by (first | assumption | omega | (simp only [st_s] <;> omega) | fail)) (show 6 ≤ (σ.1 35) → J_sp (σ.1 24) (σ.1 21) (σ.1 23) (σ.1 22) (σ.2.1 49) (σ.2.1 51) ∧ ((σ.1 16) + (σ.1 21) ≤ 20000) ∧ (¬ (σ.1 27) = 0 → 1 ≤ (σ.1 21) ∧ 0 ≤ σ.2.1 49 ((σ.1 21) - 1) ∧ σ.2.1 49 ((σ.1 21) - 1) < 65536) ∧ ((σ.1 26) ≤ 1000000) ∧ ((σ.1 25) ≤ 2 → (σ.1 27) = 0) from by (first | assumption | omega | (simp only [st_s] <;> omega) | fail)) (show (σ.1 15) ≤ (σ.1 16) ∧ σ.2.1 36 (σ.1 15) ≤ (σ.1 16) from by (first | assumption | omega | (simp only [st_s] <;> omega) | fail)) (show (σ.1 9) ≤ (σ.1 7) from by (first | assumption | omega | (simp only [st_s] <;> omega) | fail)) (show (σ.1 12) < 2147483647 from by (first | assumption | omega | (simp only [st_s] <;> omega) | fail)), ?_⟩
              intro x38 τ39 r_x38 hn_τ39 hf_τ39 hq
              obtain ⟨hT, q37_1, q37_2, q37_3, q37_4, q37_5, q37_6, q37_7, q37_8, q37_9, q37_10, q37_11, q37_12, q37_13, q37_14, q37_15, q37_16, q37_17, q37_18, q37_19, q37_20, q37_21, q37_22, q37_23, q37_24, q37_25, q37_26, q37_27, q37_28⟩ := hq
              replace q37_1 : 0 ≤ x38 ∧ x38 ≤ 19 := q37_1
              replace q37_2 : J_ht (τ39.1 3) (τ39.2.1 2) (τ39.2.1 3) (τ39.2.1 5) (τ39.2.1 6) := q37_2
              replace q37_3 : J_mn (τ39.1 3) (τ39.1 5) ((τ39.1 7) + 1) (τ39.2.1 4) := q37_3
              replace q37_4 : J_rks (τ39.1 5) (τ39.1 4) (τ39.2.1 10) (τ39.2.1 11) := q37_4
              replace q37_5 : J_vs (τ39.1 8) (τ39.1 5) (τ39.2.1 20) := q37_5
              replace q37_6 : J_vs (τ39.1 6) (τ39.1 5) (τ39.2.1 15) := q37_6
              replace q37_7 : J_va (τ39.1 8) 1000 (τ39.2.1 18) (τ39.2.1 20) := q37_7
              replace q37_8 : J_mk (τ39.1 11) (τ39.1 8) (τ39.1 9) (τ39.1 10) (τ39.2.1 25) := q37_8
              replace q37_9 : J_sc (τ39.1 7) (τ39.1 9) (τ39.2.1 13) (τ39.2.1 14) (τ39.2.1 15) (τ39.2.1 16) (τ39.2.1 22) (τ39.2.1 19) := q37_9
              replace q37_10 : J_ff (τ39.1 5) (τ39.1 7) (τ39.2.1 9) (τ39.2.1 13) (τ39.2.1 14) (τ39.2.1 15) := q37_10
              replace q37_11 : ∀ s : Int, τ39.2.1 26 s ≤ (τ39.1 12) := q37_11
              replace q37_12 : J_all (τ39.1 7) (τ39.1 6) (τ39.1 13) (τ39.1 14) (τ39.1 15) (τ39.2.1 13) (τ39.2.1 14) (τ39.2.1 15) (τ39.2.1 16) (τ39.2.1 10) (τ39.2.1 27) (τ39.2.1 28) (τ39.2.1 29) (τ39.2.1 30) (τ39.2.1 31) (τ39.2.1 32) (τ39.2.1 33) (τ39.2.1 34) (τ39.2.1 35) (τ39.2.1 36) (τ39.2.1 37) := q37_12
              replace q37_13 : J_bp (τ39.2.1 44) (τ39.2.1 45) := q37_13
              replace q37_14 : J_nl (τ39.1 3) (τ39.2.1 2) (τ39.2.1 3) (τ39.2.1 4) := q37_14
              replace q37_15 : x38 = 0 → J_rs (τ39.1 35) (τ39.1 7) (τ39.1 6) (τ39.1 36) (τ39.1 37) (τ39.1 5) (τ39.1 8) (τ39.2.1 14) := q37_15
              replace q37_16 : x38 = 0 → 5 ≤ (τ39.1 35) → 1 ≤ (τ39.1 36) → 0 ≤ τ39.2.1 10 (τ39.2.1 15 (τ39.2.1 14 (τ39.1 7))) := q37_16
              replace q37_17 : x38 = 0 → (τ39.1 35) = 4 → j_in (τ39.1 36) 1000 (τ39.2.1 54) := q37_17
              replace q37_18 : x38 = 0 → 5 ≤ (τ39.1 35) → J_ip (τ39.1 7) (τ39.1 6) (τ39.1 37) (τ39.2.1 14) (τ39.2.1 15) (τ39.2.1 16) (τ39.2.1 19) := q37_18
              replace q37_19 : x38 = 0 → ((τ39.1 35) ≤ 5 → (τ39.1 13) ≤ 60 * (τ39.1 7)) ∧ (τ39.1 13) ≤ 60 * (τ39.1 7) + 60 := q37_19
              replace q37_20 : x38 = 0 → 6 ≤ (τ39.1 35) → (τ39.1 24) = (τ39.1 7) ∧ J_f (τ39.1 7) (τ39.1 13) (τ39.1 14) (τ39.2.1 13) (τ39.2.1 14) (τ39.2.1 15) (τ39.2.1 16) (τ39.2.1 27) (τ39.2.1 28) (τ39.2.1 29) (τ39.2.1 30) (τ39.2.1 31) (τ39.2.1 32) := q37_20
              replace q37_21 : x38 = 0 → 6 ≤ (τ39.1 35) → J_sp (τ39.1 24) (τ39.1 21) (τ39.1 23) (τ39.1 22) (τ39.2.1 49) (τ39.2.1 51) ∧ ((τ39.1 16) + (τ39.1 21) ≤ 20000) ∧ (¬ (τ39.1 27) = 0 → 1 ≤ (τ39.1 21) ∧ 0 ≤ τ39.2.1 49 ((τ39.1 21) - 1) ∧ τ39.2.1 49 ((τ39.1 21) - 1) < 65536) ∧ ((τ39.1 26) ≤ 1000000) ∧ ((τ39.1 25) ≤ 2 → (τ39.1 27) = 0) := q37_21
              replace q37_22 : x38 = 0 → (τ39.1 15) ≤ (τ39.1 16) ∧ τ39.2.1 36 (τ39.1 15) ≤ (τ39.1 16) := q37_22
              replace q37_23 : x38 = 0 → (τ39.1 9) ≤ (τ39.1 7) := q37_23
              replace q37_24 : j_rr ((σ.1 5)) (σ.2.1 10) (τ39.2.1 10) := q37_24
              replace q37_25 : j_eq (σ.2.1 36 (σ.1 15)) (σ.2.1 37) (τ39.2.1 37) := q37_25
              replace q37_26 : (τ39.1 12) ≤ (σ.1 12) + 1 := q37_26
              replace q37_27 : c_Y σ τ39 := q37_27
              replace q37_28 : c_ag σ τ39 := q37_28
              replace ag : c_ag σ τ39 := ag_t ag q37_28 rfl
              have w3_τ39 : τ39.1 3 = σ.1 3 := hf_τ39.1 3 (by decide)
              have w4_τ39 : τ39.1 4 = σ.1 4 := hf_τ39.1 4 (by decide)
              have w5_τ39 : τ39.1 5 = σ.1 5 := hf_τ39.1 5 (by decide)
              have w6_τ39 : τ39.1 6 = σ.1 6 := hf_τ39.1 6 (by decide)
              have w7_τ39 : τ39.1 7 = σ.1 7 := hf_τ39.1 7 (by decide)
              have w15_τ39 : τ39.1 15 = σ.1 15 := hf_τ39.1 15 (by decide)
              have w16_τ39 : τ39.1 16 = σ.1 16 := hf_τ39.1 16 (by decide)
              have w29_τ39 : τ39.1 29 = σ.1 29 := hf_τ39.1 29 (by decide)
              have w34_τ39 : τ39.1 34 = σ.1 34 := hf_τ39.1 34 (by decide)
              have w38_τ39 : τ39.1 38 = σ.1 38 := hf_τ39.1 38 (by decide)
              have w66_τ39 : τ39.1 66 = σ.1 66 := hf_τ39.1 66 (by decide)
              have g2_τ39 : τ39.2.1 2 = σ.2.1 2 := hf_τ39.2.1 2 (by decide)
              have g3_τ39 : τ39.2.1 3 = σ.2.1 3 := hf_τ39.2.1 3 (by decide)
              have g4_τ39 : τ39.2.1 4 = σ.2.1 4 := hf_τ39.2.1 4 (by decide)
              have g5_τ39 : τ39.2.1 5 = σ.2.1 5 := hf_τ39.2.1 5 (by decide)
              have g6_τ39 : τ39.2.1 6 = σ.2.1 6 := hf_τ39.2.1 6 (by decide)
              have g8_τ39 : τ39.2.1 8 = σ.2.1 8 := hf_τ39.2.1 8 (by decide)
              have g9_τ39 : τ39.2.1 9 = σ.2.1 9 := hf_τ39.2.1 9 (by decide)
              have g10_τ39 : τ39.2.1 10 = σ.2.1 10 := hf_τ39.2.1 10 (by decide)
              have g11_τ39 : τ39.2.1 11 = σ.2.1 11 := hf_τ39.2.1 11 (by decide)
              have g13_τ39 : τ39.2.1 13 = σ.2.1 13 := hf_τ39.2.1 13 (by decide)
              have g14_τ39 : τ39.2.1 14 = σ.2.1 14 := hf_τ39.2.1 14 (by decide)
              have g15_τ39 : τ39.2.1 15 = σ.2.1 15 := hf_τ39.2.1 15 (by decide)
              have g16_τ39 : τ39.2.1 16 = σ.2.1 16 := hf_τ39.2.1 16 (by decide)
              have g20_τ39 : τ39.2.1 20 = σ.2.1 20 := hf_τ39.2.1 20 (by decide)
              have g22_τ39 : τ39.2.1 22 = σ.2.1 22 := hf_τ39.2.1 22 (by decide)
              have g23_τ39 : τ39.2.1 23 = σ.2.1 23 := hf_τ39.2.1 23 (by decide)
              have g24_τ39 : τ39.2.1 24 = σ.2.1 24 := hf_τ39.2.1 24 (by decide)
              have g33_τ39 : τ39.2.1 33 = σ.2.1 33 := hf_τ39.2.1 33 (by decide)
              have g34_τ39 : τ39.2.1 34 = σ.2.1 34 := hf_τ39.2.1 34 (by decide)
              have g35_τ39 : τ39.2.1 35 = σ.2.1 35 := hf_τ39.2.1 35 (by decide)
              have g36_τ39 : τ39.2.1 36 = σ.2.1 36 := hf_τ39.2.1 36 (by decide)
              have g37_τ39 : τ39.2.1 37 = σ.2.1 37 := hf_τ39.2.1 37 (by decide)
              have g44_τ39 : τ39.2.1 44 = σ.2.1 44 := hf_τ39.2.1 44 (by decide)
              have g45_τ39 : τ39.2.1 45 = σ.2.1 45 := hf_τ39.2.1 45 (by decide)
              have g49_τ39 : τ39.2.1 49 = σ.2.1 49 := hf_τ39.2.1 49 (by decide)
              have g51_τ39 : τ39.2.1 51 = σ.2.1 51 := hf_τ39.2.1 51 (by decide)
              have g54_τ39 : τ39.2.1 54 = σ.2.1 54 := hf_τ39.2.1 54 (by decide)
              have W15 : τ39.1 15 = σ.1 15 := by omega
              have W16 : τ39.1 16 = σ.1 16 := by omega
              have W66 : τ39.1 66 = σ.1 66 := by omega
              have G33 : τ39.2.1 33 = σ.2.1 33 := (g33_τ39).trans G33
              have G34 : τ39.2.1 34 = σ.2.1 34 := (g34_τ39).trans G34
              have G35 : τ39.2.1 35 = σ.2.1 35 := (g35_τ39).trans G35
              have G36 : τ39.2.1 36 = σ.2.1 36 := (g36_τ39).trans G36
              have G37 : τ39.2.1 37 = σ.2.1 37 := (g37_τ39).trans G37
              have G44 : τ39.2.1 44 = σ.2.1 44 := (g44_τ39).trans G44
              have G45 : τ39.2.1 45 = σ.2.1 45 := (g45_τ39).trans G45
              have y14_7_τ39 : τ39.2.1 14 (τ39.1 7) = (σ.2.1 14) (σ.1 7) := by rw [g14_τ39, w7_τ39]
              have y36_15_τ39 : τ39.2.1 36 (τ39.1 15) = (σ.2.1 36) (σ.1 15) := by rw [g36_τ39, w15_τ39]
              have HT : J_ht (τ39.1 3) (τ39.2.1 2) (τ39.2.1 3) (τ39.2.1 5) (τ39.2.1 6) := q37_2
              have NL : J_nl (τ39.1 3) (τ39.2.1 2) (τ39.2.1 3) (τ39.2.1 4) := q37_14
              have MN : J_mn (τ39.1 3) (τ39.1 5) ((τ39.1 7) + 1) (τ39.2.1 4) := q37_3
              have VA : J_va (τ39.1 8) 1000 (τ39.2.1 18) (τ39.2.1 20) := q37_7
              have SC : J_sc (τ39.1 7) (τ39.1 9) (τ39.2.1 13) (τ39.2.1 14) (τ39.2.1 15) (τ39.2.1 16) (τ39.2.1 22) (τ39.2.1 19) := q37_9
              have MK : J_mk (τ39.1 11) (τ39.1 8) (τ39.1 9) (τ39.1 10) (τ39.2.1 25) := q37_8
              have FF : J_ff (τ39.1 5) (τ39.1 7) (τ39.2.1 9) (τ39.2.1 13) (τ39.2.1 14) (τ39.2.1 15) := q37_10
              have MT : ∀ s : Int, τ39.2.1 26 s ≤ (τ39.1 12) := q37_11
              have VS : J_vs (τ39.1 8) (τ39.1 5) (τ39.2.1 20) := q37_5
              have TX : J_vs (τ39.1 6) (τ39.1 5) (τ39.2.1 15) := q37_6
              have RKS : J_rks (τ39.1 5) (τ39.1 4) (τ39.2.1 10) (τ39.2.1 11) := q37_4
              have CJ : J_all (τ39.1 7) (τ39.1 6) (τ39.1 13) (τ39.1 14) (τ39.1 15) (τ39.2.1 13) (τ39.2.1 14) (τ39.2.1 15) (τ39.2.1 16) (τ39.2.1 10) (τ39.2.1 27) (τ39.2.1 28) (τ39.2.1 29) (τ39.2.1 30) (τ39.2.1 31) (τ39.2.1 32) (τ39.2.1 33) (τ39.2.1 34) (τ39.2.1 35) (τ39.2.1 36) (τ39.2.1 37) := q37_12
              have BP : J_bp (τ39.2.1 44) (τ39.2.1 45) := q37_13
              have CH : j_eq (σ.2.1 36 (σ.1 15)) (σ.2.1 37) (τ39.2.1 37) := by rw [show (j_eq (σ.2.1 36 (σ.1 15)) (σ.2.1 37) (τ39.2.1 37)) = (j_eq (σ.2.1 36 (σ.1 15)) (σ.2.1 37) (σ.2.1 37)) from by rw [g37_τ39]]; exact CH
              have A2 : ∀ j, 0 ≤ τ39.2.1 2 j ∧ τ39.2.1 2 j ≤ 65535 := fun j => hT.2 2 j
              have A3 : ∀ j, 0 ≤ τ39.2.1 3 j ∧ τ39.2.1 3 j ≤ 30000 := fun j => hT.2 3 j
              have A4 : ∀ j, (-1000) ≤ τ39.2.1 4 j ∧ τ39.2.1 4 j ≤ 1499 := fun j => hT.2 4 j
              have A5 : ∀ j, 0 ≤ τ39.2.1 5 j ∧ τ39.2.1 5 j ≤ 2500 := fun j => hT.2 5 j
              have A6 : ∀ j, 0 ≤ τ39.2.1 6 j ∧ τ39.2.1 6 j ≤ 2500 := fun j => hT.2 6 j
              have A8 : ∀ j, 0 ≤ τ39.2.1 8 j ∧ τ39.2.1 8 j ≤ 1 := fun j => hT.2 8 j
              have A9 : ∀ j, (-1) ≤ τ39.2.1 9 j ∧ τ39.2.1 9 j ≤ 1499 := fun j => hT.2 9 j
              have A10 : ∀ j, (-1) ≤ τ39.2.1 10 j ∧ τ39.2.1 10 j ≤ 99 := fun j => hT.2 10 j
              have A11 : ∀ j, 0 ≤ τ39.2.1 11 j ∧ τ39.2.1 11 j ≤ 999 := fun j => hT.2 11 j
              have A13 : ∀ j, 0 ≤ τ39.2.1 13 j ∧ τ39.2.1 13 j ≤ 4 := fun j => hT.2 13 j
              have A14 : ∀ j, 0 ≤ τ39.2.1 14 j ∧ τ39.2.1 14 j ≤ 30000 := fun j => hT.2 14 j
              have A15 : ∀ j, 0 ≤ τ39.2.1 15 j ∧ τ39.2.1 15 j ≤ 999 := fun j => hT.2 15 j
              have A16 : ∀ j, (-1) ≤ τ39.2.1 16 j ∧ τ39.2.1 16 j ≤ 1499 := fun j => hT.2 16 j
              have A18 : ∀ j, 0 ≤ τ39.2.1 18 j ∧ τ39.2.1 18 j ≤ 1 := fun j => hT.2 18 j
              have A19 : ∀ j, (-1) ≤ τ39.2.1 19 j ∧ τ39.2.1 19 j ≤ 1499 := fun j => hT.2 19 j
              have A20 : ∀ j, 0 ≤ τ39.2.1 20 j ∧ τ39.2.1 20 j ≤ 999 := fun j => hT.2 20 j
              have A22 : ∀ j, 0 ≤ τ39.2.1 22 j ∧ τ39.2.1 22 j ≤ 1499 := fun j => hT.2 22 j
              have A23 : ∀ j, 0 ≤ τ39.2.1 23 j ∧ τ39.2.1 23 j ≤ 999 := fun j => hT.2 23 j
              have A24 : ∀ j, 0 ≤ τ39.2.1 24 j ∧ τ39.2.1 24 j ≤ 999 := fun j => hT.2 24 j
              have A26 : ∀ j, (-2147483648) ≤ τ39.2.1 26 j ∧ τ39.2.1 26 j ≤ 2147483647 := fun j => hT.2 26 j
              have A27 : ∀ j, 0 ≤ τ39.2.1 27 j ∧ τ39.2.1 27 j ≤ 90000 := fun j => hT.2 27 j
              have A28 : ∀ j, 0 ≤ τ39.2.1 28 j ∧ τ39.2.1 28 j ≤ 60 := fun j => hT.2 28 j
              have A29 : ∀ j, 0 ≤ τ39.2.1 29 j ∧ τ39.2.1 29 j ≤ 1499 := fun j => hT.2 29 j
              have A30 : ∀ j, 0 ≤ τ39.2.1 30 j ∧ τ39.2.1 30 j ≤ 20000 := fun j => hT.2 30 j
              have A31 : ∀ j, 0 ≤ τ39.2.1 31 j ∧ τ39.2.1 31 j ≤ 20000 := fun j => hT.2 31 j
              have A32 : ∀ j, 0 ≤ τ39.2.1 32 j ∧ τ39.2.1 32 j ≤ 999999 := fun j => hT.2 32 j
              have A33 : ∀ j, 0 ≤ τ39.2.1 33 j ∧ τ39.2.1 33 j ≤ 20000 := fun j => hT.2 33 j
              have A34 : ∀ j, 0 ≤ τ39.2.1 34 j ∧ τ39.2.1 34 j ≤ 20000 := fun j => hT.2 34 j
              have A35 : ∀ j, 0 ≤ τ39.2.1 35 j ∧ τ39.2.1 35 j ≤ 1499 := fun j => hT.2 35 j
              have A36 : ∀ j, 0 ≤ τ39.2.1 36 j ∧ τ39.2.1 36 j ≤ 20000 := fun j => hT.2 36 j
              have A37 : ∀ j, 0 ≤ τ39.2.1 37 j ∧ τ39.2.1 37 j ≤ 19999 := fun j => hT.2 37 j
              have A44 : ∀ j, 0 ≤ τ39.2.1 44 j ∧ τ39.2.1 44 j ≤ 42000 := fun j => hT.2 44 j
              have A45 : ∀ j, 0 ≤ τ39.2.1 45 j ∧ τ39.2.1 45 j ≤ 1000 := fun j => hT.2 45 j
              have A49 : ∀ j, (-300) ≤ τ39.2.1 49 j ∧ τ39.2.1 49 j ≤ 67035 := fun j => hT.2 49 j
              have A51 : ∀ j, 0 ≤ τ39.2.1 51 j ∧ τ39.2.1 51 j ≤ 1499 := fun j => hT.2 51 j
              have A54 : ∀ j, 0 ≤ τ39.2.1 54 j ∧ τ39.2.1 54 j ≤ 999 := fun j => hT.2 54 j
              have v3 : 0 ≤ τ39.1 3 ∧ τ39.1 3 ≤ 2500 := hT.1 3
              have v4 : 0 ≤ τ39.1 4 ∧ τ39.1 4 ≤ 100 := hT.1 4
              have v5 : 0 ≤ τ39.1 5 ∧ τ39.1 5 ≤ 1000 := hT.1 5
              have v6 : 0 ≤ τ39.1 6 ∧ τ39.1 6 ≤ 30000 := hT.1 6
              have v7 : 0 ≤ τ39.1 7 ∧ τ39.1 7 ≤ 1500 := hT.1 7
              have v8 : 0 ≤ τ39.1 8 ∧ τ39.1 8 ≤ 1000 := hT.1 8
              have v9 : 0 ≤ τ39.1 9 ∧ τ39.1 9 ≤ 1500 := hT.1 9
              have v10 : 0 ≤ τ39.1 10 ∧ τ39.1 10 ≤ 1000 := hT.1 10
              have v11 : 0 ≤ τ39.1 11 ∧ τ39.1 11 ≤ 50 := hT.1 11
              have v12 : (-2147483648) ≤ τ39.1 12 ∧ τ39.1 12 ≤ 2147483647 := hT.1 12
              have v13 : 0 ≤ τ39.1 13 ∧ τ39.1 13 ≤ 90000 := hT.1 13
              have v14 : 0 ≤ τ39.1 14 ∧ τ39.1 14 ≤ 20000 := hT.1 14
              have v15 : 0 ≤ τ39.1 15 ∧ τ39.1 15 ≤ 20000 := hT.1 15
              have v16 : 0 ≤ τ39.1 16 ∧ τ39.1 16 ≤ 20000 := hT.1 16
              have v21 : 0 ≤ τ39.1 21 ∧ τ39.1 21 ≤ 20000 := hT.1 21
              have v22 : 0 ≤ τ39.1 22 ∧ τ39.1 22 ≤ 300 := hT.1 22
              have v23 : 0 ≤ τ39.1 23 ∧ τ39.1 23 ≤ 300 := hT.1 23
              have v24 : 0 ≤ τ39.1 24 ∧ τ39.1 24 ≤ 1499 := hT.1 24
              have v25 : 0 ≤ τ39.1 25 ∧ τ39.1 25 ≤ 3 := hT.1 25
              have v26 : 0 ≤ τ39.1 26 ∧ τ39.1 26 ≤ 5000010 := hT.1 26
              have v27 : 0 ≤ τ39.1 27 ∧ τ39.1 27 ≤ 1 := hT.1 27
              have v29 : 0 ≤ τ39.1 29 ∧ τ39.1 29 ≤ 60000 := hT.1 29
              have v34 : 0 ≤ τ39.1 34 ∧ τ39.1 34 ≤ 1 := hT.1 34
              have v35 : 0 ≤ τ39.1 35 ∧ τ39.1 35 ≤ 7 := hT.1 35
              have v36 : 0 ≤ τ39.1 36 ∧ τ39.1 36 ≤ 1001 := hT.1 36
              have v37 : 0 ≤ τ39.1 37 ∧ τ39.1 37 ≤ 4 := hT.1 37
              have v38 : (-1) ≤ τ39.1 38 ∧ τ39.1 38 ≤ 999 := hT.1 38
              have v66 : 0 ≤ τ39.1 66 ∧ τ39.1 66 ≤ 1 := hT.1 66
              have a14_7 : 0 ≤ τ39.2.1 14 (τ39.1 7) ∧ τ39.2.1 14 (τ39.1 7) ≤ 30000 := hT.2 14 _
              have a36_15 : 0 ≤ τ39.2.1 36 (τ39.1 15) ∧ τ39.2.1 36 (τ39.1 15) ≤ 20000 := hT.2 36 _
              have av3 : σ.1 3 ≤ τ39.1 3 := ag.1 3 (by decide)
              have av5 : σ.1 5 ≤ τ39.1 5 := ag.1 5 (by decide)
              have av6 : σ.1 6 ≤ τ39.1 6 := ag.1 6 (by decide)
              have av7 : σ.1 7 ≤ τ39.1 7 := ag.1 7 (by decide)
              have av13 : σ.1 13 ≤ τ39.1 13 := ag.1 13 (by decide)
              have av14 : σ.1 14 ≤ τ39.1 14 := ag.1 14 (by decide)
              exact ⟨hT, (show 0 ≤ x38 ∧ x38 ≤ 19 from by (first | assumption | omega | (simp only [st_s] <;> omega) | fail)), (show J_ht (τ39.1 3) (τ39.2.1 2) (τ39.2.1 3) (τ39.2.1 5) (τ39.2.1 6) from HT), (show J_mn (τ39.1 3) (τ39.1 5) ((τ39.1 7) + 1) (τ39.2.1 4) from MN), (show J_rks (τ39.1 5) (τ39.1 4) (τ39.2.1 10) (τ39.2.1 11) from RKS), (show J_vs (τ39.1 8) (τ39.1 5) (τ39.2.1 20) from VS), (show J_vs (τ39.1 6) (τ39.1 5) (τ39.2.1 15) from TX), (show J_va (τ39.1 8) 1000 (τ39.2.1 18) (τ39.2.1 20) from VA), (show J_mk (τ39.1 11) (τ39.1 8) (τ39.1 9) (τ39.1 10) (τ39.2.1 25) from MK), (show J_sc (τ39.1 7) (τ39.1 9) (τ39.2.1 13) (τ39.2.1 14) (τ39.2.1 15) (τ39.2.1 16) (τ39.2.1 22) (τ39.2.1 19) from SC), (show J_ff (τ39.1 5) (τ39.1 7) (τ39.2.1 9) (τ39.2.1 13) (τ39.2.1 14) (τ39.2.1 15) from FF), (show ∀ s : Int, τ39.2.1 26 s ≤ (τ39.1 12) from MT), (show J_all (τ39.1 7) (τ39.1 6) (τ39.1 13) (τ39.1 14) (τ39.1 15) (τ39.2.1 13) (τ39.2.1 14) (τ39.2.1 15) (τ39.2.1 16) (τ39.2.1 10) (τ39.2.1 27) (τ39.2.1 28) (τ39.2.1 29) (τ39.2.1 30) (τ39.2.1 31) (τ39.2.1 32) (τ39.2.1 33) (τ39.2.1 34) (τ39.2.1 35) (τ39.2.1 36) (τ39.2.1 37) from CJ), (show J_bp (τ39.2.1 44) (τ39.2.1 45) from BP), (show J_nl (τ39.1 3) (τ39.2.1 2) (τ39.2.1 3) (τ39.2.1 4) from NL), (show x38 = 0 → J_rs (τ39.1 35) (τ39.1 7) (τ39.1 6) (τ39.1 36) (τ39.1 37) (τ39.1 5) (τ39.1 8) (τ39.2.1 14) from by (first | (intro z; exfalso; omega) | exact q34_15 | exact q37_15 | exact q40_15 | (first | (intro z; exfalso; omega) | (intro z; unfold J_rs; omega) | (intro z; unfold J_rs; rw [G14, W7]; omega)) | fail)), (show x38 = 0 → 5 ≤ (τ39.1 35) → 1 ≤ (τ39.1 36) → 0 ≤ τ39.2.1 10 (τ39.2.1 15 (τ39.2.1 14 (τ39.1 7))) from by (first | (intro z; exfalso; omega) | exact q34_16 | exact q37_16 | exact q40_16 | (first | (intro z; exfalso; omega) | (intro z y; exfalso; omega) | exact fun _ => uc | (intro z y y2; exact uc (by omega) (by omega)) | (intro z y y2; exfalso; omega) | (intro z y y2; rw [G10, G14, G15, W7]; exact uc (by omega) (by omega))) | fail)), (show x38 = 0 → (τ39.1 35) = 4 → j_in (τ39.1 36) 1000 (τ39.2.1 54) from by (first | (intro z; exfalso; omega) | exact q34_17 | exact q37_17 | exact q40_17 | (first | (intro z; exfalso; omega) | (intro z y; exfalso; omega) | exact fun _ => dj) | fail)), (show x38 = 0 → 5 ≤ (τ39.1 35) → J_ip (τ39.1 7) (τ39.1 6) (τ39.1 37) (τ39.2.1 14) (τ39.2.1 15) (τ39.2.1 16) (τ39.2.1 19) from by (first | (intro z; exfalso; omega) | exact q34_18 | exact q37_18 | exact q40_18 | (first | (intro z; exfalso; omega) | (intro z y; exfalso; omega) | exact fun _ => ipx | (intro z y; exact ipx (by omega)) | (intro z y; rw [W7, W6, W37, G14, G15, G16, G19]; exact ipx (by omega))) | fail)), (show x38 = 0 → ((τ39.1 35) ≤ 5 → (τ39.1 13) ≤ 60 * (τ39.1 7)) ∧ (τ39.1 13) ≤ 60 * (τ39.1 7) + 60 from by (first | (intro z; exfalso; omega) | exact q34_19 | exact q37_19 | exact q40_19 | (intro z; omega) | fail)), (show x38 = 0 → 6 ≤ (τ39.1 35) → (τ39.1 24) = (τ39.1 7) ∧ J_f (τ39.1 7) (τ39.1 13) (τ39.1 14) (τ39.2.1 13) (τ39.2.1 14) (τ39.2.1 15) (τ39.2.1 16) (τ39.2.1 27) (τ39.2.1 28) (τ39.2.1 29) (τ39.2.1 30) (τ39.2.1 31) (τ39.2.1 32) from by (first | (intro z; exfalso; omega) | exact q34_20 | exact q37_20 | exact q40_20 | (intro z y; have w := frx (by omega); rw [W7, W13, W14, w24_τ33, G13, G14, G15, G16, G27, G28, G29, G30, G31, G32]; exact w) | (first | (intro z; exfalso; omega) | (intro z y; exfalso; omega) | exact fun _ => frx | (intro z y; exact frx (by omega)) | (intro z y; have w := frx (by omega); rw [W7, W13, W14, W24, G13, G14, G15, G16, G27, G28, G29, G30, G31, G32]; exact w)) | fail)), (show x38 = 0 → 6 ≤ (τ39.1 35) → J_sp (τ39.1 24) (τ39.1 21) (τ39.1 23) (τ39.1 22) (τ39.2.1 49) (τ39.2.1 51) ∧ ((τ39.1 16) + (τ39.1 21) ≤ 20000) ∧ (¬ (τ39.1 27) = 0 → 1 ≤ (τ39.1 21) ∧ 0 ≤ τ39.2.1 49 ((τ39.1 21) - 1) ∧ τ39.2.1 49 ((τ39.1 21) - 1) < 65536) ∧ ((τ39.1 26) ≤ 1000000) ∧ ((τ39.1 25) ≤ 2 → (τ39.1 27) = 0) from by (first | (intro z; exfalso; omega) | exact q34_21 | exact q37_21 | exact q40_21 | (intro z y; exact ⟨q31_2 z, q31_3 z, q31_4 z, q31_5 z, q31_6 z⟩) | (first | (intro z; exfalso; omega) | (intro z y; exfalso; omega) | exact fun _ => spx | (intro z y; exact spx (by omega))) | fail)), (show x38 = 0 → (τ39.1 15) ≤ (τ39.1 16) ∧ τ39.2.1 36 (τ39.1 15) ≤ (τ39.1 16) from by (first | (intro z; exfalso; omega) | exact q34_22 | exact q37_22 | exact q40_22 | (intro z; first | exact sux | omega) | fail)), (show x38 = 0 → (τ39.1 9) ≤ (τ39.1 7) from by (first | (intro z; exfalso; omega) | exact q34_23 | exact q37_23 | exact q40_23 | (intro z; omega) | fail)), (show j_rr ((σ.1 5)) (σ.2.1 10) (τ39.2.1 10) from by (first | exact j_rr0 _ _ | exact q34_24 | exact q37_24 | exact q40_24 | (rw [G10]; exact j_rr0 _ _) | fail)), (show j_eq (σ.2.1 36 (σ.1 15)) (σ.2.1 37) (τ39.2.1 37) from CH), (show (τ39.1 12) ≤ (σ.1 12) + 1 from by (first | assumption | omega | (simp only [st_s] <;> omega) | fail)), (show c_Y σ τ39 from by (first | exact c_Y0 _ | exact c_Y_g W4 G11 G20 G22 G25 | exact q34_27 | exact q37_27 | exact q40_27 | exact c_Y_g (by omega) (by rw [g11_τ33]) (by rw [g20_τ33]) (by rw [g22_τ33]) (by rw [g25_τ33]) | fail)), ag⟩
          ·
            refine ⟨_, K_X7_endRow hT (show J_ht (σ.1 3) (σ.2.1 2) (σ.2.1 3) (σ.2.1 5) (σ.2.1 6) from HT) (show J_mn (σ.1 3) (σ.1 5) ((σ.1 7) + 1) (σ.2.1 4) from MN) (show J_rks (σ.1 5) (σ.1 4) (σ.2.1 10) (σ.2.1 11) from RKS) (show J_vs (σ.1 8) (σ.1 5) (σ.2.1 20) from VS) (show J_vs (σ.1 6) (σ.1 5) (σ.2.1 15) from TX) (show J_va (σ.1 8) 1000 (σ.2.1 18) (σ.2.1 20) from VA) (show J_mk (σ.1 11) (σ.1 8) (σ.1 9) (σ.1 10) (σ.2.1 25) from MK) (show J_sc (σ.1 7) (σ.1 9) (σ.2.1 13) (σ.2.1 14) (σ.2.1 15) (σ.2.1 16) (σ.2.1 22) (σ.2.1 19) from SC) (show J_ff (σ.1 5) (σ.1 7) (σ.2.1 9) (σ.2.1 13) (σ.2.1 14) (σ.2.1 15) from FF) (show ∀ s : Int, σ.2.1 26 s ≤ (σ.1 12) from MT) (show J_all (σ.1 7) (σ.1 6) (σ.1 13) (σ.1 14) (σ.1 15) (σ.2.1 13) (σ.2.1 14) (σ.2.1 15) (σ.2.1 16) (σ.2.1 10) (σ.2.1 27) (σ.2.1 28) (σ.2.1 29) (σ.2.1 30) (σ.2.1 31) (σ.2.1 32) (σ.2.1 33) (σ.2.1 34) (σ.2.1 35) (σ.2.1 36) (σ.2.1 37) from CJ) (show J_bp (σ.2.1 44) (σ.2.1 45) from BP) (show J_nl (σ.1 3) (σ.2.1 2) (σ.2.1 3) (σ.2.1 4) from NL) (show J_rs (σ.1 35) (σ.1 7) (σ.1 6) (σ.1 36) (σ.1 37) (σ.1 5) (σ.1 8) (σ.2.1 14) from RS) (show 5 ≤ (σ.1 35) → 1 ≤ (σ.1 36) → 0 ≤ σ.2.1 10 (σ.2.1 15 (σ.2.1 14 (σ.1 7))) from by (first | assumption | omega | (simp only [st_s] <;> omega) | fail)) (show (σ.1 35) = 4 → j_in (σ.1 36) 1000 (σ.2.1 54) from by (first | assumption | omega | (simp only [st_s] <;> omega) | fail)) (show 5 ≤ (σ.1 35) → J_ip (σ.1 7) (σ.1 6) (σ.1 37) (σ.2.1 14) (σ.2.1 15) (σ.2.1 16) (σ.2.1 19) from by (first | assumption | omega | (simp only [st_s] <;> omega) | fail)) (show ((σ.1 35) ≤ 5 → (σ.1 13) ≤ 60 * (σ.1 7)) ∧ (σ.1 13) ≤ 60 * (σ.1 7) + 60 from by (first | assumption | omega | (simp only [st_s] <;> omega) | fail)) (show 6 ≤ (σ.1 35) → (σ.1 24) = (σ.1 7) ∧ J_f (σ.1 7) (σ.1 13) (σ.1 14) (σ.2.1 13) (σ.2.1 14) (σ.2.1 15) (σ.2.1 16) (σ.2.1 27) (σ.2.1 28) (σ.2.1 29) (σ.2.1 30) (σ.2.1 31) (σ.2.1 32) from by (first | assumption | omega | (simp only [st_s] <;> omega) | fail)) (show 6 ≤ (σ.1 35) → J_sp (σ.1 24) (σ.1 21) (σ.1 23) (σ.1 22) (σ.2.1 49) (σ.2.1 51) ∧ ((σ.1 16) + (σ.1 21) ≤ 20000) ∧ (¬ (σ.1 27) = 0 → 1 ≤ (σ.1 21) ∧ 0 ≤ σ.2.1 49 ((σ.1 21) - 1) ∧ σ.2.1 49 ((σ.1 21) - 1) < 65536) ∧ ((σ.1 26) ≤ 1000000) ∧ ((σ.1 25) ≤ 2 → (σ.1 27) = 0) from by (first | assumption | omega | (simp only [st_s] <;> omega) | fail)) (show (σ.1 15) ≤ (σ.1 16) ∧ σ.2.1 36 (σ.1 15) ≤ (σ.1 16) from by (first | assumption | omega | (simp only [st_s] <;> omega) | fail)) (show (σ.1 9) ≤ (σ.1 7) from by (first | assumption | omega | (simp only [st_s] <;> omega) | fail)) (show (σ.1 12) < 2147483647 from by (first | assumption | omega | (simp only [st_s] <;> omega) | fail)), ?_⟩
            intro x41 τ42 r_x41 hn_τ42 hf_τ42 hq
            obtain ⟨hT, q40_1, q40_2, q40_3, q40_4, q40_5, q40_6, q40_7, q40_8, q40_9, q40_10, q40_11, q40_12, q40_13, q40_14, q40_15, q40_16, q40_17, q40_18, q40_19, q40_20, q40_21, q40_22, q40_23, q40_24, q40_25, q40_26, q40_27, q40_28⟩ := hq
            replace q40_1 : 0 ≤ x41 ∧ x41 ≤ 19 := q40_1
            replace q40_2 : J_ht (τ42.1 3) (τ42.2.1 2) (τ42.2.1 3) (τ42.2.1 5) (τ42.2.1 6) := q40_2
            replace q40_3 : J_mn (τ42.1 3) (τ42.1 5) ((τ42.1 7) + 1) (τ42.2.1 4) := q40_3
            replace q40_4 : J_rks (τ42.1 5) (τ42.1 4) (τ42.2.1 10) (τ42.2.1 11) := q40_4
            replace q40_5 : J_vs (τ42.1 8) (τ42.1 5) (τ42.2.1 20) := q40_5
            replace q40_6 : J_vs (τ42.1 6) (τ42.1 5) (τ42.2.1 15) := q40_6
            replace q40_7 : J_va (τ42.1 8) 1000 (τ42.2.1 18) (τ42.2.1 20) := q40_7
            replace q40_8 : J_mk (τ42.1 11) (τ42.1 8) (τ42.1 9) (τ42.1 10) (τ42.2.1 25) := q40_8
            replace q40_9 : J_sc (τ42.1 7) (τ42.1 9) (τ42.2.1 13) (τ42.2.1 14) (τ42.2.1 15) (τ42.2.1 16) (τ42.2.1 22) (τ42.2.1 19) := q40_9
            replace q40_10 : J_ff (τ42.1 5) (τ42.1 7) (τ42.2.1 9) (τ42.2.1 13) (τ42.2.1 14) (τ42.2.1 15) := q40_10
            replace q40_11 : ∀ s : Int, τ42.2.1 26 s ≤ (τ42.1 12) := q40_11
            replace q40_12 : J_all (τ42.1 7) (τ42.1 6) (τ42.1 13) (τ42.1 14) (τ42.1 15) (τ42.2.1 13) (τ42.2.1 14) (τ42.2.1 15) (τ42.2.1 16) (τ42.2.1 10) (τ42.2.1 27) (τ42.2.1 28) (τ42.2.1 29) (τ42.2.1 30) (τ42.2.1 31) (τ42.2.1 32) (τ42.2.1 33) (τ42.2.1 34) (τ42.2.1 35) (τ42.2.1 36) (τ42.2.1 37) := q40_12
            replace q40_13 : J_bp (τ42.2.1 44) (τ42.2.1 45) := q40_13
            replace q40_14 : J_nl (τ42.1 3) (τ42.2.1 2) (τ42.2.1 3) (τ42.2.1 4) := q40_14
            replace q40_15 : x41 = 0 → J_rs (τ42.1 35) (τ42.1 7) (τ42.1 6) (τ42.1 36) (τ42.1 37) (τ42.1 5) (τ42.1 8) (τ42.2.1 14) := q40_15
            replace q40_16 : x41 = 0 → 5 ≤ (τ42.1 35) → 1 ≤ (τ42.1 36) → 0 ≤ τ42.2.1 10 (τ42.2.1 15 (τ42.2.1 14 (τ42.1 7))) := q40_16
            replace q40_17 : x41 = 0 → (τ42.1 35) = 4 → j_in (τ42.1 36) 1000 (τ42.2.1 54) := q40_17
            replace q40_18 : x41 = 0 → 5 ≤ (τ42.1 35) → J_ip (τ42.1 7) (τ42.1 6) (τ42.1 37) (τ42.2.1 14) (τ42.2.1 15) (τ42.2.1 16) (τ42.2.1 19) := q40_18
            replace q40_19 : x41 = 0 → ((τ42.1 35) ≤ 5 → (τ42.1 13) ≤ 60 * (τ42.1 7)) ∧ (τ42.1 13) ≤ 60 * (τ42.1 7) + 60 := q40_19
            replace q40_20 : x41 = 0 → 6 ≤ (τ42.1 35) → (τ42.1 24) = (τ42.1 7) ∧ J_f (τ42.1 7) (τ42.1 13) (τ42.1 14) (τ42.2.1 13) (τ42.2.1 14) (τ42.2.1 15) (τ42.2.1 16) (τ42.2.1 27) (τ42.2.1 28) (τ42.2.1 29) (τ42.2.1 30) (τ42.2.1 31) (τ42.2.1 32) := q40_20
            replace q40_21 : x41 = 0 → 6 ≤ (τ42.1 35) → J_sp (τ42.1 24) (τ42.1 21) (τ42.1 23) (τ42.1 22) (τ42.2.1 49) (τ42.2.1 51) ∧ ((τ42.1 16) + (τ42.1 21) ≤ 20000) ∧ (¬ (τ42.1 27) = 0 → 1 ≤ (τ42.1 21) ∧ 0 ≤ τ42.2.1 49 ((τ42.1 21) - 1) ∧ τ42.2.1 49 ((τ42.1 21) - 1) < 65536) ∧ ((τ42.1 26) ≤ 1000000) ∧ ((τ42.1 25) ≤ 2 → (τ42.1 27) = 0) := q40_21
            replace q40_22 : x41 = 0 → (τ42.1 15) ≤ (τ42.1 16) ∧ τ42.2.1 36 (τ42.1 15) ≤ (τ42.1 16) := q40_22
            replace q40_23 : x41 = 0 → (τ42.1 9) ≤ (τ42.1 7) := q40_23
            replace q40_24 : j_rr ((σ.1 5)) (σ.2.1 10) (τ42.2.1 10) := q40_24
            replace q40_25 : j_eq (σ.2.1 36 (σ.1 15)) (σ.2.1 37) (τ42.2.1 37) := q40_25
            replace q40_26 : (τ42.1 12) ≤ (σ.1 12) + 1 := q40_26
            replace q40_27 : c_Y σ τ42 := q40_27
            replace q40_28 : c_ag σ τ42 := q40_28
            replace ag : c_ag σ τ42 := ag_t ag q40_28 rfl
            have w3_τ42 : τ42.1 3 = σ.1 3 := hf_τ42.1 3 (by decide)
            have w4_τ42 : τ42.1 4 = σ.1 4 := hf_τ42.1 4 (by decide)
            have w5_τ42 : τ42.1 5 = σ.1 5 := hf_τ42.1 5 (by decide)
            have w6_τ42 : τ42.1 6 = σ.1 6 := hf_τ42.1 6 (by decide)
            have w8_τ42 : τ42.1 8 = σ.1 8 := hf_τ42.1 8 (by decide)
            have w10_τ42 : τ42.1 10 = σ.1 10 := hf_τ42.1 10 (by decide)
            have w11_τ42 : τ42.1 11 = σ.1 11 := hf_τ42.1 11 (by decide)
            have w15_τ42 : τ42.1 15 = σ.1 15 := hf_τ42.1 15 (by decide)
            have w16_τ42 : τ42.1 16 = σ.1 16 := hf_τ42.1 16 (by decide)
            have w21_τ42 : τ42.1 21 = σ.1 21 := hf_τ42.1 21 (by decide)
            have w22_τ42 : τ42.1 22 = σ.1 22 := hf_τ42.1 22 (by decide)
            have w23_τ42 : τ42.1 23 = σ.1 23 := hf_τ42.1 23 (by decide)
            have w24_τ42 : τ42.1 24 = σ.1 24 := hf_τ42.1 24 (by decide)
            have w25_τ42 : τ42.1 25 = σ.1 25 := hf_τ42.1 25 (by decide)
            have w26_τ42 : τ42.1 26 = σ.1 26 := hf_τ42.1 26 (by decide)
            have w27_τ42 : τ42.1 27 = σ.1 27 := hf_τ42.1 27 (by decide)
            have w29_τ42 : τ42.1 29 = σ.1 29 := hf_τ42.1 29 (by decide)
            have w34_τ42 : τ42.1 34 = σ.1 34 := hf_τ42.1 34 (by decide)
            have w36_τ42 : τ42.1 36 = σ.1 36 := hf_τ42.1 36 (by decide)
            have w37_τ42 : τ42.1 37 = σ.1 37 := hf_τ42.1 37 (by decide)
            have w38_τ42 : τ42.1 38 = σ.1 38 := hf_τ42.1 38 (by decide)
            have w66_τ42 : τ42.1 66 = σ.1 66 := hf_τ42.1 66 (by decide)
            have g2_τ42 : τ42.2.1 2 = σ.2.1 2 := hf_τ42.2.1 2 (by decide)
            have g3_τ42 : τ42.2.1 3 = σ.2.1 3 := hf_τ42.2.1 3 (by decide)
            have g4_τ42 : τ42.2.1 4 = σ.2.1 4 := hf_τ42.2.1 4 (by decide)
            have g5_τ42 : τ42.2.1 5 = σ.2.1 5 := hf_τ42.2.1 5 (by decide)
            have g6_τ42 : τ42.2.1 6 = σ.2.1 6 := hf_τ42.2.1 6 (by decide)
            have g8_τ42 : τ42.2.1 8 = σ.2.1 8 := hf_τ42.2.1 8 (by decide)
            have g10_τ42 : τ42.2.1 10 = σ.2.1 10 := hf_τ42.2.1 10 (by decide)
            have g11_τ42 : τ42.2.1 11 = σ.2.1 11 := hf_τ42.2.1 11 (by decide)
            have g14_τ42 : τ42.2.1 14 = σ.2.1 14 := hf_τ42.2.1 14 (by decide)
            have g15_τ42 : τ42.2.1 15 = σ.2.1 15 := hf_τ42.2.1 15 (by decide)
            have g16_τ42 : τ42.2.1 16 = σ.2.1 16 := hf_τ42.2.1 16 (by decide)
            have g18_τ42 : τ42.2.1 18 = σ.2.1 18 := hf_τ42.2.1 18 (by decide)
            have g20_τ42 : τ42.2.1 20 = σ.2.1 20 := hf_τ42.2.1 20 (by decide)
            have g23_τ42 : τ42.2.1 23 = σ.2.1 23 := hf_τ42.2.1 23 (by decide)
            have g24_τ42 : τ42.2.1 24 = σ.2.1 24 := hf_τ42.2.1 24 (by decide)
            have g25_τ42 : τ42.2.1 25 = σ.2.1 25 := hf_τ42.2.1 25 (by decide)
            have g33_τ42 : τ42.2.1 33 = σ.2.1 33 := hf_τ42.2.1 33 (by decide)
            have g34_τ42 : τ42.2.1 34 = σ.2.1 34 := hf_τ42.2.1 34 (by decide)
            have g35_τ42 : τ42.2.1 35 = σ.2.1 35 := hf_τ42.2.1 35 (by decide)
            have g36_τ42 : τ42.2.1 36 = σ.2.1 36 := hf_τ42.2.1 36 (by decide)
            have g37_τ42 : τ42.2.1 37 = σ.2.1 37 := hf_τ42.2.1 37 (by decide)
            have g44_τ42 : τ42.2.1 44 = σ.2.1 44 := hf_τ42.2.1 44 (by decide)
            have g45_τ42 : τ42.2.1 45 = σ.2.1 45 := hf_τ42.2.1 45 (by decide)
            have g49_τ42 : τ42.2.1 49 = σ.2.1 49 := hf_τ42.2.1 49 (by decide)
            have g51_τ42 : τ42.2.1 51 = σ.2.1 51 := hf_τ42.2.1 51 (by decide)
            have g54_τ42 : τ42.2.1 54 = σ.2.1 54 := hf_τ42.2.1 54 (by decide)
            have W15 : τ42.1 15 = σ.1 15 := by omega
            have W16 : τ42.1 16 = σ.1 16 := by omega
            have W66 : τ42.1 66 = σ.1 66 := by omega
            have G33 : τ42.2.1 33 = σ.2.1 33 := (g33_τ42).trans G33
            have G34 : τ42.2.1 34 = σ.2.1 34 := (g34_τ42).trans G34
            have G35 : τ42.2.1 35 = σ.2.1 35 := (g35_τ42).trans G35
            have G36 : τ42.2.1 36 = σ.2.1 36 := (g36_τ42).trans G36
            have G37 : τ42.2.1 37 = σ.2.1 37 := (g37_τ42).trans G37
            have G44 : τ42.2.1 44 = σ.2.1 44 := (g44_τ42).trans G44
            have G45 : τ42.2.1 45 = σ.2.1 45 := (g45_τ42).trans G45
            have y36_15_τ42 : τ42.2.1 36 (τ42.1 15) = (σ.2.1 36) (σ.1 15) := by rw [g36_τ42, w15_τ42]
            have HT : J_ht (τ42.1 3) (τ42.2.1 2) (τ42.2.1 3) (τ42.2.1 5) (τ42.2.1 6) := q40_2
            have NL : J_nl (τ42.1 3) (τ42.2.1 2) (τ42.2.1 3) (τ42.2.1 4) := q40_14
            have MN : J_mn (τ42.1 3) (τ42.1 5) ((τ42.1 7) + 1) (τ42.2.1 4) := q40_3
            have VA : J_va (τ42.1 8) 1000 (τ42.2.1 18) (τ42.2.1 20) := q40_7
            have SC : J_sc (τ42.1 7) (τ42.1 9) (τ42.2.1 13) (τ42.2.1 14) (τ42.2.1 15) (τ42.2.1 16) (τ42.2.1 22) (τ42.2.1 19) := q40_9
            have MK : J_mk (τ42.1 11) (τ42.1 8) (τ42.1 9) (τ42.1 10) (τ42.2.1 25) := q40_8
            have FF : J_ff (τ42.1 5) (τ42.1 7) (τ42.2.1 9) (τ42.2.1 13) (τ42.2.1 14) (τ42.2.1 15) := q40_10
            have MT : ∀ s : Int, τ42.2.1 26 s ≤ (τ42.1 12) := q40_11
            have VS : J_vs (τ42.1 8) (τ42.1 5) (τ42.2.1 20) := q40_5
            have TX : J_vs (τ42.1 6) (τ42.1 5) (τ42.2.1 15) := q40_6
            have RKS : J_rks (τ42.1 5) (τ42.1 4) (τ42.2.1 10) (τ42.2.1 11) := q40_4
            have CJ : J_all (τ42.1 7) (τ42.1 6) (τ42.1 13) (τ42.1 14) (τ42.1 15) (τ42.2.1 13) (τ42.2.1 14) (τ42.2.1 15) (τ42.2.1 16) (τ42.2.1 10) (τ42.2.1 27) (τ42.2.1 28) (τ42.2.1 29) (τ42.2.1 30) (τ42.2.1 31) (τ42.2.1 32) (τ42.2.1 33) (τ42.2.1 34) (τ42.2.1 35) (τ42.2.1 36) (τ42.2.1 37) := q40_12
            have BP : J_bp (τ42.2.1 44) (τ42.2.1 45) := q40_13
            have CH : j_eq (σ.2.1 36 (σ.1 15)) (σ.2.1 37) (τ42.2.1 37) := by rw [show (j_eq (σ.2.1 36 (σ.1 15)) (σ.2.1 37) (τ42.2.1 37)) = (j_eq (σ.2.1 36 (σ.1 15)) (σ.2.1 37) (σ.2.1 37)) from by rw [g37_τ42]]; exact CH
            have A2 : ∀ j, 0 ≤ τ42.2.1 2 j ∧ τ42.2.1 2 j ≤ 65535 := fun j => hT.2 2 j
            have A3 : ∀ j, 0 ≤ τ42.2.1 3 j ∧ τ42.2.1 3 j ≤ 30000 := fun j => hT.2 3 j
            have A4 : ∀ j, (-1000) ≤ τ42.2.1 4 j ∧ τ42.2.1 4 j ≤ 1499 := fun j => hT.2 4 j
            have A5 : ∀ j, 0 ≤ τ42.2.1 5 j ∧ τ42.2.1 5 j ≤ 2500 := fun j => hT.2 5 j
            have A6 : ∀ j, 0 ≤ τ42.2.1 6 j ∧ τ42.2.1 6 j ≤ 2500 := fun j => hT.2 6 j
            have A8 : ∀ j, 0 ≤ τ42.2.1 8 j ∧ τ42.2.1 8 j ≤ 1 := fun j => hT.2 8 j
            have A9 : ∀ j, (-1) ≤ τ42.2.1 9 j ∧ τ42.2.1 9 j ≤ 1499 := fun j => hT.2 9 j
            have A10 : ∀ j, (-1) ≤ τ42.2.1 10 j ∧ τ42.2.1 10 j ≤ 99 := fun j => hT.2 10 j
            have A11 : ∀ j, 0 ≤ τ42.2.1 11 j ∧ τ42.2.1 11 j ≤ 999 := fun j => hT.2 11 j
            have A13 : ∀ j, 0 ≤ τ42.2.1 13 j ∧ τ42.2.1 13 j ≤ 4 := fun j => hT.2 13 j
            have A14 : ∀ j, 0 ≤ τ42.2.1 14 j ∧ τ42.2.1 14 j ≤ 30000 := fun j => hT.2 14 j
            have A15 : ∀ j, 0 ≤ τ42.2.1 15 j ∧ τ42.2.1 15 j ≤ 999 := fun j => hT.2 15 j
            have A16 : ∀ j, (-1) ≤ τ42.2.1 16 j ∧ τ42.2.1 16 j ≤ 1499 := fun j => hT.2 16 j
            have A18 : ∀ j, 0 ≤ τ42.2.1 18 j ∧ τ42.2.1 18 j ≤ 1 := fun j => hT.2 18 j
            have A19 : ∀ j, (-1) ≤ τ42.2.1 19 j ∧ τ42.2.1 19 j ≤ 1499 := fun j => hT.2 19 j
            have A20 : ∀ j, 0 ≤ τ42.2.1 20 j ∧ τ42.2.1 20 j ≤ 999 := fun j => hT.2 20 j
            have A22 : ∀ j, 0 ≤ τ42.2.1 22 j ∧ τ42.2.1 22 j ≤ 1499 := fun j => hT.2 22 j
            have A23 : ∀ j, 0 ≤ τ42.2.1 23 j ∧ τ42.2.1 23 j ≤ 999 := fun j => hT.2 23 j
            have A24 : ∀ j, 0 ≤ τ42.2.1 24 j ∧ τ42.2.1 24 j ≤ 999 := fun j => hT.2 24 j
            have A26 : ∀ j, (-2147483648) ≤ τ42.2.1 26 j ∧ τ42.2.1 26 j ≤ 2147483647 := fun j => hT.2 26 j
            have A27 : ∀ j, 0 ≤ τ42.2.1 27 j ∧ τ42.2.1 27 j ≤ 90000 := fun j => hT.2 27 j
            have A28 : ∀ j, 0 ≤ τ42.2.1 28 j ∧ τ42.2.1 28 j ≤ 60 := fun j => hT.2 28 j
            have A29 : ∀ j, 0 ≤ τ42.2.1 29 j ∧ τ42.2.1 29 j ≤ 1499 := fun j => hT.2 29 j
            have A30 : ∀ j, 0 ≤ τ42.2.1 30 j ∧ τ42.2.1 30 j ≤ 20000 := fun j => hT.2 30 j
            have A31 : ∀ j, 0 ≤ τ42.2.1 31 j ∧ τ42.2.1 31 j ≤ 20000 := fun j => hT.2 31 j
            have A32 : ∀ j, 0 ≤ τ42.2.1 32 j ∧ τ42.2.1 32 j ≤ 999999 := fun j => hT.2 32 j
            have A33 : ∀ j, 0 ≤ τ42.2.1 33 j ∧ τ42.2.1 33 j ≤ 20000 := fun j => hT.2 33 j
            have A34 : ∀ j, 0 ≤ τ42.2.1 34 j ∧ τ42.2.1 34 j ≤ 20000 := fun j => hT.2 34 j
            have A35 : ∀ j, 0 ≤ τ42.2.1 35 j ∧ τ42.2.1 35 j ≤ 1499 := fun j => hT.2 35 j
            have A36 : ∀ j, 0 ≤ τ42.2.1 36 j ∧ τ42.2.1 36 j ≤ 20000 := fun j => hT.2 36 j
            have A37 : ∀ j, 0 ≤ τ42.2.1 37 j ∧ τ42.2.1 37 j ≤ 19999 := fun j => hT.2 37 j
            have A44 : ∀ j, 0 ≤ τ42.2.1 44 j ∧ τ42.2.1 44 j ≤ 42000 := fun j => hT.2 44 j
            have A45 : ∀ j, 0 ≤ τ42.2.1 45 j ∧ τ42.2.1 45 j ≤ 1000 := fun j => hT.2 45 j
            have A49 : ∀ j, (-300) ≤ τ42.2.1 49 j ∧ τ42.2.1 49 j ≤ 67035 := fun j => hT.2 49 j
            have A51 : ∀ j, 0 ≤ τ42.2.1 51 j ∧ τ42.2.1 51 j ≤ 1499 := fun j => hT.2 51 j
            have A54 : ∀ j, 0 ≤ τ42.2.1 54 j ∧ τ42.2.1 54 j ≤ 999 := fun j => hT.2 54 j
            have v3 : 0 ≤ τ42.1 3 ∧ τ42.1 3 ≤ 2500 := hT.1 3
            have v4 : 0 ≤ τ42.1 4 ∧ τ42.1 4 ≤ 100 := hT.1 4
            have v5 : 0 ≤ τ42.1 5 ∧ τ42.1 5 ≤ 1000 := hT.1 5
            have v6 : 0 ≤ τ42.1 6 ∧ τ42.1 6 ≤ 30000 := hT.1 6
            have v7 : 0 ≤ τ42.1 7 ∧ τ42.1 7 ≤ 1500 := hT.1 7
            have v8 : 0 ≤ τ42.1 8 ∧ τ42.1 8 ≤ 1000 := hT.1 8
            have v9 : 0 ≤ τ42.1 9 ∧ τ42.1 9 ≤ 1500 := hT.1 9
            have v10 : 0 ≤ τ42.1 10 ∧ τ42.1 10 ≤ 1000 := hT.1 10
            have v11 : 0 ≤ τ42.1 11 ∧ τ42.1 11 ≤ 50 := hT.1 11
            have v12 : (-2147483648) ≤ τ42.1 12 ∧ τ42.1 12 ≤ 2147483647 := hT.1 12
            have v13 : 0 ≤ τ42.1 13 ∧ τ42.1 13 ≤ 90000 := hT.1 13
            have v14 : 0 ≤ τ42.1 14 ∧ τ42.1 14 ≤ 20000 := hT.1 14
            have v15 : 0 ≤ τ42.1 15 ∧ τ42.1 15 ≤ 20000 := hT.1 15
            have v16 : 0 ≤ τ42.1 16 ∧ τ42.1 16 ≤ 20000 := hT.1 16
            have v21 : 0 ≤ τ42.1 21 ∧ τ42.1 21 ≤ 20000 := hT.1 21
            have v22 : 0 ≤ τ42.1 22 ∧ τ42.1 22 ≤ 300 := hT.1 22
            have v23 : 0 ≤ τ42.1 23 ∧ τ42.1 23 ≤ 300 := hT.1 23
            have v24 : 0 ≤ τ42.1 24 ∧ τ42.1 24 ≤ 1499 := hT.1 24
            have v25 : 0 ≤ τ42.1 25 ∧ τ42.1 25 ≤ 3 := hT.1 25
            have v26 : 0 ≤ τ42.1 26 ∧ τ42.1 26 ≤ 5000010 := hT.1 26
            have v27 : 0 ≤ τ42.1 27 ∧ τ42.1 27 ≤ 1 := hT.1 27
            have v29 : 0 ≤ τ42.1 29 ∧ τ42.1 29 ≤ 60000 := hT.1 29
            have v34 : 0 ≤ τ42.1 34 ∧ τ42.1 34 ≤ 1 := hT.1 34
            have v35 : 0 ≤ τ42.1 35 ∧ τ42.1 35 ≤ 7 := hT.1 35
            have v36 : 0 ≤ τ42.1 36 ∧ τ42.1 36 ≤ 1001 := hT.1 36
            have v37 : 0 ≤ τ42.1 37 ∧ τ42.1 37 ≤ 4 := hT.1 37
            have v38 : (-1) ≤ τ42.1 38 ∧ τ42.1 38 ≤ 999 := hT.1 38
            have v66 : 0 ≤ τ42.1 66 ∧ τ42.1 66 ≤ 1 := hT.1 66
            have a14_7 : 0 ≤ τ42.2.1 14 (τ42.1 7) ∧ τ42.2.1 14 (τ42.1 7) ≤ 30000 := hT.2 14 _
            have a36_15 : 0 ≤ τ42.2.1 36 (τ42.1 15) ∧ τ42.2.1 36 (τ42.1 15) ≤ 20000 := hT.2 36 _
            have av3 : σ.1 3 ≤ τ42.1 3 := ag.1 3 (by decide)
            have av5 : σ.1 5 ≤ τ42.1 5 := ag.1 5 (by decide)
            have av6 : σ.1 6 ≤ τ42.1 6 := ag.1 6 (by decide)
            have av7 : σ.1 7 ≤ τ42.1 7 := ag.1 7 (by decide)
            have av13 : σ.1 13 ≤ τ42.1 13 := ag.1 13 (by decide)
            have av14 : σ.1 14 ≤ τ42.1 14 := ag.1 14 (by decide)
            exact ⟨hT, (show 0 ≤ x41 ∧ x41 ≤ 19 from by (first | assumption | omega | (simp only [st_s] <;> omega) | fail)), (show J_ht (τ42.1 3) (τ42.2.1 2) (τ42.2.1 3) (τ42.2.1 5) (τ42.2.1 6) from HT), (show J_mn (τ42.1 3) (τ42.1 5) ((τ42.1 7) + 1) (τ42.2.1 4) from MN), (show J_rks (τ42.1 5) (τ42.1 4) (τ42.2.1 10) (τ42.2.1 11) from RKS), (show J_vs (τ42.1 8) (τ42.1 5) (τ42.2.1 20) from VS), (show J_vs (τ42.1 6) (τ42.1 5) (τ42.2.1 15) from TX), (show J_va (τ42.1 8) 1000 (τ42.2.1 18) (τ42.2.1 20) from VA), (show J_mk (τ42.1 11) (τ42.1 8) (τ42.1 9) (τ42.1 10) (τ42.2.1 25) from MK), (show J_sc (τ42.1 7) (τ42.1 9) (τ42.2.1 13) (τ42.2.1 14) (τ42.2.1 15) (τ42.2.1 16) (τ42.2.1 22) (τ42.2.1 19) from SC), (show J_ff (τ42.1 5) (τ42.1 7) (τ42.2.1 9) (τ42.2.1 13) (τ42.2.1 14) (τ42.2.1 15) from FF), (show ∀ s : Int, τ42.2.1 26 s ≤ (τ42.1 12) from MT), (show J_all (τ42.1 7) (τ42.1 6) (τ42.1 13) (τ42.1 14) (τ42.1 15) (τ42.2.1 13) (τ42.2.1 14) (τ42.2.1 15) (τ42.2.1 16) (τ42.2.1 10) (τ42.2.1 27) (τ42.2.1 28) (τ42.2.1 29) (τ42.2.1 30) (τ42.2.1 31) (τ42.2.1 32) (τ42.2.1 33) (τ42.2.1 34) (τ42.2.1 35) (τ42.2.1 36) (τ42.2.1 37) from CJ), (show J_bp (τ42.2.1 44) (τ42.2.1 45) from BP), (show J_nl (τ42.1 3) (τ42.2.1 2) (τ42.2.1 3) (τ42.2.1 4) from NL), (show x41 = 0 → J_rs (τ42.1 35) (τ42.1 7) (τ42.1 6) (τ42.1 36) (τ42.1 37) (τ42.1 5) (τ42.1 8) (τ42.2.1 14) from by (first | (intro z; exfalso; omega) | exact q34_15 | exact q37_15 | exact q40_15 | (first | (intro z; exfalso; omega) | (intro z; unfold J_rs; omega) | (intro z; unfold J_rs; rw [G14, W7]; omega)) | fail)), (show x41 = 0 → 5 ≤ (τ42.1 35) → 1 ≤ (τ42.1 36) → 0 ≤ τ42.2.1 10 (τ42.2.1 15 (τ42.2.1 14 (τ42.1 7))) from by (first | (intro z; exfalso; omega) | exact q34_16 | exact q37_16 | exact q40_16 | (first | (intro z; exfalso; omega) | (intro z y; exfalso; omega) | exact fun _ => uc | (intro z y y2; exact uc (by omega) (by omega)) | (intro z y y2; exfalso; omega) | (intro z y y2; rw [G10, G14, G15, W7]; exact uc (by omega) (by omega))) | fail)), (show x41 = 0 → (τ42.1 35) = 4 → j_in (τ42.1 36) 1000 (τ42.2.1 54) from by (first | (intro z; exfalso; omega) | exact q34_17 | exact q37_17 | exact q40_17 | (first | (intro z; exfalso; omega) | (intro z y; exfalso; omega) | exact fun _ => dj) | fail)), (show x41 = 0 → 5 ≤ (τ42.1 35) → J_ip (τ42.1 7) (τ42.1 6) (τ42.1 37) (τ42.2.1 14) (τ42.2.1 15) (τ42.2.1 16) (τ42.2.1 19) from by (first | (intro z; exfalso; omega) | exact q34_18 | exact q37_18 | exact q40_18 | (first | (intro z; exfalso; omega) | (intro z y; exfalso; omega) | exact fun _ => ipx | (intro z y; exact ipx (by omega)) | (intro z y; rw [W7, W6, W37, G14, G15, G16, G19]; exact ipx (by omega))) | fail)), (show x41 = 0 → ((τ42.1 35) ≤ 5 → (τ42.1 13) ≤ 60 * (τ42.1 7)) ∧ (τ42.1 13) ≤ 60 * (τ42.1 7) + 60 from by (first | (intro z; exfalso; omega) | exact q34_19 | exact q37_19 | exact q40_19 | (intro z; omega) | fail)), (show x41 = 0 → 6 ≤ (τ42.1 35) → (τ42.1 24) = (τ42.1 7) ∧ J_f (τ42.1 7) (τ42.1 13) (τ42.1 14) (τ42.2.1 13) (τ42.2.1 14) (τ42.2.1 15) (τ42.2.1 16) (τ42.2.1 27) (τ42.2.1 28) (τ42.2.1 29) (τ42.2.1 30) (τ42.2.1 31) (τ42.2.1 32) from by (first | (intro z; exfalso; omega) | exact q34_20 | exact q37_20 | exact q40_20 | (intro z y; have w := frx (by omega); rw [W7, W13, W14, w24_τ33, G13, G14, G15, G16, G27, G28, G29, G30, G31, G32]; exact w) | (first | (intro z; exfalso; omega) | (intro z y; exfalso; omega) | exact fun _ => frx | (intro z y; exact frx (by omega)) | (intro z y; have w := frx (by omega); rw [W7, W13, W14, W24, G13, G14, G15, G16, G27, G28, G29, G30, G31, G32]; exact w)) | fail)), (show x41 = 0 → 6 ≤ (τ42.1 35) → J_sp (τ42.1 24) (τ42.1 21) (τ42.1 23) (τ42.1 22) (τ42.2.1 49) (τ42.2.1 51) ∧ ((τ42.1 16) + (τ42.1 21) ≤ 20000) ∧ (¬ (τ42.1 27) = 0 → 1 ≤ (τ42.1 21) ∧ 0 ≤ τ42.2.1 49 ((τ42.1 21) - 1) ∧ τ42.2.1 49 ((τ42.1 21) - 1) < 65536) ∧ ((τ42.1 26) ≤ 1000000) ∧ ((τ42.1 25) ≤ 2 → (τ42.1 27) = 0) from by (first | (intro z; exfalso; omega) | exact q34_21 | exact q37_21 | exact q40_21 | (intro z y; exact ⟨q31_2 z, q31_3 z, q31_4 z, q31_5 z, q31_6 z⟩) | (first | (intro z; exfalso; omega) | (intro z y; exfalso; omega) | exact fun _ => spx | (intro z y; exact spx (by omega))) | fail)), (show x41 = 0 → (τ42.1 15) ≤ (τ42.1 16) ∧ τ42.2.1 36 (τ42.1 15) ≤ (τ42.1 16) from by (first | (intro z; exfalso; omega) | exact q34_22 | exact q37_22 | exact q40_22 | (intro z; first | exact sux | omega) | fail)), (show x41 = 0 → (τ42.1 9) ≤ (τ42.1 7) from by (first | (intro z; exfalso; omega) | exact q34_23 | exact q37_23 | exact q40_23 | (intro z; omega) | fail)), (show j_rr ((σ.1 5)) (σ.2.1 10) (τ42.2.1 10) from by (first | exact j_rr0 _ _ | exact q34_24 | exact q37_24 | exact q40_24 | (rw [G10]; exact j_rr0 _ _) | fail)), (show j_eq (σ.2.1 36 (σ.1 15)) (σ.2.1 37) (τ42.2.1 37) from CH), (show (τ42.1 12) ≤ (σ.1 12) + 1 from by (first | assumption | omega | (simp only [st_s] <;> omega) | fail)), (show c_Y σ τ42 from by (first | exact c_Y0 _ | exact c_Y_g W4 G11 G20 G22 G25 | exact q34_27 | exact q37_27 | exact q40_27 | exact c_Y_g (by omega) (by rw [g11_τ33]) (by rw [g20_τ33]) (by rw [g22_τ33]) (by rw [g25_τ33]) | fail)), ag⟩
        ·
          exact ⟨hT, (show 0 ≤ 2 ∧ 2 ≤ 19 from by (first | assumption | omega | (simp only [st_s] <;> omega) | fail)), (show J_ht (σ.1 3) (σ.2.1 2) (σ.2.1 3) (σ.2.1 5) (σ.2.1 6) from HT), (show J_mn (σ.1 3) (σ.1 5) ((σ.1 7) + 1) (σ.2.1 4) from MN), (show J_rks (σ.1 5) (σ.1 4) (σ.2.1 10) (σ.2.1 11) from RKS), (show J_vs (σ.1 8) (σ.1 5) (σ.2.1 20) from VS), (show J_vs (σ.1 6) (σ.1 5) (σ.2.1 15) from TX), (show J_va (σ.1 8) 1000 (σ.2.1 18) (σ.2.1 20) from VA), (show J_mk (σ.1 11) (σ.1 8) (σ.1 9) (σ.1 10) (σ.2.1 25) from MK), (show J_sc (σ.1 7) (σ.1 9) (σ.2.1 13) (σ.2.1 14) (σ.2.1 15) (σ.2.1 16) (σ.2.1 22) (σ.2.1 19) from SC), (show J_ff (σ.1 5) (σ.1 7) (σ.2.1 9) (σ.2.1 13) (σ.2.1 14) (σ.2.1 15) from FF), (show ∀ s : Int, σ.2.1 26 s ≤ (σ.1 12) from MT), (show J_all (σ.1 7) (σ.1 6) (σ.1 13) (σ.1 14) (σ.1 15) (σ.2.1 13) (σ.2.1 14) (σ.2.1 15) (σ.2.1 16) (σ.2.1 10) (σ.2.1 27) (σ.2.1 28) (σ.2.1 29) (σ.2.1 30) (σ.2.1 31) (σ.2.1 32) (σ.2.1 33) (σ.2.1 34) (σ.2.1 35) (σ.2.1 36) (σ.2.1 37) from CJ), (show J_bp (σ.2.1 44) (σ.2.1 45) from BP), (show J_nl (σ.1 3) (σ.2.1 2) (σ.2.1 3) (σ.2.1 4) from NL), (show 2 = 0 → J_rs (σ.1 35) (σ.1 7) (σ.1 6) (σ.1 36) (σ.1 37) (σ.1 5) (σ.1 8) (σ.2.1 14) from by (first | (intro z; exfalso; omega) | exact q34_15 | exact q37_15 | exact q40_15 | (first | (intro z; exfalso; omega) | (intro z; unfold J_rs; omega) | (intro z; unfold J_rs; rw [G14, W7]; omega)) | fail)), (show 2 = 0 → 5 ≤ (σ.1 35) → 1 ≤ (σ.1 36) → 0 ≤ σ.2.1 10 (σ.2.1 15 (σ.2.1 14 (σ.1 7))) from by (first | (intro z; exfalso; omega) | exact q34_16 | exact q37_16 | exact q40_16 | (first | (intro z; exfalso; omega) | (intro z y; exfalso; omega) | exact fun _ => uc | (intro z y y2; exact uc (by omega) (by omega)) | (intro z y y2; exfalso; omega) | (intro z y y2; rw [G10, G14, G15, W7]; exact uc (by omega) (by omega))) | fail)), (show 2 = 0 → (σ.1 35) = 4 → j_in (σ.1 36) 1000 (σ.2.1 54) from by (first | (intro z; exfalso; omega) | exact q34_17 | exact q37_17 | exact q40_17 | (first | (intro z; exfalso; omega) | (intro z y; exfalso; omega) | exact fun _ => dj) | fail)), (show 2 = 0 → 5 ≤ (σ.1 35) → J_ip (σ.1 7) (σ.1 6) (σ.1 37) (σ.2.1 14) (σ.2.1 15) (σ.2.1 16) (σ.2.1 19) from by (first | (intro z; exfalso; omega) | exact q34_18 | exact q37_18 | exact q40_18 | (first | (intro z; exfalso; omega) | (intro z y; exfalso; omega) | exact fun _ => ipx | (intro z y; exact ipx (by omega)) | (intro z y; rw [W7, W6, W37, G14, G15, G16, G19]; exact ipx (by omega))) | fail)), (show 2 = 0 → ((σ.1 35) ≤ 5 → (σ.1 13) ≤ 60 * (σ.1 7)) ∧ (σ.1 13) ≤ 60 * (σ.1 7) + 60 from by (first | (intro z; exfalso; omega) | exact q34_19 | exact q37_19 | exact q40_19 | (intro z; omega) | fail)), (show 2 = 0 → 6 ≤ (σ.1 35) → (σ.1 24) = (σ.1 7) ∧ J_f (σ.1 7) (σ.1 13) (σ.1 14) (σ.2.1 13) (σ.2.1 14) (σ.2.1 15) (σ.2.1 16) (σ.2.1 27) (σ.2.1 28) (σ.2.1 29) (σ.2.1 30) (σ.2.1 31) (σ.2.1 32) from by (first | (intro z; exfalso; omega) | exact q34_20 | exact q37_20 | exact q40_20 | (intro z y; have w := frx (by omega); rw [W7, W13, W14, w24_τ33, G13, G14, G15, G16, G27, G28, G29, G30, G31, G32]; exact w) | (first | (intro z; exfalso; omega) | (intro z y; exfalso; omega) | exact fun _ => frx | (intro z y; exact frx (by omega)) | (intro z y; have w := frx (by omega); rw [W7, W13, W14, W24, G13, G14, G15, G16, G27, G28, G29, G30, G31, G32]; exact w)) | fail)), (show 2 = 0 → 6 ≤ (σ.1 35) → J_sp (σ.1 24) (σ.1 21) (σ.1 23) (σ.1 22) (σ.2.1 49) (σ.2.1 51) ∧ ((σ.1 16) + (σ.1 21) ≤ 20000) ∧ (¬ (σ.1 27) = 0 → 1 ≤ (σ.1 21) ∧ 0 ≤ σ.2.1 49 ((σ.1 21) - 1) ∧ σ.2.1 49 ((σ.1 21) - 1) < 65536) ∧ ((σ.1 26) ≤ 1000000) ∧ ((σ.1 25) ≤ 2 → (σ.1 27) = 0) from by (first | (intro z; exfalso; omega) | exact q34_21 | exact q37_21 | exact q40_21 | (intro z y; exact ⟨q31_2 z, q31_3 z, q31_4 z, q31_5 z, q31_6 z⟩) | (first | (intro z; exfalso; omega) | (intro z y; exfalso; omega) | exact fun _ => spx | (intro z y; exact spx (by omega))) | fail)), (show 2 = 0 → (σ.1 15) ≤ (σ.1 16) ∧ σ.2.1 36 (σ.1 15) ≤ (σ.1 16) from by (first | (intro z; exfalso; omega) | exact q34_22 | exact q37_22 | exact q40_22 | (intro z; first | exact sux | omega) | fail)), (show 2 = 0 → (σ.1 9) ≤ (σ.1 7) from by (first | (intro z; exfalso; omega) | exact q34_23 | exact q37_23 | exact q40_23 | (intro z; omega) | fail)), (show j_rr ((σ.1 5)) (σ.2.1 10) (σ.2.1 10) from by (first | exact j_rr0 _ _ | exact q34_24 | exact q37_24 | exact q40_24 | (rw [G10]; exact j_rr0 _ _) | fail)), (show j_eq (σ.2.1 36 (σ.1 15)) (σ.2.1 37) (σ.2.1 37) from CH), (show (σ.1 12) ≤ (σ.1 12) + 1 from by (first | assumption | omega | (simp only [st_s] <;> omega) | fail)), (show c_Y σ σ from by (first | exact c_Y0 _ | exact c_Y_g W4 G11 G20 G22 G25 | exact q34_27 | exact q37_27 | exact q40_27 | exact c_Y_g (by omega) (by rw [g11_τ33]) (by rw [g20_τ33]) (by rw [g22_τ33]) (by rw [g25_τ33]) | fail)), ag⟩
      ·
        replace ag := ag_v (i := 34) (x := 1) ag (Or.inl rfl)
        replace hT := cT_v (i := 34) hT (show (0 : Int) ≤ 1 ∧ 1 ≤ 1 from by (first | assumption | omega | (simp only [st_s] <;> omega) | fail))
        exact ⟨hT, (show 0 ≤ 0 ∧ 0 ≤ 19 from by (first | assumption | omega | (simp only [st_s] <;> omega) | fail)), (show J_ht (σ.1 3) (σ.2.1 2) (σ.2.1 3) (σ.2.1 5) (σ.2.1 6) from HT), (show J_mn (σ.1 3) (σ.1 5) ((σ.1 7) + 1) (σ.2.1 4) from MN), (show J_rks (σ.1 5) (σ.1 4) (σ.2.1 10) (σ.2.1 11) from RKS), (show J_vs (σ.1 8) (σ.1 5) (σ.2.1 20) from VS), (show J_vs (σ.1 6) (σ.1 5) (σ.2.1 15) from TX), (show J_va (σ.1 8) 1000 (σ.2.1 18) (σ.2.1 20) from VA), (show J_mk (σ.1 11) (σ.1 8) (σ.1 9) (σ.1 10) (σ.2.1 25) from MK), (show J_sc (σ.1 7) (σ.1 9) (σ.2.1 13) (σ.2.1 14) (σ.2.1 15) (σ.2.1 16) (σ.2.1 22) (σ.2.1 19) from SC), (show J_ff (σ.1 5) (σ.1 7) (σ.2.1 9) (σ.2.1 13) (σ.2.1 14) (σ.2.1 15) from FF), (show ∀ s : Int, σ.2.1 26 s ≤ (σ.1 12) from MT), (show J_all (σ.1 7) (σ.1 6) (σ.1 13) (σ.1 14) (σ.1 15) (σ.2.1 13) (σ.2.1 14) (σ.2.1 15) (σ.2.1 16) (σ.2.1 10) (σ.2.1 27) (σ.2.1 28) (σ.2.1 29) (σ.2.1 30) (σ.2.1 31) (σ.2.1 32) (σ.2.1 33) (σ.2.1 34) (σ.2.1 35) (σ.2.1 36) (σ.2.1 37) from CJ), (show J_bp (σ.2.1 44) (σ.2.1 45) from BP), (show J_nl (σ.1 3) (σ.2.1 2) (σ.2.1 3) (σ.2.1 4) from NL), (show 0 = 0 → J_rs (σ.1 35) (σ.1 7) (σ.1 6) (σ.1 36) (σ.1 37) (σ.1 5) (σ.1 8) (σ.2.1 14) from by (first | (intro z; exfalso; omega) | exact q34_15 | exact q37_15 | exact q40_15 | (first | (intro z; exfalso; omega) | (intro z; unfold J_rs; omega) | (intro z; unfold J_rs; rw [G14, W7]; omega)) | fail)), (show 0 = 0 → 5 ≤ (σ.1 35) → 1 ≤ (σ.1 36) → 0 ≤ σ.2.1 10 (σ.2.1 15 (σ.2.1 14 (σ.1 7))) from by (first | (intro z; exfalso; omega) | exact q34_16 | exact q37_16 | exact q40_16 | (first | (intro z; exfalso; omega) | (intro z y; exfalso; omega) | exact fun _ => uc | (intro z y y2; exact uc (by omega) (by omega)) | (intro z y y2; exfalso; omega) | (intro z y y2; rw [G10, G14, G15, W7]; exact uc (by omega) (by omega))) | fail)), (show 0 = 0 → (σ.1 35) = 4 → j_in (σ.1 36) 1000 (σ.2.1 54) from by (first | (intro z; exfalso; omega) | exact q34_17 | exact q37_17 | exact q40_17 | (first | (intro z; exfalso; omega) | (intro z y; exfalso; omega) | exact fun _ => dj) | fail)), (show 0 = 0 → 5 ≤ (σ.1 35) → J_ip (σ.1 7) (σ.1 6) (σ.1 37) (σ.2.1 14) (σ.2.1 15) (σ.2.1 16) (σ.2.1 19) from by (first | (intro z; exfalso; omega) | exact q34_18 | exact q37_18 | exact q40_18 | (first | (intro z; exfalso; omega) | (intro z y; exfalso; omega) | exact fun _ => ipx | (intro z y; exact ipx (by omega)) | (intro z y; rw [W7, W6, W37, G14, G15, G16, G19]; exact ipx (by omega))) | fail)), (show 0 = 0 → ((σ.1 35) ≤ 5 → (σ.1 13) ≤ 60 * (σ.1 7)) ∧ (σ.1 13) ≤ 60 * (σ.1 7) + 60 from by (first | (intro z; exfalso; omega) | exact q34_19 | exact q37_19 | exact q40_19 | (intro z; omega) | fail)), (show 0 = 0 → 6 ≤ (σ.1 35) → (σ.1 24) = (σ.1 7) ∧ J_f (σ.1 7) (σ.1 13) (σ.1 14) (σ.2.1 13) (σ.2.1 14) (σ.2.1 15) (σ.2.1 16) (σ.2.1 27) (σ.2.1 28) (σ.2.1 29) (σ.2.1 30) (σ.2.1 31) (σ.2.1 32) from by (first | (intro z; exfalso; omega) | exact q34_20 | exact q37_20 | exact q40_20 | (intro z y; have w := frx (by omega); rw [W7, W13, W14, w24_τ33, G13, G14, G15, G16, G27, G28, G29, G30, G31, G32]; exact w) | (first | (intro z; exfalso; omega) | (intro z y; exfalso; omega) | exact fun _ => frx | (intro z y; exact frx (by omega)) | (intro z y; have w := frx (by omega); rw [W7, W13, W14, W24, G13, G14, G15, G16, G27, G28, G29, G30, G31, G32]; exact w)) | fail)), (show 0 = 0 → 6 ≤ (σ.1 35) → J_sp (σ.1 24) (σ.1 21) (σ.1 23) (σ.1 22) (σ.2.1 49) (σ.2.1 51) ∧ ((σ.1 16) + (σ.1 21) ≤ 20000) ∧ (¬ (σ.1 27) = 0 → 1 ≤ (σ.1 21) ∧ 0 ≤ σ.2.1 49 ((σ.1 21) - 1) ∧ σ.2.1 49 ((σ.1 21) - 1) < 65536) ∧ ((σ.1 26) ≤ 1000000) ∧ ((σ.1 25) ≤ 2 → (σ.1 27) = 0) from by (first | (intro z; exfalso; omega) | exact q34_21 | exact q37_21 | exact q40_21 | (intro z y; exact ⟨q31_2 z, q31_3 z, q31_4 z, q31_5 z, q31_6 z⟩) | (first | (intro z; exfalso; omega) | (intro z y; exfalso; omega) | exact fun _ => spx | (intro z y; exact spx (by omega))) | fail)), (show 0 = 0 → (σ.1 15) ≤ (σ.1 16) ∧ σ.2.1 36 (σ.1 15) ≤ (σ.1 16) from by (first | (intro z; exfalso; omega) | exact q34_22 | exact q37_22 | exact q40_22 | (intro z; first | exact sux | omega) | fail)), (show 0 = 0 → (σ.1 9) ≤ (σ.1 7) from by (first | (intro z; exfalso; omega) | exact q34_23 | exact q37_23 | exact q40_23 | (intro z; omega) | fail)), (show j_rr ((σ.1 5)) (σ.2.1 10) (σ.2.1 10) from by (first | exact j_rr0 _ _ | exact q34_24 | exact q37_24 | exact q40_24 | (rw [G10]; exact j_rr0 _ _) | fail)), (show j_eq (σ.2.1 36 (σ.1 15)) (σ.2.1 37) (σ.2.1 37) from CH), (show (σ.1 12) ≤ (σ.1 12) + 1 from by (first | assumption | omega | (simp only [st_s] <;> omega) | fail)), (show c_Y σ (s_v σ 34 1) from by (first | exact c_Y0 _ | exact c_Y_g W4 G11 G20 G22 G25 | exact q34_27 | exact q37_27 | exact q40_27 | exact c_Y_g (by omega) (by rw [g11_τ33]) (by rw [g20_τ33]) (by rw [g22_τ33]) (by rw [g25_τ33]) | fail)), ag⟩
    ·
      refine ⟨fun c43 => ?_, fun c43 => ?_⟩
      ·
        refine h60 _ _ _ _ ?_
        refine ⟨(show 0 ≤ 0 ∧ 0 ≤ 1 from by (first | assumption | omega | (simp only [st_s] <;> omega) | fail)), ?_⟩
        replace ag := ag_v (i := 34) (x := 0) ag (Or.inl rfl)
        replace hT := cT_v (i := 34) hT (show (0 : Int) ≤ 0 ∧ 0 ≤ 1 from by (first | assumption | omega | (simp only [st_s] <;> omega) | fail))
        refine ⟨fun c45 => ?_, fun c45 => ?_⟩
        ·
          exact ⟨hT, (show 0 ≤ 0 ∧ 0 ≤ 19 from by (first | assumption | omega | (simp only [st_s] <;> omega) | fail)), (show J_ht (σ.1 3) (σ.2.1 2) (σ.2.1 3) (σ.2.1 5) (σ.2.1 6) from HT), (show J_mn (σ.1 3) (σ.1 5) ((σ.1 7) + 1) (σ.2.1 4) from MN), (show J_rks (σ.1 5) (σ.1 4) (σ.2.1 10) (σ.2.1 11) from RKS), (show J_vs (σ.1 8) (σ.1 5) (σ.2.1 20) from VS), (show J_vs (σ.1 6) (σ.1 5) (σ.2.1 15) from TX), (show J_va (σ.1 8) 1000 (σ.2.1 18) (σ.2.1 20) from VA), (show J_mk (σ.1 11) (σ.1 8) (σ.1 9) (σ.1 10) (σ.2.1 25) from MK), (show J_sc (σ.1 7) (σ.1 9) (σ.2.1 13) (σ.2.1 14) (σ.2.1 15) (σ.2.1 16) (σ.2.1 22) (σ.2.1 19) from SC), (show J_ff (σ.1 5) (σ.1 7) (σ.2.1 9) (σ.2.1 13) (σ.2.1 14) (σ.2.1 15) from FF), (show ∀ s : Int, σ.2.1 26 s ≤ (σ.1 12) from MT), (show J_all (σ.1 7) (σ.1 6) (σ.1 13) (σ.1 14) (σ.1 15) (σ.2.1 13) (σ.2.1 14) (σ.2.1 15) (σ.2.1 16) (σ.2.1 10) (σ.2.1 27) (σ.2.1 28) (σ.2.1 29) (σ.2.1 30) (σ.2.1 31) (σ.2.1 32) (σ.2.1 33) (σ.2.1 34) (σ.2.1 35) (σ.2.1 36) (σ.2.1 37) from CJ), (show J_bp (σ.2.1 44) (σ.2.1 45) from BP), (show J_nl (σ.1 3) (σ.2.1 2) (σ.2.1 3) (σ.2.1 4) from NL), (show 0 = 0 → J_rs (σ.1 35) (σ.1 7) (σ.1 6) (σ.1 36) (σ.1 37) (σ.1 5) (σ.1 8) (σ.2.1 14) from by (first | (intro z; exfalso; omega) | exact q34_15 | exact q37_15 | exact q40_15 | (first | (intro z; exfalso; omega) | (intro z; unfold J_rs; omega) | (intro z; unfold J_rs; rw [G14, W7]; omega)) | fail)), (show 0 = 0 → 5 ≤ (σ.1 35) → 1 ≤ (σ.1 36) → 0 ≤ σ.2.1 10 (σ.2.1 15 (σ.2.1 14 (σ.1 7))) from by (first | (intro z; exfalso; omega) | exact q34_16 | exact q37_16 | exact q40_16 | (first | (intro z; exfalso; omega) | (intro z y; exfalso; omega) | exact fun _ => uc | (intro z y y2; exact uc (by omega) (by omega)) | (intro z y y2; exfalso; omega) | (intro z y y2; rw [G10, G14, G15, W7]; exact uc (by omega) (by omega))) | fail)), (show 0 = 0 → (σ.1 35) = 4 → j_in (σ.1 36) 1000 (σ.2.1 54) from by (first | (intro z; exfalso; omega) | exact q34_17 | exact q37_17 | exact q40_17 | (first | (intro z; exfalso; omega) | (intro z y; exfalso; omega) | exact fun _ => dj) | fail)), (show 0 = 0 → 5 ≤ (σ.1 35) → J_ip (σ.1 7) (σ.1 6) (σ.1 37) (σ.2.1 14) (σ.2.1 15) (σ.2.1 16) (σ.2.1 19) from by (first | (intro z; exfalso; omega) | exact q34_18 | exact q37_18 | exact q40_18 | (first | (intro z; exfalso; omega) | (intro z y; exfalso; omega) | exact fun _ => ipx | (intro z y; exact ipx (by omega)) | (intro z y; rw [W7, W6, W37, G14, G15, G16, G19]; exact ipx (by omega))) | fail)), (show 0 = 0 → ((σ.1 35) ≤ 5 → (σ.1 13) ≤ 60 * (σ.1 7)) ∧ (σ.1 13) ≤ 60 * (σ.1 7) + 60 from by (first | (intro z; exfalso; omega) | exact q34_19 | exact q37_19 | exact q40_19 | (intro z; omega) | fail)), (show 0 = 0 → 6 ≤ (σ.1 35) → (σ.1 24) = (σ.1 7) ∧ J_f (σ.1 7) (σ.1 13) (σ.1 14) (σ.2.1 13) (σ.2.1 14) (σ.2.1 15) (σ.2.1 16) (σ.2.1 27) (σ.2.1 28) (σ.2.1 29) (σ.2.1 30) (σ.2.1 31) (σ.2.1 32) from by (first | (intro z; exfalso; omega) | exact q34_20 | exact q37_20 | exact q40_20 | (intro z y; have w := frx (by omega); rw [W7, W13, W14, w24_τ33, G13, G14, G15, G16, G27, G28, G29, G30, G31, G32]; exact w) | (first | (intro z; exfalso; omega) | (intro z y; exfalso; omega) | exact fun _ => frx | (intro z y; exact frx (by omega)) | (intro z y; have w := frx (by omega); rw [W7, W13, W14, W24, G13, G14, G15, G16, G27, G28, G29, G30, G31, G32]; exact w)) | fail)), (show 0 = 0 → 6 ≤ (σ.1 35) → J_sp (σ.1 24) (σ.1 21) (σ.1 23) (σ.1 22) (σ.2.1 49) (σ.2.1 51) ∧ ((σ.1 16) + (σ.1 21) ≤ 20000) ∧ (¬ (σ.1 27) = 0 → 1 ≤ (σ.1 21) ∧ 0 ≤ σ.2.1 49 ((σ.1 21) - 1) ∧ σ.2.1 49 ((σ.1 21) - 1) < 65536) ∧ ((σ.1 26) ≤ 1000000) ∧ ((σ.1 25) ≤ 2 → (σ.1 27) = 0) from by (first | (intro z; exfalso; omega) | exact q34_21 | exact q37_21 | exact q40_21 | (intro z y; exact ⟨q31_2 z, q31_3 z, q31_4 z, q31_5 z, q31_6 z⟩) | (first | (intro z; exfalso; omega) | (intro z y; exfalso; omega) | exact fun _ => spx | (intro z y; exact spx (by omega))) | fail)), (show 0 = 0 → (σ.1 15) ≤ (σ.1 16) ∧ σ.2.1 36 (σ.1 15) ≤ (σ.1 16) from by (first | (intro z; exfalso; omega) | exact q34_22 | exact q37_22 | exact q40_22 | (intro z; first | exact sux | omega) | fail)), (show 0 = 0 → (σ.1 9) ≤ (σ.1 7) from by (first | (intro z; exfalso; omega) | exact q34_23 | exact q37_23 | exact q40_23 | (intro z; omega) | fail)), (show j_rr ((σ.1 5)) (σ.2.1 10) (σ.2.1 10) from by (first | exact j_rr0 _ _ | exact q34_24 | exact q37_24 | exact q40_24 | (rw [G10]; exact j_rr0 _ _) | fail)), (show j_eq (σ.2.1 36 (σ.1 15)) (σ.2.1 37) (σ.2.1 37) from CH), (show (σ.1 12) ≤ (σ.1 12) + 1 from by (first | assumption | omega | (simp only [st_s] <;> omega) | fail)), (show c_Y σ (s_v σ 34 0) from by (first | exact c_Y0 _ | exact c_Y_g W4 G11 G20 G22 G25 | exact q34_27 | exact q37_27 | exact q40_27 | exact c_Y_g (by omega) (by rw [g11_τ33]) (by rw [g20_τ33]) (by rw [g22_τ33]) (by rw [g25_τ33]) | fail)), ag⟩
        ·
          refine ⟨_, K_X7_hasCommentMark hT (show 0 ≤ n1 from by (first | assumption | omega | (simp only [st_s] <;> omega) | fail)) (show 0 ≤ n2 from by (first | assumption | omega | (simp only [st_s] <;> omega) | fail)) (show n1 + n2 ≤ 60000 from by (first | assumption | omega | (simp only [st_s] <;> omega) | fail)) (show ¬ σ.1 66 = 0 from by (first | assumption | omega | (simp only [st_s] <;> omega) | fail)), ?_⟩
          intro x47 r_x47 hq
          have q46_1 := hq
          replace q46_1 : 0 ≤ x47 ∧ x47 ≤ 1 := q46_1
          refine ⟨fun c49 => ?_, fun c49 => ?_⟩
          ·
            exact ⟨hT, (show 0 ≤ 0 ∧ 0 ≤ 19 from by (first | assumption | omega | (simp only [st_s] <;> omega) | fail)), (show J_ht (σ.1 3) (σ.2.1 2) (σ.2.1 3) (σ.2.1 5) (σ.2.1 6) from HT), (show J_mn (σ.1 3) (σ.1 5) ((σ.1 7) + 1) (σ.2.1 4) from MN), (show J_rks (σ.1 5) (σ.1 4) (σ.2.1 10) (σ.2.1 11) from RKS), (show J_vs (σ.1 8) (σ.1 5) (σ.2.1 20) from VS), (show J_vs (σ.1 6) (σ.1 5) (σ.2.1 15) from TX), (show J_va (σ.1 8) 1000 (σ.2.1 18) (σ.2.1 20) from VA), (show J_mk (σ.1 11) (σ.1 8) (σ.1 9) (σ.1 10) (σ.2.1 25) from MK), (show J_sc (σ.1 7) (σ.1 9) (σ.2.1 13) (σ.2.1 14) (σ.2.1 15) (σ.2.1 16) (σ.2.1 22) (σ.2.1 19) from SC), (show J_ff (σ.1 5) (σ.1 7) (σ.2.1 9) (σ.2.1 13) (σ.2.1 14) (σ.2.1 15) from FF), (show ∀ s : Int, σ.2.1 26 s ≤ (σ.1 12) from MT), (show J_all (σ.1 7) (σ.1 6) (σ.1 13) (σ.1 14) (σ.1 15) (σ.2.1 13) (σ.2.1 14) (σ.2.1 15) (σ.2.1 16) (σ.2.1 10) (σ.2.1 27) (σ.2.1 28) (σ.2.1 29) (σ.2.1 30) (σ.2.1 31) (σ.2.1 32) (σ.2.1 33) (σ.2.1 34) (σ.2.1 35) (σ.2.1 36) (σ.2.1 37) from CJ), (show J_bp (σ.2.1 44) (σ.2.1 45) from BP), (show J_nl (σ.1 3) (σ.2.1 2) (σ.2.1 3) (σ.2.1 4) from NL), (show 0 = 0 → J_rs (σ.1 35) (σ.1 7) (σ.1 6) (σ.1 36) (σ.1 37) (σ.1 5) (σ.1 8) (σ.2.1 14) from by (first | (intro z; exfalso; omega) | exact q34_15 | exact q37_15 | exact q40_15 | (first | (intro z; exfalso; omega) | (intro z; unfold J_rs; omega) | (intro z; unfold J_rs; rw [G14, W7]; omega)) | fail)), (show 0 = 0 → 5 ≤ (σ.1 35) → 1 ≤ (σ.1 36) → 0 ≤ σ.2.1 10 (σ.2.1 15 (σ.2.1 14 (σ.1 7))) from by (first | (intro z; exfalso; omega) | exact q34_16 | exact q37_16 | exact q40_16 | (first | (intro z; exfalso; omega) | (intro z y; exfalso; omega) | exact fun _ => uc | (intro z y y2; exact uc (by omega) (by omega)) | (intro z y y2; exfalso; omega) | (intro z y y2; rw [G10, G14, G15, W7]; exact uc (by omega) (by omega))) | fail)), (show 0 = 0 → (σ.1 35) = 4 → j_in (σ.1 36) 1000 (σ.2.1 54) from by (first | (intro z; exfalso; omega) | exact q34_17 | exact q37_17 | exact q40_17 | (first | (intro z; exfalso; omega) | (intro z y; exfalso; omega) | exact fun _ => dj) | fail)), (show 0 = 0 → 5 ≤ (σ.1 35) → J_ip (σ.1 7) (σ.1 6) (σ.1 37) (σ.2.1 14) (σ.2.1 15) (σ.2.1 16) (σ.2.1 19) from by (first | (intro z; exfalso; omega) | exact q34_18 | exact q37_18 | exact q40_18 | (first | (intro z; exfalso; omega) | (intro z y; exfalso; omega) | exact fun _ => ipx | (intro z y; exact ipx (by omega)) | (intro z y; rw [W7, W6, W37, G14, G15, G16, G19]; exact ipx (by omega))) | fail)), (show 0 = 0 → ((σ.1 35) ≤ 5 → (σ.1 13) ≤ 60 * (σ.1 7)) ∧ (σ.1 13) ≤ 60 * (σ.1 7) + 60 from by (first | (intro z; exfalso; omega) | exact q34_19 | exact q37_19 | exact q40_19 | (intro z; omega) | fail)), (show 0 = 0 → 6 ≤ (σ.1 35) → (σ.1 24) = (σ.1 7) ∧ J_f (σ.1 7) (σ.1 13) (σ.1 14) (σ.2.1 13) (σ.2.1 14) (σ.2.1 15) (σ.2.1 16) (σ.2.1 27) (σ.2.1 28) (σ.2.1 29) (σ.2.1 30) (σ.2.1 31) (σ.2.1 32) from by (first | (intro z; exfalso; omega) | exact q34_20 | exact q37_20 | exact q40_20 | (intro z y; have w := frx (by omega); rw [W7, W13, W14, w24_τ33, G13, G14, G15, G16, G27, G28, G29, G30, G31, G32]; exact w) | (first | (intro z; exfalso; omega) | (intro z y; exfalso; omega) | exact fun _ => frx | (intro z y; exact frx (by omega)) | (intro z y; have w := frx (by omega); rw [W7, W13, W14, W24, G13, G14, G15, G16, G27, G28, G29, G30, G31, G32]; exact w)) | fail)), (show 0 = 0 → 6 ≤ (σ.1 35) → J_sp (σ.1 24) (σ.1 21) (σ.1 23) (σ.1 22) (σ.2.1 49) (σ.2.1 51) ∧ ((σ.1 16) + (σ.1 21) ≤ 20000) ∧ (¬ (σ.1 27) = 0 → 1 ≤ (σ.1 21) ∧ 0 ≤ σ.2.1 49 ((σ.1 21) - 1) ∧ σ.2.1 49 ((σ.1 21) - 1) < 65536) ∧ ((σ.1 26) ≤ 1000000) ∧ ((σ.1 25) ≤ 2 → (σ.1 27) = 0) from by (first | (intro z; exfalso; omega) | exact q34_21 | exact q37_21 | exact q40_21 | (intro z y; exact ⟨q31_2 z, q31_3 z, q31_4 z, q31_5 z, q31_6 z⟩) | (first | (intro z; exfalso; omega) | (intro z y; exfalso; omega) | exact fun _ => spx | (intro z y; exact spx (by omega))) | fail)), (show 0 = 0 → (σ.1 15) ≤ (σ.1 16) ∧ σ.2.1 36 (σ.1 15) ≤ (σ.1 16) from by (first | (intro z; exfalso; omega) | exact q34_22 | exact q37_22 | exact q40_22 | (intro z; first | exact sux | omega) | fail)), (show 0 = 0 → (σ.1 9) ≤ (σ.1 7) from by (first | (intro z; exfalso; omega) | exact q34_23 | exact q37_23 | exact q40_23 | (intro z; omega) | fail)), (show j_rr ((σ.1 5)) (σ.2.1 10) (σ.2.1 10) from by (first | exact j_rr0 _ _ | exact q34_24 | exact q37_24 | exact q40_24 | (rw [G10]; exact j_rr0 _ _) | fail)), (show j_eq (σ.2.1 36 (σ.1 15)) (σ.2.1 37) (σ.2.1 37) from CH), (show (σ.1 12) ≤ (σ.1 12) + 1 from by (first | assumption | omega | (simp only [st_s] <;> omega) | fail)), (show c_Y σ (s_v σ 34 0) from by (first | exact c_Y0 _ | exact c_Y_g W4 G11 G20 G22 G25 | exact q34_27 | exact q37_27 | exact q40_27 | exact c_Y_g (by omega) (by rw [g11_τ33]) (by rw [g20_τ33]) (by rw [g22_τ33]) (by rw [g25_τ33]) | fail)), ag⟩
          ·
            exact ⟨hT, (show 0 ≤ 2 ∧ 2 ≤ 19 from by (first | assumption | omega | (simp only [st_s] <;> omega) | fail)), (show J_ht (σ.1 3) (σ.2.1 2) (σ.2.1 3) (σ.2.1 5) (σ.2.1 6) from HT), (show J_mn (σ.1 3) (σ.1 5) ((σ.1 7) + 1) (σ.2.1 4) from MN), (show J_rks (σ.1 5) (σ.1 4) (σ.2.1 10) (σ.2.1 11) from RKS), (show J_vs (σ.1 8) (σ.1 5) (σ.2.1 20) from VS), (show J_vs (σ.1 6) (σ.1 5) (σ.2.1 15) from TX), (show J_va (σ.1 8) 1000 (σ.2.1 18) (σ.2.1 20) from VA), (show J_mk (σ.1 11) (σ.1 8) (σ.1 9) (σ.1 10) (σ.2.1 25) from MK), (show J_sc (σ.1 7) (σ.1 9) (σ.2.1 13) (σ.2.1 14) (σ.2.1 15) (σ.2.1 16) (σ.2.1 22) (σ.2.1 19) from SC), (show J_ff (σ.1 5) (σ.1 7) (σ.2.1 9) (σ.2.1 13) (σ.2.1 14) (σ.2.1 15) from FF), (show ∀ s : Int, σ.2.1 26 s ≤ (σ.1 12) from MT), (show J_all (σ.1 7) (σ.1 6) (σ.1 13) (σ.1 14) (σ.1 15) (σ.2.1 13) (σ.2.1 14) (σ.2.1 15) (σ.2.1 16) (σ.2.1 10) (σ.2.1 27) (σ.2.1 28) (σ.2.1 29) (σ.2.1 30) (σ.2.1 31) (σ.2.1 32) (σ.2.1 33) (σ.2.1 34) (σ.2.1 35) (σ.2.1 36) (σ.2.1 37) from CJ), (show J_bp (σ.2.1 44) (σ.2.1 45) from BP), (show J_nl (σ.1 3) (σ.2.1 2) (σ.2.1 3) (σ.2.1 4) from NL), (show 2 = 0 → J_rs (σ.1 35) (σ.1 7) (σ.1 6) (σ.1 36) (σ.1 37) (σ.1 5) (σ.1 8) (σ.2.1 14) from by (first | (intro z; exfalso; omega) | exact q34_15 | exact q37_15 | exact q40_15 | (first | (intro z; exfalso; omega) | (intro z; unfold J_rs; omega) | (intro z; unfold J_rs; rw [G14, W7]; omega)) | fail)), (show 2 = 0 → 5 ≤ (σ.1 35) → 1 ≤ (σ.1 36) → 0 ≤ σ.2.1 10 (σ.2.1 15 (σ.2.1 14 (σ.1 7))) from by (first | (intro z; exfalso; omega) | exact q34_16 | exact q37_16 | exact q40_16 | (first | (intro z; exfalso; omega) | (intro z y; exfalso; omega) | exact fun _ => uc | (intro z y y2; exact uc (by omega) (by omega)) | (intro z y y2; exfalso; omega) | (intro z y y2; rw [G10, G14, G15, W7]; exact uc (by omega) (by omega))) | fail)), (show 2 = 0 → (σ.1 35) = 4 → j_in (σ.1 36) 1000 (σ.2.1 54) from by (first | (intro z; exfalso; omega) | exact q34_17 | exact q37_17 | exact q40_17 | (first | (intro z; exfalso; omega) | (intro z y; exfalso; omega) | exact fun _ => dj) | fail)), (show 2 = 0 → 5 ≤ (σ.1 35) → J_ip (σ.1 7) (σ.1 6) (σ.1 37) (σ.2.1 14) (σ.2.1 15) (σ.2.1 16) (σ.2.1 19) from by (first | (intro z; exfalso; omega) | exact q34_18 | exact q37_18 | exact q40_18 | (first | (intro z; exfalso; omega) | (intro z y; exfalso; omega) | exact fun _ => ipx | (intro z y; exact ipx (by omega)) | (intro z y; rw [W7, W6, W37, G14, G15, G16, G19]; exact ipx (by omega))) | fail)), (show 2 = 0 → ((σ.1 35) ≤ 5 → (σ.1 13) ≤ 60 * (σ.1 7)) ∧ (σ.1 13) ≤ 60 * (σ.1 7) + 60 from by (first | (intro z; exfalso; omega) | exact q34_19 | exact q37_19 | exact q40_19 | (intro z; omega) | fail)), (show 2 = 0 → 6 ≤ (σ.1 35) → (σ.1 24) = (σ.1 7) ∧ J_f (σ.1 7) (σ.1 13) (σ.1 14) (σ.2.1 13) (σ.2.1 14) (σ.2.1 15) (σ.2.1 16) (σ.2.1 27) (σ.2.1 28) (σ.2.1 29) (σ.2.1 30) (σ.2.1 31) (σ.2.1 32) from by (first | (intro z; exfalso; omega) | exact q34_20 | exact q37_20 | exact q40_20 | (intro z y; have w := frx (by omega); rw [W7, W13, W14, w24_τ33, G13, G14, G15, G16, G27, G28, G29, G30, G31, G32]; exact w) | (first | (intro z; exfalso; omega) | (intro z y; exfalso; omega) | exact fun _ => frx | (intro z y; exact frx (by omega)) | (intro z y; have w := frx (by omega); rw [W7, W13, W14, W24, G13, G14, G15, G16, G27, G28, G29, G30, G31, G32]; exact w)) | fail)), (show 2 = 0 → 6 ≤ (σ.1 35) → J_sp (σ.1 24) (σ.1 21) (σ.1 23) (σ.1 22) (σ.2.1 49) (σ.2.1 51) ∧ ((σ.1 16) + (σ.1 21) ≤ 20000) ∧ (¬ (σ.1 27) = 0 → 1 ≤ (σ.1 21) ∧ 0 ≤ σ.2.1 49 ((σ.1 21) - 1) ∧ σ.2.1 49 ((σ.1 21) - 1) < 65536) ∧ ((σ.1 26) ≤ 1000000) ∧ ((σ.1 25) ≤ 2 → (σ.1 27) = 0) from by (first | (intro z; exfalso; omega) | exact q34_21 | exact q37_21 | exact q40_21 | (intro z y; exact ⟨q31_2 z, q31_3 z, q31_4 z, q31_5 z, q31_6 z⟩) | (first | (intro z; exfalso; omega) | (intro z y; exfalso; omega) | exact fun _ => spx | (intro z y; exact spx (by omega))) | fail)), (show 2 = 0 → (σ.1 15) ≤ (σ.1 16) ∧ σ.2.1 36 (σ.1 15) ≤ (σ.1 16) from by (first | (intro z; exfalso; omega) | exact q34_22 | exact q37_22 | exact q40_22 | (intro z; first | exact sux | omega) | fail)), (show 2 = 0 → (σ.1 9) ≤ (σ.1 7) from by (first | (intro z; exfalso; omega) | exact q34_23 | exact q37_23 | exact q40_23 | (intro z; omega) | fail)), (show j_rr ((σ.1 5)) (σ.2.1 10) (σ.2.1 10) from by (first | exact j_rr0 _ _ | exact q34_24 | exact q37_24 | exact q40_24 | (rw [G10]; exact j_rr0 _ _) | fail)), (show j_eq (σ.2.1 36 (σ.1 15)) (σ.2.1 37) (σ.2.1 37) from CH), (show (σ.1 12) ≤ (σ.1 12) + 1 from by (first | assumption | omega | (simp only [st_s] <;> omega) | fail)), (show c_Y σ (s_v σ 34 0) from by (first | exact c_Y0 _ | exact c_Y_g W4 G11 G20 G22 G25 | exact q34_27 | exact q37_27 | exact q40_27 | exact c_Y_g (by omega) (by rw [g11_τ33]) (by rw [g20_τ33]) (by rw [g22_τ33]) (by rw [g25_τ33]) | fail)), ag⟩
      ·
        refine h60 _ _ _ _ ?_
        refine ⟨(show 0 ≤ 1 ∧ 1 ≤ 1 from by (first | assumption | omega | (simp only [st_s] <;> omega) | fail)), ?_⟩
        replace ag := ag_v (i := 34) (x := 1) ag (Or.inl rfl)
        replace hT := cT_v (i := 34) hT (show (0 : Int) ≤ 1 ∧ 1 ≤ 1 from by (first | assumption | omega | (simp only [st_s] <;> omega) | fail))
        refine ⟨fun c45 => ?_, fun c45 => ?_⟩
        ·
          exact ⟨hT, (show 0 ≤ 0 ∧ 0 ≤ 19 from by (first | assumption | omega | (simp only [st_s] <;> omega) | fail)), (show J_ht (σ.1 3) (σ.2.1 2) (σ.2.1 3) (σ.2.1 5) (σ.2.1 6) from HT), (show J_mn (σ.1 3) (σ.1 5) ((σ.1 7) + 1) (σ.2.1 4) from MN), (show J_rks (σ.1 5) (σ.1 4) (σ.2.1 10) (σ.2.1 11) from RKS), (show J_vs (σ.1 8) (σ.1 5) (σ.2.1 20) from VS), (show J_vs (σ.1 6) (σ.1 5) (σ.2.1 15) from TX), (show J_va (σ.1 8) 1000 (σ.2.1 18) (σ.2.1 20) from VA), (show J_mk (σ.1 11) (σ.1 8) (σ.1 9) (σ.1 10) (σ.2.1 25) from MK), (show J_sc (σ.1 7) (σ.1 9) (σ.2.1 13) (σ.2.1 14) (σ.2.1 15) (σ.2.1 16) (σ.2.1 22) (σ.2.1 19) from SC), (show J_ff (σ.1 5) (σ.1 7) (σ.2.1 9) (σ.2.1 13) (σ.2.1 14) (σ.2.1 15) from FF), (show ∀ s : Int, σ.2.1 26 s ≤ (σ.1 12) from MT), (show J_all (σ.1 7) (σ.1 6) (σ.1 13) (σ.1 14) (σ.1 15) (σ.2.1 13) (σ.2.1 14) (σ.2.1 15) (σ.2.1 16) (σ.2.1 10) (σ.2.1 27) (σ.2.1 28) (σ.2.1 29) (σ.2.1 30) (σ.2.1 31) (σ.2.1 32) (σ.2.1 33) (σ.2.1 34) (σ.2.1 35) (σ.2.1 36) (σ.2.1 37) from CJ), (show J_bp (σ.2.1 44) (σ.2.1 45) from BP), (show J_nl (σ.1 3) (σ.2.1 2) (σ.2.1 3) (σ.2.1 4) from NL), (show 0 = 0 → J_rs (σ.1 35) (σ.1 7) (σ.1 6) (σ.1 36) (σ.1 37) (σ.1 5) (σ.1 8) (σ.2.1 14) from by (first | (intro z; exfalso; omega) | exact q34_15 | exact q37_15 | exact q40_15 | (first | (intro z; exfalso; omega) | (intro z; unfold J_rs; omega) | (intro z; unfold J_rs; rw [G14, W7]; omega)) | fail)), (show 0 = 0 → 5 ≤ (σ.1 35) → 1 ≤ (σ.1 36) → 0 ≤ σ.2.1 10 (σ.2.1 15 (σ.2.1 14 (σ.1 7))) from by (first | (intro z; exfalso; omega) | exact q34_16 | exact q37_16 | exact q40_16 | (first | (intro z; exfalso; omega) | (intro z y; exfalso; omega) | exact fun _ => uc | (intro z y y2; exact uc (by omega) (by omega)) | (intro z y y2; exfalso; omega) | (intro z y y2; rw [G10, G14, G15, W7]; exact uc (by omega) (by omega))) | fail)), (show 0 = 0 → (σ.1 35) = 4 → j_in (σ.1 36) 1000 (σ.2.1 54) from by (first | (intro z; exfalso; omega) | exact q34_17 | exact q37_17 | exact q40_17 | (first | (intro z; exfalso; omega) | (intro z y; exfalso; omega) | exact fun _ => dj) | fail)), (show 0 = 0 → 5 ≤ (σ.1 35) → J_ip (σ.1 7) (σ.1 6) (σ.1 37) (σ.2.1 14) (σ.2.1 15) (σ.2.1 16) (σ.2.1 19) from by (first | (intro z; exfalso; omega) | exact q34_18 | exact q37_18 | exact q40_18 | (first | (intro z; exfalso; omega) | (intro z y; exfalso; omega) | exact fun _ => ipx | (intro z y; exact ipx (by omega)) | (intro z y; rw [W7, W6, W37, G14, G15, G16, G19]; exact ipx (by omega))) | fail)), (show 0 = 0 → ((σ.1 35) ≤ 5 → (σ.1 13) ≤ 60 * (σ.1 7)) ∧ (σ.1 13) ≤ 60 * (σ.1 7) + 60 from by (first | (intro z; exfalso; omega) | exact q34_19 | exact q37_19 | exact q40_19 | (intro z; omega) | fail)), (show 0 = 0 → 6 ≤ (σ.1 35) → (σ.1 24) = (σ.1 7) ∧ J_f (σ.1 7) (σ.1 13) (σ.1 14) (σ.2.1 13) (σ.2.1 14) (σ.2.1 15) (σ.2.1 16) (σ.2.1 27) (σ.2.1 28) (σ.2.1 29) (σ.2.1 30) (σ.2.1 31) (σ.2.1 32) from by (first | (intro z; exfalso; omega) | exact q34_20 | exact q37_20 | exact q40_20 | (intro z y; have w := frx (by omega); rw [W7, W13, W14, w24_τ33, G13, G14, G15, G16, G27, G28, G29, G30, G31, G32]; exact w) | (first | (intro z; exfalso; omega) | (intro z y; exfalso; omega) | exact fun _ => frx | (intro z y; exact frx (by omega)) | (intro z y; have w := frx (by omega); rw [W7, W13, W14, W24, G13, G14, G15, G16, G27, G28, G29, G30, G31, G32]; exact w)) | fail)), (show 0 = 0 → 6 ≤ (σ.1 35) → J_sp (σ.1 24) (σ.1 21) (σ.1 23) (σ.1 22) (σ.2.1 49) (σ.2.1 51) ∧ ((σ.1 16) + (σ.1 21) ≤ 20000) ∧ (¬ (σ.1 27) = 0 → 1 ≤ (σ.1 21) ∧ 0 ≤ σ.2.1 49 ((σ.1 21) - 1) ∧ σ.2.1 49 ((σ.1 21) - 1) < 65536) ∧ ((σ.1 26) ≤ 1000000) ∧ ((σ.1 25) ≤ 2 → (σ.1 27) = 0) from by (first | (intro z; exfalso; omega) | exact q34_21 | exact q37_21 | exact q40_21 | (intro z y; exact ⟨q31_2 z, q31_3 z, q31_4 z, q31_5 z, q31_6 z⟩) | (first | (intro z; exfalso; omega) | (intro z y; exfalso; omega) | exact fun _ => spx | (intro z y; exact spx (by omega))) | fail)), (show 0 = 0 → (σ.1 15) ≤ (σ.1 16) ∧ σ.2.1 36 (σ.1 15) ≤ (σ.1 16) from by (first | (intro z; exfalso; omega) | exact q34_22 | exact q37_22 | exact q40_22 | (intro z; first | exact sux | omega) | fail)), (show 0 = 0 → (σ.1 9) ≤ (σ.1 7) from by (first | (intro z; exfalso; omega) | exact q34_23 | exact q37_23 | exact q40_23 | (intro z; omega) | fail)), (show j_rr ((σ.1 5)) (σ.2.1 10) (σ.2.1 10) from by (first | exact j_rr0 _ _ | exact q34_24 | exact q37_24 | exact q40_24 | (rw [G10]; exact j_rr0 _ _) | fail)), (show j_eq (σ.2.1 36 (σ.1 15)) (σ.2.1 37) (σ.2.1 37) from CH), (show (σ.1 12) ≤ (σ.1 12) + 1 from by (first | assumption | omega | (simp only [st_s] <;> omega) | fail)), (show c_Y σ (s_v σ 34 1) from by (first | exact c_Y0 _ | exact c_Y_g W4 G11 G20 G22 G25 | exact q34_27 | exact q37_27 | exact q40_27 | exact c_Y_g (by omega) (by rw [g11_τ33]) (by rw [g20_τ33]) (by rw [g22_τ33]) (by rw [g25_τ33]) | fail)), ag⟩
        ·
          refine ⟨_, K_X7_hasCommentMark hT (show 0 ≤ n1 from by (first | assumption | omega | (simp only [st_s] <;> omega) | fail)) (show 0 ≤ n2 from by (first | assumption | omega | (simp only [st_s] <;> omega) | fail)) (show n1 + n2 ≤ 60000 from by (first | assumption | omega | (simp only [st_s] <;> omega) | fail)) (show ¬ σ.1 66 = 0 from by (first | assumption | omega | (simp only [st_s] <;> omega) | fail)), ?_⟩
          intro x47 r_x47 hq
          have q46_1 := hq
          replace q46_1 : 0 ≤ x47 ∧ x47 ≤ 1 := q46_1
          refine ⟨fun c49 => ?_, fun c49 => ?_⟩
          ·
            exact ⟨hT, (show 0 ≤ 0 ∧ 0 ≤ 19 from by (first | assumption | omega | (simp only [st_s] <;> omega) | fail)), (show J_ht (σ.1 3) (σ.2.1 2) (σ.2.1 3) (σ.2.1 5) (σ.2.1 6) from HT), (show J_mn (σ.1 3) (σ.1 5) ((σ.1 7) + 1) (σ.2.1 4) from MN), (show J_rks (σ.1 5) (σ.1 4) (σ.2.1 10) (σ.2.1 11) from RKS), (show J_vs (σ.1 8) (σ.1 5) (σ.2.1 20) from VS), (show J_vs (σ.1 6) (σ.1 5) (σ.2.1 15) from TX), (show J_va (σ.1 8) 1000 (σ.2.1 18) (σ.2.1 20) from VA), (show J_mk (σ.1 11) (σ.1 8) (σ.1 9) (σ.1 10) (σ.2.1 25) from MK), (show J_sc (σ.1 7) (σ.1 9) (σ.2.1 13) (σ.2.1 14) (σ.2.1 15) (σ.2.1 16) (σ.2.1 22) (σ.2.1 19) from SC), (show J_ff (σ.1 5) (σ.1 7) (σ.2.1 9) (σ.2.1 13) (σ.2.1 14) (σ.2.1 15) from FF), (show ∀ s : Int, σ.2.1 26 s ≤ (σ.1 12) from MT), (show J_all (σ.1 7) (σ.1 6) (σ.1 13) (σ.1 14) (σ.1 15) (σ.2.1 13) (σ.2.1 14) (σ.2.1 15) (σ.2.1 16) (σ.2.1 10) (σ.2.1 27) (σ.2.1 28) (σ.2.1 29) (σ.2.1 30) (σ.2.1 31) (σ.2.1 32) (σ.2.1 33) (σ.2.1 34) (σ.2.1 35) (σ.2.1 36) (σ.2.1 37) from CJ), (show J_bp (σ.2.1 44) (σ.2.1 45) from BP), (show J_nl (σ.1 3) (σ.2.1 2) (σ.2.1 3) (σ.2.1 4) from NL), (show 0 = 0 → J_rs (σ.1 35) (σ.1 7) (σ.1 6) (σ.1 36) (σ.1 37) (σ.1 5) (σ.1 8) (σ.2.1 14) from by (first | (intro z; exfalso; omega) | exact q34_15 | exact q37_15 | exact q40_15 | (first | (intro z; exfalso; omega) | (intro z; unfold J_rs; omega) | (intro z; unfold J_rs; rw [G14, W7]; omega)) | fail)), (show 0 = 0 → 5 ≤ (σ.1 35) → 1 ≤ (σ.1 36) → 0 ≤ σ.2.1 10 (σ.2.1 15 (σ.2.1 14 (σ.1 7))) from by (first | (intro z; exfalso; omega) | exact q34_16 | exact q37_16 | exact q40_16 | (first | (intro z; exfalso; omega) | (intro z y; exfalso; omega) | exact fun _ => uc | (intro z y y2; exact uc (by omega) (by omega)) | (intro z y y2; exfalso; omega) | (intro z y y2; rw [G10, G14, G15, W7]; exact uc (by omega) (by omega))) | fail)), (show 0 = 0 → (σ.1 35) = 4 → j_in (σ.1 36) 1000 (σ.2.1 54) from by (first | (intro z; exfalso; omega) | exact q34_17 | exact q37_17 | exact q40_17 | (first | (intro z; exfalso; omega) | (intro z y; exfalso; omega) | exact fun _ => dj) | fail)), (show 0 = 0 → 5 ≤ (σ.1 35) → J_ip (σ.1 7) (σ.1 6) (σ.1 37) (σ.2.1 14) (σ.2.1 15) (σ.2.1 16) (σ.2.1 19) from by (first | (intro z; exfalso; omega) | exact q34_18 | exact q37_18 | exact q40_18 | (first | (intro z; exfalso; omega) | (intro z y; exfalso; omega) | exact fun _ => ipx | (intro z y; exact ipx (by omega)) | (intro z y; rw [W7, W6, W37, G14, G15, G16, G19]; exact ipx (by omega))) | fail)), (show 0 = 0 → ((σ.1 35) ≤ 5 → (σ.1 13) ≤ 60 * (σ.1 7)) ∧ (σ.1 13) ≤ 60 * (σ.1 7) + 60 from by (first | (intro z; exfalso; omega) | exact q34_19 | exact q37_19 | exact q40_19 | (intro z; omega) | fail)), (show 0 = 0 → 6 ≤ (σ.1 35) → (σ.1 24) = (σ.1 7) ∧ J_f (σ.1 7) (σ.1 13) (σ.1 14) (σ.2.1 13) (σ.2.1 14) (σ.2.1 15) (σ.2.1 16) (σ.2.1 27) (σ.2.1 28) (σ.2.1 29) (σ.2.1 30) (σ.2.1 31) (σ.2.1 32) from by (first | (intro z; exfalso; omega) | exact q34_20 | exact q37_20 | exact q40_20 | (intro z y; have w := frx (by omega); rw [W7, W13, W14, w24_τ33, G13, G14, G15, G16, G27, G28, G29, G30, G31, G32]; exact w) | (first | (intro z; exfalso; omega) | (intro z y; exfalso; omega) | exact fun _ => frx | (intro z y; exact frx (by omega)) | (intro z y; have w := frx (by omega); rw [W7, W13, W14, W24, G13, G14, G15, G16, G27, G28, G29, G30, G31, G32]; exact w)) | fail)), (show 0 = 0 → 6 ≤ (σ.1 35) → J_sp (σ.1 24) (σ.1 21) (σ.1 23) (σ.1 22) (σ.2.1 49) (σ.2.1 51) ∧ ((σ.1 16) + (σ.1 21) ≤ 20000) ∧ (¬ (σ.1 27) = 0 → 1 ≤ (σ.1 21) ∧ 0 ≤ σ.2.1 49 ((σ.1 21) - 1) ∧ σ.2.1 49 ((σ.1 21) - 1) < 65536) ∧ ((σ.1 26) ≤ 1000000) ∧ ((σ.1 25) ≤ 2 → (σ.1 27) = 0) from by (first | (intro z; exfalso; omega) | exact q34_21 | exact q37_21 | exact q40_21 | (intro z y; exact ⟨q31_2 z, q31_3 z, q31_4 z, q31_5 z, q31_6 z⟩) | (first | (intro z; exfalso; omega) | (intro z y; exfalso; omega) | exact fun _ => spx | (intro z y; exact spx (by omega))) | fail)), (show 0 = 0 → (σ.1 15) ≤ (σ.1 16) ∧ σ.2.1 36 (σ.1 15) ≤ (σ.1 16) from by (first | (intro z; exfalso; omega) | exact q34_22 | exact q37_22 | exact q40_22 | (intro z; first | exact sux | omega) | fail)), (show 0 = 0 → (σ.1 9) ≤ (σ.1 7) from by (first | (intro z; exfalso; omega) | exact q34_23 | exact q37_23 | exact q40_23 | (intro z; omega) | fail)), (show j_rr ((σ.1 5)) (σ.2.1 10) (σ.2.1 10) from by (first | exact j_rr0 _ _ | exact q34_24 | exact q37_24 | exact q40_24 | (rw [G10]; exact j_rr0 _ _) | fail)), (show j_eq (σ.2.1 36 (σ.1 15)) (σ.2.1 37) (σ.2.1 37) from CH), (show (σ.1 12) ≤ (σ.1 12) + 1 from by (first | assumption | omega | (simp only [st_s] <;> omega) | fail)), (show c_Y σ (s_v σ 34 1) from by (first | exact c_Y0 _ | exact c_Y_g W4 G11 G20 G22 G25 | exact q34_27 | exact q37_27 | exact q40_27 | exact c_Y_g (by omega) (by rw [g11_τ33]) (by rw [g20_τ33]) (by rw [g22_τ33]) (by rw [g25_τ33]) | fail)), ag⟩
          ·
            exact ⟨hT, (show 0 ≤ 2 ∧ 2 ≤ 19 from by (first | assumption | omega | (simp only [st_s] <;> omega) | fail)), (show J_ht (σ.1 3) (σ.2.1 2) (σ.2.1 3) (σ.2.1 5) (σ.2.1 6) from HT), (show J_mn (σ.1 3) (σ.1 5) ((σ.1 7) + 1) (σ.2.1 4) from MN), (show J_rks (σ.1 5) (σ.1 4) (σ.2.1 10) (σ.2.1 11) from RKS), (show J_vs (σ.1 8) (σ.1 5) (σ.2.1 20) from VS), (show J_vs (σ.1 6) (σ.1 5) (σ.2.1 15) from TX), (show J_va (σ.1 8) 1000 (σ.2.1 18) (σ.2.1 20) from VA), (show J_mk (σ.1 11) (σ.1 8) (σ.1 9) (σ.1 10) (σ.2.1 25) from MK), (show J_sc (σ.1 7) (σ.1 9) (σ.2.1 13) (σ.2.1 14) (σ.2.1 15) (σ.2.1 16) (σ.2.1 22) (σ.2.1 19) from SC), (show J_ff (σ.1 5) (σ.1 7) (σ.2.1 9) (σ.2.1 13) (σ.2.1 14) (σ.2.1 15) from FF), (show ∀ s : Int, σ.2.1 26 s ≤ (σ.1 12) from MT), (show J_all (σ.1 7) (σ.1 6) (σ.1 13) (σ.1 14) (σ.1 15) (σ.2.1 13) (σ.2.1 14) (σ.2.1 15) (σ.2.1 16) (σ.2.1 10) (σ.2.1 27) (σ.2.1 28) (σ.2.1 29) (σ.2.1 30) (σ.2.1 31) (σ.2.1 32) (σ.2.1 33) (σ.2.1 34) (σ.2.1 35) (σ.2.1 36) (σ.2.1 37) from CJ), (show J_bp (σ.2.1 44) (σ.2.1 45) from BP), (show J_nl (σ.1 3) (σ.2.1 2) (σ.2.1 3) (σ.2.1 4) from NL), (show 2 = 0 → J_rs (σ.1 35) (σ.1 7) (σ.1 6) (σ.1 36) (σ.1 37) (σ.1 5) (σ.1 8) (σ.2.1 14) from by (first | (intro z; exfalso; omega) | exact q34_15 | exact q37_15 | exact q40_15 | (first | (intro z; exfalso; omega) | (intro z; unfold J_rs; omega) | (intro z; unfold J_rs; rw [G14, W7]; omega)) | fail)), (show 2 = 0 → 5 ≤ (σ.1 35) → 1 ≤ (σ.1 36) → 0 ≤ σ.2.1 10 (σ.2.1 15 (σ.2.1 14 (σ.1 7))) from by (first | (intro z; exfalso; omega) | exact q34_16 | exact q37_16 | exact q40_16 | (first | (intro z; exfalso; omega) | (intro z y; exfalso; omega) | exact fun _ => uc | (intro z y y2; exact uc (by omega) (by omega)) | (intro z y y2; exfalso; omega) | (intro z y y2; rw [G10, G14, G15, W7]; exact uc (by omega) (by omega))) | fail)), (show 2 = 0 → (σ.1 35) = 4 → j_in (σ.1 36) 1000 (σ.2.1 54) from by (first | (intro z; exfalso; omega) | exact q34_17 | exact q37_17 | exact q40_17 | (first | (intro z; exfalso; omega) | (intro z y; exfalso; omega) | exact fun _ => dj) | fail)), (show 2 = 0 → 5 ≤ (σ.1 35) → J_ip (σ.1 7) (σ.1 6) (σ.1 37) (σ.2.1 14) (σ.2.1 15) (σ.2.1 16) (σ.2.1 19) from by (first | (intro z; exfalso; omega) | exact q34_18 | exact q37_18 | exact q40_18 | (first | (intro z; exfalso; omega) | (intro z y; exfalso; omega) | exact fun _ => ipx | (intro z y; exact ipx (by omega)) | (intro z y; rw [W7, W6, W37, G14, G15, G16, G19]; exact ipx (by omega))) | fail)), (show 2 = 0 → ((σ.1 35) ≤ 5 → (σ.1 13) ≤ 60 * (σ.1 7)) ∧ (σ.1 13) ≤ 60 * (σ.1 7) + 60 from by (first | (intro z; exfalso; omega) | exact q34_19 | exact q37_19 | exact q40_19 | (intro z; omega) | fail)), (show 2 = 0 → 6 ≤ (σ.1 35) → (σ.1 24) = (σ.1 7) ∧ J_f (σ.1 7) (σ.1 13) (σ.1 14) (σ.2.1 13) (σ.2.1 14) (σ.2.1 15) (σ.2.1 16) (σ.2.1 27) (σ.2.1 28) (σ.2.1 29) (σ.2.1 30) (σ.2.1 31) (σ.2.1 32) from by (first | (intro z; exfalso; omega) | exact q34_20 | exact q37_20 | exact q40_20 | (intro z y; have w := frx (by omega); rw [W7, W13, W14, w24_τ33, G13, G14, G15, G16, G27, G28, G29, G30, G31, G32]; exact w) | (first | (intro z; exfalso; omega) | (intro z y; exfalso; omega) | exact fun _ => frx | (intro z y; exact frx (by omega)) | (intro z y; have w := frx (by omega); rw [W7, W13, W14, W24, G13, G14, G15, G16, G27, G28, G29, G30, G31, G32]; exact w)) | fail)), (show 2 = 0 → 6 ≤ (σ.1 35) → J_sp (σ.1 24) (σ.1 21) (σ.1 23) (σ.1 22) (σ.2.1 49) (σ.2.1 51) ∧ ((σ.1 16) + (σ.1 21) ≤ 20000) ∧ (¬ (σ.1 27) = 0 → 1 ≤ (σ.1 21) ∧ 0 ≤ σ.2.1 49 ((σ.1 21) - 1) ∧ σ.2.1 49 ((σ.1 21) - 1) < 65536) ∧ ((σ.1 26) ≤ 1000000) ∧ ((σ.1 25) ≤ 2 → (σ.1 27) = 0) from by (first | (intro z; exfalso; omega) | exact q34_21 | exact q37_21 | exact q40_21 | (intro z y; exact ⟨q31_2 z, q31_3 z, q31_4 z, q31_5 z, q31_6 z⟩) | (first | (intro z; exfalso; omega) | (intro z y; exfalso; omega) | exact fun _ => spx | (intro z y; exact spx (by omega))) | fail)), (show 2 = 0 → (σ.1 15) ≤ (σ.1 16) ∧ σ.2.1 36 (σ.1 15) ≤ (σ.1 16) from by (first | (intro z; exfalso; omega) | exact q34_22 | exact q37_22 | exact q40_22 | (intro z; first | exact sux | omega) | fail)), (show 2 = 0 → (σ.1 9) ≤ (σ.1 7) from by (first | (intro z; exfalso; omega) | exact q34_23 | exact q37_23 | exact q40_23 | (intro z; omega) | fail)), (show j_rr ((σ.1 5)) (σ.2.1 10) (σ.2.1 10) from by (first | exact j_rr0 _ _ | exact q34_24 | exact q37_24 | exact q40_24 | (rw [G10]; exact j_rr0 _ _) | fail)), (show j_eq (σ.2.1 36 (σ.1 15)) (σ.2.1 37) (σ.2.1 37) from CH), (show (σ.1 12) ≤ (σ.1 12) + 1 from by (first | assumption | omega | (simp only [st_s] <;> omega) | fail)), (show c_Y σ (s_v σ 34 1) from by (first | exact c_Y0 _ | exact c_Y_g W4 G11 G20 G22 G25 | exact q34_27 | exact q37_27 | exact q40_27 | exact c_Y_g (by omega) (by rw [g11_τ33]) (by rw [g20_τ33]) (by rw [g22_τ33]) (by rw [g25_τ33]) | fail)), ag⟩
  have l_21 : ∀ (k0_21 : Int), (0 ≤ k0_21 ∧ k0_21 ≤ 1) → (¬ k0_21 = 0 → n2 = 2) → P21 n1 n2 k0_21 σ := by
    intro k0_21 i21_1 i21_2
    refine h21 n1 n2 k0_21 σ ?_
    refine ⟨fun c6 => ?_, fun c6 => ?_⟩
    ·
      exact l_38 _ _ (show 0 ≤ 0 ∧ 0 ≤ 255 from by (first | assumption | omega | (simp only [st_s] <;> omega) | fail)) (show 0 ≤ k0_21 ∧ k0_21 ≤ 1 from by (first | assumption | omega | (simp only [st_s] <;> omega) | fail))
    ·
      refine ⟨(show ¬ σ.1 66 = 0 from by (first | assumption | omega | (simp only [st_s] <;> omega) | fail)), ?_⟩
      refine ⟨(show 0 ≤ (n1 + 1) ∧ (n1 + 1) < 60000 from by (first | assumption | omega | (simp only [st_s] <;> omega) | fail)), ?_⟩
      intro x9 r_x9 e_x9
      have b_x9 : 0 ≤ x9 ∧ x9 ≤ 255 := by rw [e_x9]; exact hT.2 0 _
      exact l_38 _ _ (show 0 ≤ x9 ∧ x9 ≤ 255 from by (first | assumption | omega | (simp only [st_s] <;> omega) | fail)) (show 0 ≤ k0_21 ∧ k0_21 ≤ 1 from by (first | assumption | omega | (simp only [st_s] <;> omega) | fail))
  refine ⟨fun c1 => ?_, fun c1 => ?_⟩
  ·
    exact l_21 _ (show 0 ≤ 0 ∧ 0 ≤ 1 from by (first | assumption | omega | (simp only [st_s] <;> omega) | fail)) (show ¬ 0 = 0 → n2 = 2 from by (first | assumption | omega | (simp only [st_s] <;> omega) | fail))
  ·
    refine ⟨(show ¬ σ.1 66 = 0 from by (first | assumption | omega | (simp only [st_s] <;> omega) | fail)), ?_⟩
    refine ⟨(show 0 ≤ n1 ∧ n1 < 60000 from by (first | assumption | omega | (simp only [st_s] <;> omega) | fail)), ?_⟩
    intro x4 r_x4 e_x4
    have b_x4 : 0 ≤ x4 ∧ x4 ≤ 255 := by rw [e_x4]; exact hT.2 0 _
    refine ⟨fun c5 => ?_, fun c5 => ?_⟩
    ·
      exact l_21 _ (show 0 ≤ 0 ∧ 0 ≤ 1 from by (first | assumption | omega | (simp only [st_s] <;> omega) | fail)) (show ¬ 0 = 0 → n2 = 2 from by (first | assumption | omega | (simp only [st_s] <;> omega) | fail))
    ·
      exact l_21 _ (show 0 ≤ 1 ∧ 1 ≤ 1 from by (first | assumption | omega | (simp only [st_s] <;> omega) | fail)) (show ¬ 1 = 0 → n2 = 2 from by (first | assumption | omega | (simp only [st_s] <;> omega) | fail))
set_option maxHeartbeats 4000000 in
theorem K_X7_endTheorem {σ : S0} (hT : c_T σ) (p1 : J_ht (σ.1 3) (σ.2.1 2) (σ.2.1 3) (σ.2.1 5) (σ.2.1 6)) (p2 : J_mn (σ.1 3) (σ.1 5) ((σ.1 7) + 1) (σ.2.1 4)) (p3 : J_rks (σ.1 5) (σ.1 4) (σ.2.1 10) (σ.2.1 11)) (p4 : J_vs (σ.1 8) (σ.1 5) (σ.2.1 20)) (p5 : J_vs (σ.1 6) (σ.1 5) (σ.2.1 15)) (p6 : J_va (σ.1 8) 1000 (σ.2.1 18) (σ.2.1 20)) (p7 : J_mk (σ.1 11) (σ.1 8) (σ.1 9) (σ.1 10) (σ.2.1 25)) (p8 : J_sc (σ.1 7) (σ.1 9) (σ.2.1 13) (σ.2.1 14) (σ.2.1 15) (σ.2.1 16) (σ.2.1 22) (σ.2.1 19)) (p9 : J_ff (σ.1 5) (σ.1 7) (σ.2.1 9) (σ.2.1 13) (σ.2.1 14) (σ.2.1 15)) (p10 : ∀ s : Int, σ.2.1 26 s ≤ (σ.1 12)) (p11 : J_all (σ.1 7) (σ.1 6) (σ.1 13) (σ.1 14) (σ.1 15) (σ.2.1 13) (σ.2.1 14) (σ.2.1 15) (σ.2.1 16) (σ.2.1 10) (σ.2.1 27) (σ.2.1 28) (σ.2.1 29) (σ.2.1 30) (σ.2.1 31) (σ.2.1 32) (σ.2.1 33) (σ.2.1 34) (σ.2.1 35) (σ.2.1 36) (σ.2.1 37)) (p12 : J_bp (σ.2.1 44) (σ.2.1 45)) (p13 : J_nl (σ.1 3) (σ.2.1 2) (σ.2.1 3) (σ.2.1 4)) (p14 : J_rs (σ.1 35) (σ.1 7) (σ.1 6) (σ.1 36) (σ.1 37) (σ.1 5) (σ.1 8) (σ.2.1 14)) (p15 : 5 ≤ (σ.1 35) → 1 ≤ (σ.1 36) → 0 ≤ σ.2.1 10 (σ.2.1 15 (σ.2.1 14 (σ.1 7)))) (p16 : (σ.1 35) = 4 → j_in (σ.1 36) 1000 (σ.2.1 54)) (p17 : 5 ≤ (σ.1 35) → J_ip (σ.1 7) (σ.1 6) (σ.1 37) (σ.2.1 14) (σ.2.1 15) (σ.2.1 16) (σ.2.1 19)) (p18 : ((σ.1 35) ≤ 5 → (σ.1 13) ≤ 60 * (σ.1 7)) ∧ (σ.1 13) ≤ 60 * (σ.1 7) + 60) (p19 : 6 ≤ (σ.1 35) → (σ.1 24) = (σ.1 7) ∧ J_f (σ.1 7) (σ.1 13) (σ.1 14) (σ.2.1 13) (σ.2.1 14) (σ.2.1 15) (σ.2.1 16) (σ.2.1 27) (σ.2.1 28) (σ.2.1 29) (σ.2.1 30) (σ.2.1 31) (σ.2.1 32)) (p20 : 6 ≤ (σ.1 35) → J_sp (σ.1 24) (σ.1 21) (σ.1 23) (σ.1 22) (σ.2.1 49) (σ.2.1 51) ∧ ((σ.1 16) + (σ.1 21) ≤ 20000) ∧ (¬ (σ.1 27) = 0 → 1 ≤ (σ.1 21) ∧ 0 ≤ σ.2.1 49 ((σ.1 21) - 1) ∧ σ.2.1 49 ((σ.1 21) - 1) < 65536) ∧ ((σ.1 26) ≤ 1000000) ∧ ((σ.1 25) ≤ 2 → (σ.1 27) = 0)) (p21 : (σ.1 15) ≤ (σ.1 16) ∧ σ.2.1 36 (σ.1 15) ≤ (σ.1 16)) (p22 : (σ.1 9) ≤ (σ.1 7)) (p23 : (σ.1 35) = 7) : W_X7_endTheorem σ (fun (x : Int) (τ : S0) => (c_T τ) ∧ (0 ≤ x ∧ x ≤ 19) ∧ (J_ht (τ.1 3) (τ.2.1 2) (τ.2.1 3) (τ.2.1 5) (τ.2.1 6)) ∧ (J_mn (τ.1 3) (τ.1 5) ((τ.1 7) + 1) (τ.2.1 4)) ∧ (J_rks (τ.1 5) (τ.1 4) (τ.2.1 10) (τ.2.1 11)) ∧ (J_vs (τ.1 8) (τ.1 5) (τ.2.1 20)) ∧ (J_vs (τ.1 6) (τ.1 5) (τ.2.1 15)) ∧ (J_va (τ.1 8) 1000 (τ.2.1 18) (τ.2.1 20)) ∧ (J_mk (τ.1 11) (τ.1 8) (τ.1 9) (τ.1 10) (τ.2.1 25)) ∧ (J_sc (τ.1 7) (τ.1 9) (τ.2.1 13) (τ.2.1 14) (τ.2.1 15) (τ.2.1 16) (τ.2.1 22) (τ.2.1 19)) ∧ (J_ff (τ.1 5) (τ.1 7) (τ.2.1 9) (τ.2.1 13) (τ.2.1 14) (τ.2.1 15)) ∧ (∀ s : Int, τ.2.1 26 s ≤ (τ.1 12)) ∧ (J_all (τ.1 7) (τ.1 6) (τ.1 13) (τ.1 14) (τ.1 15) (τ.2.1 13) (τ.2.1 14) (τ.2.1 15) (τ.2.1 16) (τ.2.1 10) (τ.2.1 27) (τ.2.1 28) (τ.2.1 29) (τ.2.1 30) (τ.2.1 31) (τ.2.1 32) (τ.2.1 33) (τ.2.1 34) (τ.2.1 35) (τ.2.1 36) (τ.2.1 37)) ∧ (J_bp (τ.2.1 44) (τ.2.1 45)) ∧ (J_nl (τ.1 3) (τ.2.1 2) (τ.2.1 3) (τ.2.1 4)) ∧ (x = 0 → J_rs (τ.1 35) (τ.1 7) (τ.1 6) (τ.1 36) (τ.1 37) (τ.1 5) (τ.1 8) (τ.2.1 14)) ∧ (x = 0 → 5 ≤ (τ.1 35) → 1 ≤ (τ.1 36) → 0 ≤ τ.2.1 10 (τ.2.1 15 (τ.2.1 14 (τ.1 7)))) ∧ (x = 0 → (τ.1 35) = 4 → j_in (τ.1 36) 1000 (τ.2.1 54)) ∧ (x = 0 → 5 ≤ (τ.1 35) → J_ip (τ.1 7) (τ.1 6) (τ.1 37) (τ.2.1 14) (τ.2.1 15) (τ.2.1 16) (τ.2.1 19)) ∧ (x = 0 → ((τ.1 35) ≤ 5 → (τ.1 13) ≤ 60 * (τ.1 7)) ∧ (τ.1 13) ≤ 60 * (τ.1 7) + 60) ∧ (x = 0 → 6 ≤ (τ.1 35) → (τ.1 24) = (τ.1 7) ∧ J_f (τ.1 7) (τ.1 13) (τ.1 14) (τ.2.1 13) (τ.2.1 14) (τ.2.1 15) (τ.2.1 16) (τ.2.1 27) (τ.2.1 28) (τ.2.1 29) (τ.2.1 30) (τ.2.1 31) (τ.2.1 32)) ∧ (x = 0 → 6 ≤ (τ.1 35) → J_sp (τ.1 24) (τ.1 21) (τ.1 23) (τ.1 22) (τ.2.1 49) (τ.2.1 51) ∧ ((τ.1 16) + (τ.1 21) ≤ 20000) ∧ (¬ (τ.1 27) = 0 → 1 ≤ (τ.1 21) ∧ 0 ≤ τ.2.1 49 ((τ.1 21) - 1) ∧ τ.2.1 49 ((τ.1 21) - 1) < 65536) ∧ ((τ.1 26) ≤ 1000000) ∧ ((τ.1 25) ≤ 2 → (τ.1 27) = 0)) ∧ (x = 0 → (τ.1 15) ≤ (τ.1 16) ∧ τ.2.1 36 (τ.1 15) ≤ (τ.1 16)) ∧ (x = 0 → (τ.1 9) ≤ (τ.1 7)) ∧ (j_rr ((σ.1 5)) (σ.2.1 10) (τ.2.1 10)) ∧ (j_eq (σ.2.1 36 (σ.1 15)) (σ.2.1 37) (τ.2.1 37)) ∧ ((τ.1 12) ≤ (σ.1 12) + 1) ∧ (c_Y σ τ) ∧ (c_ag σ τ)) := by
  have A2 : ∀ j, 0 ≤ σ.2.1 2 j ∧ σ.2.1 2 j ≤ 65535 := fun j => hT.2 2 j
  have A3 : ∀ j, 0 ≤ σ.2.1 3 j ∧ σ.2.1 3 j ≤ 30000 := fun j => hT.2 3 j
  have A4 : ∀ j, (-1000) ≤ σ.2.1 4 j ∧ σ.2.1 4 j ≤ 1499 := fun j => hT.2 4 j
  have A5 : ∀ j, 0 ≤ σ.2.1 5 j ∧ σ.2.1 5 j ≤ 2500 := fun j => hT.2 5 j
  have A6 : ∀ j, 0 ≤ σ.2.1 6 j ∧ σ.2.1 6 j ≤ 2500 := fun j => hT.2 6 j
  have A8 : ∀ j, 0 ≤ σ.2.1 8 j ∧ σ.2.1 8 j ≤ 1 := fun j => hT.2 8 j
  have A9 : ∀ j, (-1) ≤ σ.2.1 9 j ∧ σ.2.1 9 j ≤ 1499 := fun j => hT.2 9 j
  have A10 : ∀ j, (-1) ≤ σ.2.1 10 j ∧ σ.2.1 10 j ≤ 99 := fun j => hT.2 10 j
  have A11 : ∀ j, 0 ≤ σ.2.1 11 j ∧ σ.2.1 11 j ≤ 999 := fun j => hT.2 11 j
  have A13 : ∀ j, 0 ≤ σ.2.1 13 j ∧ σ.2.1 13 j ≤ 4 := fun j => hT.2 13 j
  have A14 : ∀ j, 0 ≤ σ.2.1 14 j ∧ σ.2.1 14 j ≤ 30000 := fun j => hT.2 14 j
  have A15 : ∀ j, 0 ≤ σ.2.1 15 j ∧ σ.2.1 15 j ≤ 999 := fun j => hT.2 15 j
  have A16 : ∀ j, (-1) ≤ σ.2.1 16 j ∧ σ.2.1 16 j ≤ 1499 := fun j => hT.2 16 j
  have A18 : ∀ j, 0 ≤ σ.2.1 18 j ∧ σ.2.1 18 j ≤ 1 := fun j => hT.2 18 j
  have A19 : ∀ j, (-1) ≤ σ.2.1 19 j ∧ σ.2.1 19 j ≤ 1499 := fun j => hT.2 19 j
  have A20 : ∀ j, 0 ≤ σ.2.1 20 j ∧ σ.2.1 20 j ≤ 999 := fun j => hT.2 20 j
  have A22 : ∀ j, 0 ≤ σ.2.1 22 j ∧ σ.2.1 22 j ≤ 1499 := fun j => hT.2 22 j
  have A23 : ∀ j, 0 ≤ σ.2.1 23 j ∧ σ.2.1 23 j ≤ 999 := fun j => hT.2 23 j
  have A24 : ∀ j, 0 ≤ σ.2.1 24 j ∧ σ.2.1 24 j ≤ 999 := fun j => hT.2 24 j
  have A26 : ∀ j, (-2147483648) ≤ σ.2.1 26 j ∧ σ.2.1 26 j ≤ 2147483647 := fun j => hT.2 26 j
  have A27 : ∀ j, 0 ≤ σ.2.1 27 j ∧ σ.2.1 27 j ≤ 90000 := fun j => hT.2 27 j
  have A28 : ∀ j, 0 ≤ σ.2.1 28 j ∧ σ.2.1 28 j ≤ 60 := fun j => hT.2 28 j
  have A29 : ∀ j, 0 ≤ σ.2.1 29 j ∧ σ.2.1 29 j ≤ 1499 := fun j => hT.2 29 j
  have A30 : ∀ j, 0 ≤ σ.2.1 30 j ∧ σ.2.1 30 j ≤ 20000 := fun j => hT.2 30 j
  have A31 : ∀ j, 0 ≤ σ.2.1 31 j ∧ σ.2.1 31 j ≤ 20000 := fun j => hT.2 31 j
  have A32 : ∀ j, 0 ≤ σ.2.1 32 j ∧ σ.2.1 32 j ≤ 999999 := fun j => hT.2 32 j
  have A33 : ∀ j, 0 ≤ σ.2.1 33 j ∧ σ.2.1 33 j ≤ 20000 := fun j => hT.2 33 j
  have A34 : ∀ j, 0 ≤ σ.2.1 34 j ∧ σ.2.1 34 j ≤ 20000 := fun j => hT.2 34 j
  have A35 : ∀ j, 0 ≤ σ.2.1 35 j ∧ σ.2.1 35 j ≤ 1499 := fun j => hT.2 35 j
  have A36 : ∀ j, 0 ≤ σ.2.1 36 j ∧ σ.2.1 36 j ≤ 20000 := fun j => hT.2 36 j
  have A37 : ∀ j, 0 ≤ σ.2.1 37 j ∧ σ.2.1 37 j ≤ 19999 := fun j => hT.2 37 j
  have A44 : ∀ j, 0 ≤ σ.2.1 44 j ∧ σ.2.1 44 j ≤ 42000 := fun j => hT.2 44 j
  have A45 : ∀ j, 0 ≤ σ.2.1 45 j ∧ σ.2.1 45 j ≤ 1000 := fun j => hT.2 45 j
  have A49 : ∀ j, (-300) ≤ σ.2.1 49 j ∧ σ.2.1 49 j ≤ 67035 := fun j => hT.2 49 j
  have A51 : ∀ j, 0 ≤ σ.2.1 51 j ∧ σ.2.1 51 j ≤ 1499 := fun j => hT.2 51 j
  have A54 : ∀ j, 0 ≤ σ.2.1 54 j ∧ σ.2.1 54 j ≤ 999 := fun j => hT.2 54 j
  have v3 : 0 ≤ σ.1 3 ∧ σ.1 3 ≤ 2500 := hT.1 3
  have v4 : 0 ≤ σ.1 4 ∧ σ.1 4 ≤ 100 := hT.1 4
  have v5 : 0 ≤ σ.1 5 ∧ σ.1 5 ≤ 1000 := hT.1 5
  have v6 : 0 ≤ σ.1 6 ∧ σ.1 6 ≤ 30000 := hT.1 6
  have v7 : 0 ≤ σ.1 7 ∧ σ.1 7 ≤ 1500 := hT.1 7
  have v8 : 0 ≤ σ.1 8 ∧ σ.1 8 ≤ 1000 := hT.1 8
  have v9 : 0 ≤ σ.1 9 ∧ σ.1 9 ≤ 1500 := hT.1 9
  have v10 : 0 ≤ σ.1 10 ∧ σ.1 10 ≤ 1000 := hT.1 10
  have v11 : 0 ≤ σ.1 11 ∧ σ.1 11 ≤ 50 := hT.1 11
  have v12 : (-2147483648) ≤ σ.1 12 ∧ σ.1 12 ≤ 2147483647 := hT.1 12
  have v13 : 0 ≤ σ.1 13 ∧ σ.1 13 ≤ 90000 := hT.1 13
  have v14 : 0 ≤ σ.1 14 ∧ σ.1 14 ≤ 20000 := hT.1 14
  have v15 : 0 ≤ σ.1 15 ∧ σ.1 15 ≤ 20000 := hT.1 15
  have v16 : 0 ≤ σ.1 16 ∧ σ.1 16 ≤ 20000 := hT.1 16
  have v21 : 0 ≤ σ.1 21 ∧ σ.1 21 ≤ 20000 := hT.1 21
  have v22 : 0 ≤ σ.1 22 ∧ σ.1 22 ≤ 300 := hT.1 22
  have v23 : 0 ≤ σ.1 23 ∧ σ.1 23 ≤ 300 := hT.1 23
  have v24 : 0 ≤ σ.1 24 ∧ σ.1 24 ≤ 1499 := hT.1 24
  have v25 : 0 ≤ σ.1 25 ∧ σ.1 25 ≤ 3 := hT.1 25
  have v26 : 0 ≤ σ.1 26 ∧ σ.1 26 ≤ 5000010 := hT.1 26
  have v27 : 0 ≤ σ.1 27 ∧ σ.1 27 ≤ 1 := hT.1 27
  have v28 : 0 ≤ σ.1 28 ∧ σ.1 28 ≤ 1 := hT.1 28
  have v29 : 0 ≤ σ.1 29 ∧ σ.1 29 ≤ 60000 := hT.1 29
  have v33 : 0 ≤ σ.1 33 ∧ σ.1 33 ≤ 60000 := hT.1 33
  have v35 : 0 ≤ σ.1 35 ∧ σ.1 35 ≤ 7 := hT.1 35
  have v36 : 0 ≤ σ.1 36 ∧ σ.1 36 ≤ 1001 := hT.1 36
  have v37 : 0 ≤ σ.1 37 ∧ σ.1 37 ≤ 4 := hT.1 37
  have a14_7 : 0 ≤ σ.2.1 14 (σ.1 7) ∧ σ.2.1 14 (σ.1 7) ≤ 30000 := hT.2 14 _
  have a36_15 : 0 ≤ σ.2.1 36 (σ.1 15) ∧ σ.2.1 36 (σ.1 15) ≤ 20000 := hT.2 36 _
  have W3 : σ.1 3 = σ.1 3 := rfl
  have W4 : σ.1 4 = σ.1 4 := rfl
  have W5 : σ.1 5 = σ.1 5 := rfl
  have W6 : σ.1 6 = σ.1 6 := rfl
  have W8 : σ.1 8 = σ.1 8 := rfl
  have W9 : σ.1 9 = σ.1 9 := rfl
  have W10 : σ.1 10 = σ.1 10 := rfl
  have W11 : σ.1 11 = σ.1 11 := rfl
  have W12 : σ.1 12 = σ.1 12 := rfl
  have W13 : σ.1 13 = σ.1 13 := rfl
  have W14 : σ.1 14 = σ.1 14 := rfl
  have W21 : σ.1 21 = σ.1 21 := rfl
  have W22 : σ.1 22 = σ.1 22 := rfl
  have W24 : σ.1 24 = σ.1 24 := rfl
  have W25 : σ.1 25 = σ.1 25 := rfl
  have W26 : σ.1 26 = σ.1 26 := rfl
  have W27 : σ.1 27 = σ.1 27 := rfl
  have W28 : σ.1 28 = σ.1 28 := rfl
  have W36 : σ.1 36 = σ.1 36 := rfl
  have W37 : σ.1 37 = σ.1 37 := rfl
  have G2 : σ.2.1 2 = σ.2.1 2 := rfl
  have G3 : σ.2.1 3 = σ.2.1 3 := rfl
  have G4 : σ.2.1 4 = σ.2.1 4 := rfl
  have G5 : σ.2.1 5 = σ.2.1 5 := rfl
  have G6 : σ.2.1 6 = σ.2.1 6 := rfl
  have G8 : σ.2.1 8 = σ.2.1 8 := rfl
  have G10 : σ.2.1 10 = σ.2.1 10 := rfl
  have G11 : σ.2.1 11 = σ.2.1 11 := rfl
  have G14 : σ.2.1 14 = σ.2.1 14 := rfl
  have G15 : σ.2.1 15 = σ.2.1 15 := rfl
  have G16 : σ.2.1 16 = σ.2.1 16 := rfl
  have G18 : σ.2.1 18 = σ.2.1 18 := rfl
  have G19 : σ.2.1 19 = σ.2.1 19 := rfl
  have G20 : σ.2.1 20 = σ.2.1 20 := rfl
  have G22 : σ.2.1 22 = σ.2.1 22 := rfl
  have G23 : σ.2.1 23 = σ.2.1 23 := rfl
  have G24 : σ.2.1 24 = σ.2.1 24 := rfl
  have G25 : σ.2.1 25 = σ.2.1 25 := rfl
  have G26 : σ.2.1 26 = σ.2.1 26 := rfl
  have G27 : σ.2.1 27 = σ.2.1 27 := rfl
  have G28 : σ.2.1 28 = σ.2.1 28 := rfl
  have G29 : σ.2.1 29 = σ.2.1 29 := rfl
  have G30 : σ.2.1 30 = σ.2.1 30 := rfl
  have G31 : σ.2.1 31 = σ.2.1 31 := rfl
  have G32 : σ.2.1 32 = σ.2.1 32 := rfl
  have G49 : σ.2.1 49 = σ.2.1 49 := rfl
  have G51 : σ.2.1 51 = σ.2.1 51 := rfl
  have G54 : σ.2.1 54 = σ.2.1 54 := rfl
  have ag : c_ag σ σ := ag_0 σ
  intro P25 P51 P86 h25 h51 h86
  have hT0 := hT
  have t015 : ∀ p : Int, 0 ≤ σ.2.1 15 p ∧ σ.2.1 15 p < 1000 := fun p => ⟨(A15 p).1, by have := (A15 p).2; omega⟩
  have CH := j_eq0 (σ.2.1 36 (σ.1 15)) (σ.2.1 37)
  have jt := c_Jt p11
  have JFx := c_JF jt p8 (fun m => (hT.2 22 m).1) (by omega)
  have FPx := c_FP jt p9 (by omega)
  have uc := p15
  have dj := p16
  have ipx := p17
  have hux := p18
  have frx := p19
  have spx := p20
  have sux := p21
  have hcx := p22
  have rsx := p14
  unfold J_rs at rsx
  have HT : J_ht (σ.1 3) (σ.2.1 2) (σ.2.1 3) (σ.2.1 5) (σ.2.1 6) := p1
  have NL : J_nl (σ.1 3) (σ.2.1 2) (σ.2.1 3) (σ.2.1 4) := p13
  have MN : J_mn (σ.1 3) (σ.1 5) ((σ.1 7) + 1) (σ.2.1 4) := p2
  have VA : J_va (σ.1 8) 1000 (σ.2.1 18) (σ.2.1 20) := p6
  have SC : J_sc (σ.1 7) (σ.1 9) (σ.2.1 13) (σ.2.1 14) (σ.2.1 15) (σ.2.1 16) (σ.2.1 22) (σ.2.1 19) := p8
  have MK : J_mk (σ.1 11) (σ.1 8) (σ.1 9) (σ.1 10) (σ.2.1 25) := p7
  have FF : J_ff (σ.1 5) (σ.1 7) (σ.2.1 9) (σ.2.1 13) (σ.2.1 14) (σ.2.1 15) := p9
  have MT : ∀ s : Int, σ.2.1 26 s ≤ (σ.1 12) := p10
  have VS : J_vs (σ.1 8) (σ.1 5) (σ.2.1 20) := p4
  have TX : J_vs (σ.1 6) (σ.1 5) (σ.2.1 15) := p5
  have RKS : J_rks (σ.1 5) (σ.1 4) (σ.2.1 10) (σ.2.1 11) := p3
  have CJ : J_all (σ.1 7) (σ.1 6) (σ.1 13) (σ.1 14) (σ.1 15) (σ.2.1 13) (σ.2.1 14) (σ.2.1 15) (σ.2.1 16) (σ.2.1 10) (σ.2.1 27) (σ.2.1 28) (σ.2.1 29) (σ.2.1 30) (σ.2.1 31) (σ.2.1 32) (σ.2.1 33) (σ.2.1 34) (σ.2.1 35) (σ.2.1 36) (σ.2.1 37) := p11
  have BP : J_bp (σ.2.1 44) (σ.2.1 45) := p12
  have RS : J_rs (σ.1 35) (σ.1 7) (σ.1 6) (σ.1 36) (σ.1 37) (σ.1 5) (σ.1 8) (σ.2.1 14) := p14
  have BP_0 := BP
  have CH_0 := CH
  have CJ_0 := CJ
  have FF_0 := FF
  have HT_0 := HT
  have MK_0 := MK
  have MN_0 := MN
  have MT_0 := MT
  have NL_0 := NL
  have RKS_0 := RKS
  have RS_0 := RS
  have SC_0 := SC
  have TX_0 := TX
  have VA_0 := VA
  have VS_0 := VS
  have l_51 : ∀ (u1_51 : Int) (k1_51 : Int) (τ_51 : S0), (c_T τ_51) → (c_ag σ τ_51) → (τ_51.1 3 = σ.1 3) → (τ_51.1 4 = σ.1 4) → (τ_51.1 5 = σ.1 5) → (τ_51.1 6 = σ.1 6) → (τ_51.1 8 = σ.1 8) → (τ_51.1 9 = σ.1 9) → (τ_51.1 10 = σ.1 10) → (τ_51.1 11 = σ.1 11) → (τ_51.1 12 = σ.1 12) → (τ_51.1 13 = σ.1 13) → (τ_51.1 14 = σ.1 14) → (τ_51.1 21 = σ.1 21) → (τ_51.1 22 = σ.1 22) → (τ_51.1 24 = σ.1 24) → (τ_51.1 25 = σ.1 25) → (τ_51.1 26 = σ.1 26) → (τ_51.1 27 = σ.1 27) → (τ_51.1 28 = σ.1 28) → (τ_51.1 36 = σ.1 36) → (τ_51.1 37 = σ.1 37) → (τ_51.2.1 2 = σ.2.1 2) → (τ_51.2.1 3 = σ.2.1 3) → (τ_51.2.1 4 = σ.2.1 4) → (τ_51.2.1 5 = σ.2.1 5) → (τ_51.2.1 6 = σ.2.1 6) → (τ_51.2.1 8 = σ.2.1 8) → (τ_51.2.1 10 = σ.2.1 10) → (τ_51.2.1 11 = σ.2.1 11) → (τ_51.2.1 14 = σ.2.1 14) → (τ_51.2.1 15 = σ.2.1 15) → (τ_51.2.1 16 = σ.2.1 16) → (τ_51.2.1 18 = σ.2.1 18) → (τ_51.2.1 19 = σ.2.1 19) → (τ_51.2.1 20 = σ.2.1 20) → (τ_51.2.1 22 = σ.2.1 22) → (τ_51.2.1 23 = σ.2.1 23) → (τ_51.2.1 24 = σ.2.1 24) → (τ_51.2.1 25 = σ.2.1 25) → (τ_51.2.1 26 = σ.2.1 26) → (τ_51.2.1 27 = σ.2.1 27) → (τ_51.2.1 28 = σ.2.1 28) → (τ_51.2.1 29 = σ.2.1 29) → (τ_51.2.1 30 = σ.2.1 30) → (τ_51.2.1 31 = σ.2.1 31) → (τ_51.2.1 32 = σ.2.1 32) → (τ_51.2.1 49 = σ.2.1 49) → (τ_51.2.1 51 = σ.2.1 51) → (τ_51.2.1 54 = σ.2.1 54) → (0 ≤ u1_51 ∧ u1_51 ≤ 19) → (0 ≤ k1_51 ∧ k1_51 ≤ 60000) → (J_bp (τ_51.2.1 44) (τ_51.2.1 45)) → (j_eq (σ.2.1 36 (σ.1 15)) (σ.2.1 37) (τ_51.2.1 37)) → (u1_51 = 0 → J_sp (τ_51.1 24) (τ_51.1 21) (τ_51.1 23) (τ_51.1 22) (τ_51.2.1 49) (τ_51.2.1 51)) → (u1_51 = 0 → (σ.1 28) = 0 → J_r (σ.1 7) (τ_51.1 15) (τ_51.2.1 13) (τ_51.2.1 28) (τ_51.2.1 33) (τ_51.2.1 34) (τ_51.2.1 35) (τ_51.2.1 36) (τ_51.2.1 37)) → (u1_51 = 0 → ∀ r s : Int, (σ.1 15) ≤ r → r ≤ s → s ≤ (τ_51.1 15) → τ_51.2.1 36 r ≤ τ_51.2.1 36 s) → (u1_51 = 0 → (τ_51.1 15) ≤ (σ.1 16) + (σ.1 21) ∧ τ_51.2.1 36 (τ_51.1 15) ≤ (σ.1 16) + (σ.1 21)) → (¬ u1_51 = 0 → (τ_51.1 15) = (σ.1 15)) → ((τ_51.1 16) = (σ.1 16)) → ((τ_51.1 7) = (σ.1 7) ∧ (τ_51.1 35) = (σ.1 35)) → (τ_51.2.1 13 = σ.2.1 13) → (τ_51.2.1 9 = σ.2.1 9) → P51 u1_51 k1_51 τ_51 := by
    intro u1_51 k1_51 τ_51 hT ag W3 W4 W5 W6 W8 W9 W10 W11 W12 W13 W14 W21 W22 W24 W25 W26 W27 W28 W36 W37 G2 G3 G4 G5 G6 G8 G10 G11 G14 G15 G16 G18 G19 G20 G22 G23 G24 G25 G26 G27 G28 G29 G30 G31 G32 G49 G51 G54 i51_1 i51_2 i51_3 i51_4 i51_5 i51_6 i51_7 i51_8 i51_9 i51_10 i51_11 i51_12 i51_13
    have A2 : ∀ j, 0 ≤ τ_51.2.1 2 j ∧ τ_51.2.1 2 j ≤ 65535 := fun j => hT.2 2 j
    have A3 : ∀ j, 0 ≤ τ_51.2.1 3 j ∧ τ_51.2.1 3 j ≤ 30000 := fun j => hT.2 3 j
    have A4 : ∀ j, (-1000) ≤ τ_51.2.1 4 j ∧ τ_51.2.1 4 j ≤ 1499 := fun j => hT.2 4 j
    have A5 : ∀ j, 0 ≤ τ_51.2.1 5 j ∧ τ_51.2.1 5 j ≤ 2500 := fun j => hT.2 5 j
    have A6 : ∀ j, 0 ≤ τ_51.2.1 6 j ∧ τ_51.2.1 6 j ≤ 2500 := fun j => hT.2 6 j
    have A8 : ∀ j, 0 ≤ τ_51.2.1 8 j ∧ τ_51.2.1 8 j ≤ 1 := fun j => hT.2 8 j
    have A9 : ∀ j, (-1) ≤ τ_51.2.1 9 j ∧ τ_51.2.1 9 j ≤ 1499 := fun j => hT.2 9 j
    have A10 : ∀ j, (-1) ≤ τ_51.2.1 10 j ∧ τ_51.2.1 10 j ≤ 99 := fun j => hT.2 10 j
    have A11 : ∀ j, 0 ≤ τ_51.2.1 11 j ∧ τ_51.2.1 11 j ≤ 999 := fun j => hT.2 11 j
    have A13 : ∀ j, 0 ≤ τ_51.2.1 13 j ∧ τ_51.2.1 13 j ≤ 4 := fun j => hT.2 13 j
    have A14 : ∀ j, 0 ≤ τ_51.2.1 14 j ∧ τ_51.2.1 14 j ≤ 30000 := fun j => hT.2 14 j
    have A15 : ∀ j, 0 ≤ τ_51.2.1 15 j ∧ τ_51.2.1 15 j ≤ 999 := fun j => hT.2 15 j
    have A16 : ∀ j, (-1) ≤ τ_51.2.1 16 j ∧ τ_51.2.1 16 j ≤ 1499 := fun j => hT.2 16 j
    have A18 : ∀ j, 0 ≤ τ_51.2.1 18 j ∧ τ_51.2.1 18 j ≤ 1 := fun j => hT.2 18 j
    have A19 : ∀ j, (-1) ≤ τ_51.2.1 19 j ∧ τ_51.2.1 19 j ≤ 1499 := fun j => hT.2 19 j
    have A20 : ∀ j, 0 ≤ τ_51.2.1 20 j ∧ τ_51.2.1 20 j ≤ 999 := fun j => hT.2 20 j
    have A22 : ∀ j, 0 ≤ τ_51.2.1 22 j ∧ τ_51.2.1 22 j ≤ 1499 := fun j => hT.2 22 j
    have A23 : ∀ j, 0 ≤ τ_51.2.1 23 j ∧ τ_51.2.1 23 j ≤ 999 := fun j => hT.2 23 j
    have A24 : ∀ j, 0 ≤ τ_51.2.1 24 j ∧ τ_51.2.1 24 j ≤ 999 := fun j => hT.2 24 j
    have A26 : ∀ j, (-2147483648) ≤ τ_51.2.1 26 j ∧ τ_51.2.1 26 j ≤ 2147483647 := fun j => hT.2 26 j
    have A27 : ∀ j, 0 ≤ τ_51.2.1 27 j ∧ τ_51.2.1 27 j ≤ 90000 := fun j => hT.2 27 j
    have A28 : ∀ j, 0 ≤ τ_51.2.1 28 j ∧ τ_51.2.1 28 j ≤ 60 := fun j => hT.2 28 j
    have A29 : ∀ j, 0 ≤ τ_51.2.1 29 j ∧ τ_51.2.1 29 j ≤ 1499 := fun j => hT.2 29 j
    have A30 : ∀ j, 0 ≤ τ_51.2.1 30 j ∧ τ_51.2.1 30 j ≤ 20000 := fun j => hT.2 30 j
    have A31 : ∀ j, 0 ≤ τ_51.2.1 31 j ∧ τ_51.2.1 31 j ≤ 20000 := fun j => hT.2 31 j
    have A32 : ∀ j, 0 ≤ τ_51.2.1 32 j ∧ τ_51.2.1 32 j ≤ 999999 := fun j => hT.2 32 j
    have A33 : ∀ j, 0 ≤ τ_51.2.1 33 j ∧ τ_51.2.1 33 j ≤ 20000 := fun j => hT.2 33 j
    have A34 : ∀ j, 0 ≤ τ_51.2.1 34 j ∧ τ_51.2.1 34 j ≤ 20000 := fun j => hT.2 34 j
    have A35 : ∀ j, 0 ≤ τ_51.2.1 35 j ∧ τ_51.2.1 35 j ≤ 1499 := fun j => hT.2 35 j
    have A36 : ∀ j, 0 ≤ τ_51.2.1 36 j ∧ τ_51.2.1 36 j ≤ 20000 := fun j => hT.2 36 j
    have A37 : ∀ j, 0 ≤ τ_51.2.1 37 j ∧ τ_51.2.1 37 j ≤ 19999 := fun j => hT.2 37 j
    have A44 : ∀ j, 0 ≤ τ_51.2.1 44 j ∧ τ_51.2.1 44 j ≤ 42000 := fun j => hT.2 44 j
    have A45 : ∀ j, 0 ≤ τ_51.2.1 45 j ∧ τ_51.2.1 45 j ≤ 1000 := fun j => hT.2 45 j
    have A49 : ∀ j, (-300) ≤ τ_51.2.1 49 j ∧ τ_51.2.1 49 j ≤ 67035 := fun j => hT.2 49 j
    have A51 : ∀ j, 0 ≤ τ_51.2.1 51 j ∧ τ_51.2.1 51 j ≤ 1499 := fun j => hT.2 51 j
    have A54 : ∀ j, 0 ≤ τ_51.2.1 54 j ∧ τ_51.2.1 54 j ≤ 999 := fun j => hT.2 54 j
    have v3 : 0 ≤ τ_51.1 3 ∧ τ_51.1 3 ≤ 2500 := hT.1 3
    have v4 : 0 ≤ τ_51.1 4 ∧ τ_51.1 4 ≤ 100 := hT.1 4
    have v5 : 0 ≤ τ_51.1 5 ∧ τ_51.1 5 ≤ 1000 := hT.1 5
    have v6 : 0 ≤ τ_51.1 6 ∧ τ_51.1 6 ≤ 30000 := hT.1 6
    have v7 : 0 ≤ τ_51.1 7 ∧ τ_51.1 7 ≤ 1500 := hT.1 7
    have v8 : 0 ≤ τ_51.1 8 ∧ τ_51.1 8 ≤ 1000 := hT.1 8
    have v9 : 0 ≤ τ_51.1 9 ∧ τ_51.1 9 ≤ 1500 := hT.1 9
    have v10 : 0 ≤ τ_51.1 10 ∧ τ_51.1 10 ≤ 1000 := hT.1 10
    have v11 : 0 ≤ τ_51.1 11 ∧ τ_51.1 11 ≤ 50 := hT.1 11
    have v12 : (-2147483648) ≤ τ_51.1 12 ∧ τ_51.1 12 ≤ 2147483647 := hT.1 12
    have v13 : 0 ≤ τ_51.1 13 ∧ τ_51.1 13 ≤ 90000 := hT.1 13
    have v14 : 0 ≤ τ_51.1 14 ∧ τ_51.1 14 ≤ 20000 := hT.1 14
    have v15 : 0 ≤ τ_51.1 15 ∧ τ_51.1 15 ≤ 20000 := hT.1 15
    have v16 : 0 ≤ τ_51.1 16 ∧ τ_51.1 16 ≤ 20000 := hT.1 16
    have v21 : 0 ≤ τ_51.1 21 ∧ τ_51.1 21 ≤ 20000 := hT.1 21
    have v22 : 0 ≤ τ_51.1 22 ∧ τ_51.1 22 ≤ 300 := hT.1 22
    have v23 : 0 ≤ τ_51.1 23 ∧ τ_51.1 23 ≤ 300 := hT.1 23
    have v24 : 0 ≤ τ_51.1 24 ∧ τ_51.1 24 ≤ 1499 := hT.1 24
    have v25 : 0 ≤ τ_51.1 25 ∧ τ_51.1 25 ≤ 3 := hT.1 25
    have v26 : 0 ≤ τ_51.1 26 ∧ τ_51.1 26 ≤ 5000010 := hT.1 26
    have v27 : 0 ≤ τ_51.1 27 ∧ τ_51.1 27 ≤ 1 := hT.1 27
    have v28 : 0 ≤ τ_51.1 28 ∧ τ_51.1 28 ≤ 1 := hT.1 28
    have v29 : 0 ≤ τ_51.1 29 ∧ τ_51.1 29 ≤ 60000 := hT.1 29
    have v33 : 0 ≤ τ_51.1 33 ∧ τ_51.1 33 ≤ 60000 := hT.1 33
    have v35 : 0 ≤ τ_51.1 35 ∧ τ_51.1 35 ≤ 7 := hT.1 35
    have v36 : 0 ≤ τ_51.1 36 ∧ τ_51.1 36 ≤ 1001 := hT.1 36
    have v37 : 0 ≤ τ_51.1 37 ∧ τ_51.1 37 ≤ 4 := hT.1 37
    have a14_7 : 0 ≤ τ_51.2.1 14 (τ_51.1 7) ∧ τ_51.2.1 14 (τ_51.1 7) ≤ 30000 := hT.2 14 _
    have a36_15 : 0 ≤ τ_51.2.1 36 (τ_51.1 15) ∧ τ_51.2.1 36 (τ_51.1 15) ≤ 20000 := hT.2 36 _
    have av7 : σ.1 7 ≤ τ_51.1 7 := ag.1 7 (by decide)
    have av15 : σ.1 15 ≤ τ_51.1 15 := ag.1 15 (by decide)
    have av16 : σ.1 16 ≤ τ_51.1 16 := ag.1 16 (by decide)
    have HT : J_ht (τ_51.1 3) (τ_51.2.1 2) (τ_51.2.1 3) (τ_51.2.1 5) (τ_51.2.1 6) := by rw [show (J_ht (τ_51.1 3) (τ_51.2.1 2) (τ_51.2.1 3) (τ_51.2.1 5) (τ_51.2.1 6)) = (J_ht (σ.1 3) (σ.2.1 2) (σ.2.1 3) (σ.2.1 5) (σ.2.1 6)) from by rw [W3, G2, G3, G5, G6]]; exact HT_0
    have NL : J_nl (τ_51.1 3) (τ_51.2.1 2) (τ_51.2.1 3) (τ_51.2.1 4) := by rw [show (J_nl (τ_51.1 3) (τ_51.2.1 2) (τ_51.2.1 3) (τ_51.2.1 4)) = (J_nl (σ.1 3) (σ.2.1 2) (σ.2.1 3) (σ.2.1 4)) from by rw [W3, G2, G3, G4]]; exact NL_0
    have VA : J_va (τ_51.1 8) 1000 (τ_51.2.1 18) (τ_51.2.1 20) := by rw [show (J_va (τ_51.1 8) 1000 (τ_51.2.1 18) (τ_51.2.1 20)) = (J_va (σ.1 8) 1000 (σ.2.1 18) (σ.2.1 20)) from by rw [W8, G18, G20]]; exact VA_0
    have MK : J_mk (τ_51.1 11) (τ_51.1 8) (τ_51.1 9) (τ_51.1 10) (τ_51.2.1 25) := by rw [show (J_mk (τ_51.1 11) (τ_51.1 8) (τ_51.1 9) (τ_51.1 10) (τ_51.2.1 25)) = (J_mk (σ.1 11) (σ.1 8) (σ.1 9) (σ.1 10) (σ.2.1 25)) from by rw [W8, W9, W10, W11, G25]]; exact MK_0
    have MT : ∀ s : Int, τ_51.2.1 26 s ≤ (τ_51.1 12) := by rw [show (∀ s : Int, τ_51.2.1 26 s ≤ (τ_51.1 12)) = (∀ s : Int, σ.2.1 26 s ≤ (σ.1 12)) from by rw [W12, G26]]; exact MT_0
    have VS : J_vs (τ_51.1 8) (τ_51.1 5) (τ_51.2.1 20) := by rw [show (J_vs (τ_51.1 8) (τ_51.1 5) (τ_51.2.1 20)) = (J_vs (σ.1 8) (σ.1 5) (σ.2.1 20)) from by rw [W5, W8, G20]]; exact VS_0
    have TX : J_vs (τ_51.1 6) (τ_51.1 5) (τ_51.2.1 15) := by rw [show (J_vs (τ_51.1 6) (τ_51.1 5) (τ_51.2.1 15)) = (J_vs (σ.1 6) (σ.1 5) (σ.2.1 15)) from by rw [W5, W6, G15]]; exact TX_0
    have RKS : J_rks (τ_51.1 5) (τ_51.1 4) (τ_51.2.1 10) (τ_51.2.1 11) := by rw [show (J_rks (τ_51.1 5) (τ_51.1 4) (τ_51.2.1 10) (τ_51.2.1 11)) = (J_rks (σ.1 5) (σ.1 4) (σ.2.1 10) (σ.2.1 11)) from by rw [W4, W5, G10, G11]]; exact RKS_0
    have BP : J_bp (τ_51.2.1 44) (τ_51.2.1 45) := i51_3
    have CH : j_eq (σ.2.1 36 (σ.1 15)) (σ.2.1 37) (τ_51.2.1 37) := i51_4
    refine h51 u1_51 k1_51 τ_51 ?_
    replace ag := ag_v (i := 33) (x := k1_51) ag (Or.inl rfl)
    replace hT := cT_v (i := 33) hT (show 0 ≤ k1_51 ∧ k1_51 ≤ 60000 from by (first | assumption | omega | (simp only [st_s] <;> omega) | fail))
    refine ⟨fun c6 => ?_, fun c6 => ?_⟩
    ·
      refine ⟨_, K_X10_noteRests hT (show J_sp (τ_51.1 24) (τ_51.1 21) (τ_51.1 23) (τ_51.1 22) (τ_51.2.1 49) (τ_51.2.1 51) from by exact i51_5 (by omega)) (show (τ_51.1 16) + (τ_51.1 21) ≤ 20000 from by (have := (spx (by omega)).2.1; omega)), ?_⟩
      intro τ9 hn_τ9 hf_τ9 hq
      obtain ⟨hT, q7_1⟩ := hq
      replace q7_1 : (τ9.1 16) = (τ_51.1 16) + (τ_51.1 21) := q7_1
      have w3_τ9 : τ9.1 3 = τ_51.1 3 := hf_τ9.1 3 (by decide)
      have w4_τ9 : τ9.1 4 = τ_51.1 4 := hf_τ9.1 4 (by decide)
      have w5_τ9 : τ9.1 5 = τ_51.1 5 := hf_τ9.1 5 (by decide)
      have w6_τ9 : τ9.1 6 = τ_51.1 6 := hf_τ9.1 6 (by decide)
      have w7_τ9 : τ9.1 7 = τ_51.1 7 := hf_τ9.1 7 (by decide)
      have w8_τ9 : τ9.1 8 = τ_51.1 8 := hf_τ9.1 8 (by decide)
      have w9_τ9 : τ9.1 9 = τ_51.1 9 := hf_τ9.1 9 (by decide)
      have w10_τ9 : τ9.1 10 = τ_51.1 10 := hf_τ9.1 10 (by decide)
      have w11_τ9 : τ9.1 11 = τ_51.1 11 := hf_τ9.1 11 (by decide)
      have w12_τ9 : τ9.1 12 = τ_51.1 12 := hf_τ9.1 12 (by decide)
      have w13_τ9 : τ9.1 13 = τ_51.1 13 := hf_τ9.1 13 (by decide)
      have w14_τ9 : τ9.1 14 = τ_51.1 14 := hf_τ9.1 14 (by decide)
      have w15_τ9 : τ9.1 15 = τ_51.1 15 := hf_τ9.1 15 (by decide)
      have w21_τ9 : τ9.1 21 = τ_51.1 21 := hf_τ9.1 21 (by decide)
      have w22_τ9 : τ9.1 22 = τ_51.1 22 := hf_τ9.1 22 (by decide)
      have w23_τ9 : τ9.1 23 = τ_51.1 23 := hf_τ9.1 23 (by decide)
      have w24_τ9 : τ9.1 24 = τ_51.1 24 := hf_τ9.1 24 (by decide)
      have w25_τ9 : τ9.1 25 = τ_51.1 25 := hf_τ9.1 25 (by decide)
      have w26_τ9 : τ9.1 26 = τ_51.1 26 := hf_τ9.1 26 (by decide)
      have w27_τ9 : τ9.1 27 = τ_51.1 27 := hf_τ9.1 27 (by decide)
      have w28_τ9 : τ9.1 28 = τ_51.1 28 := hf_τ9.1 28 (by decide)
      have w29_τ9 : τ9.1 29 = τ_51.1 29 := hf_τ9.1 29 (by decide)
      have w33_τ9 : τ9.1 33 = k1_51 := hf_τ9.1 33 (by decide)
      have w35_τ9 : τ9.1 35 = τ_51.1 35 := hf_τ9.1 35 (by decide)
      have w36_τ9 : τ9.1 36 = τ_51.1 36 := hf_τ9.1 36 (by decide)
      have w37_τ9 : τ9.1 37 = τ_51.1 37 := hf_τ9.1 37 (by decide)
      have g2_τ9 : τ9.2.1 2 = τ_51.2.1 2 := hf_τ9.2.1 2 (by decide)
      have g3_τ9 : τ9.2.1 3 = τ_51.2.1 3 := hf_τ9.2.1 3 (by decide)
      have g4_τ9 : τ9.2.1 4 = τ_51.2.1 4 := hf_τ9.2.1 4 (by decide)
      have g5_τ9 : τ9.2.1 5 = τ_51.2.1 5 := hf_τ9.2.1 5 (by decide)
      have g6_τ9 : τ9.2.1 6 = τ_51.2.1 6 := hf_τ9.2.1 6 (by decide)
      have g8_τ9 : τ9.2.1 8 = τ_51.2.1 8 := hf_τ9.2.1 8 (by decide)
      have g9_τ9 : τ9.2.1 9 = τ_51.2.1 9 := hf_τ9.2.1 9 (by decide)
      have g10_τ9 : τ9.2.1 10 = τ_51.2.1 10 := hf_τ9.2.1 10 (by decide)
      have g11_τ9 : τ9.2.1 11 = τ_51.2.1 11 := hf_τ9.2.1 11 (by decide)
      have g13_τ9 : τ9.2.1 13 = τ_51.2.1 13 := hf_τ9.2.1 13 (by decide)
      have g14_τ9 : τ9.2.1 14 = τ_51.2.1 14 := hf_τ9.2.1 14 (by decide)
      have g15_τ9 : τ9.2.1 15 = τ_51.2.1 15 := hf_τ9.2.1 15 (by decide)
      have g16_τ9 : τ9.2.1 16 = τ_51.2.1 16 := hf_τ9.2.1 16 (by decide)
      have g18_τ9 : τ9.2.1 18 = τ_51.2.1 18 := hf_τ9.2.1 18 (by decide)
      have g19_τ9 : τ9.2.1 19 = τ_51.2.1 19 := hf_τ9.2.1 19 (by decide)
      have g20_τ9 : τ9.2.1 20 = τ_51.2.1 20 := hf_τ9.2.1 20 (by decide)
      have g22_τ9 : τ9.2.1 22 = τ_51.2.1 22 := hf_τ9.2.1 22 (by decide)
      have g23_τ9 : τ9.2.1 23 = τ_51.2.1 23 := hf_τ9.2.1 23 (by decide)
      have g24_τ9 : τ9.2.1 24 = τ_51.2.1 24 := hf_τ9.2.1 24 (by decide)
      have g25_τ9 : τ9.2.1 25 = τ_51.2.1 25 := hf_τ9.2.1 25 (by decide)
      have g26_τ9 : τ9.2.1 26 = τ_51.2.1 26 := hf_τ9.2.1 26 (by decide)
      have g27_τ9 : τ9.2.1 27 = τ_51.2.1 27 := hf_τ9.2.1 27 (by decide)
      have g28_τ9 : τ9.2.1 28 = τ_51.2.1 28 := hf_τ9.2.1 28 (by decide)
      have g29_τ9 : τ9.2.1 29 = τ_51.2.1 29 := hf_τ9.2.1 29 (by decide)
      have g30_τ9 : τ9.2.1 30 = τ_51.2.1 30 := hf_τ9.2.1 30 (by decide)
      have g31_τ9 : τ9.2.1 31 = τ_51.2.1 31 := hf_τ9.2.1 31 (by decide)
      have g32_τ9 : τ9.2.1 32 = τ_51.2.1 32 := hf_τ9.2.1 32 (by decide)
      have g33_τ9 : τ9.2.1 33 = τ_51.2.1 33 := hf_τ9.2.1 33 (by decide)
      have g34_τ9 : τ9.2.1 34 = τ_51.2.1 34 := hf_τ9.2.1 34 (by decide)
      have g35_τ9 : τ9.2.1 35 = τ_51.2.1 35 := hf_τ9.2.1 35 (by decide)
      have g36_τ9 : τ9.2.1 36 = τ_51.2.1 36 := hf_τ9.2.1 36 (by decide)
      have g37_τ9 : τ9.2.1 37 = τ_51.2.1 37 := hf_τ9.2.1 37 (by decide)
      have g44_τ9 : τ9.2.1 44 = τ_51.2.1 44 := hf_τ9.2.1 44 (by decide)
      have g45_τ9 : τ9.2.1 45 = τ_51.2.1 45 := hf_τ9.2.1 45 (by decide)
      have g49_τ9 : τ9.2.1 49 = τ_51.2.1 49 := hf_τ9.2.1 49 (by decide)
      have g51_τ9 : τ9.2.1 51 = τ_51.2.1 51 := hf_τ9.2.1 51 (by decide)
      have g54_τ9 : τ9.2.1 54 = τ_51.2.1 54 := hf_τ9.2.1 54 (by decide)
      have W3 : τ9.1 3 = σ.1 3 := by omega
      have W4 : τ9.1 4 = σ.1 4 := by omega
      have W5 : τ9.1 5 = σ.1 5 := by omega
      have W6 : τ9.1 6 = σ.1 6 := by omega
      have W8 : τ9.1 8 = σ.1 8 := by omega
      have W9 : τ9.1 9 = σ.1 9 := by omega
      have W10 : τ9.1 10 = σ.1 10 := by omega
      have W11 : τ9.1 11 = σ.1 11 := by omega
      have W12 : τ9.1 12 = σ.1 12 := by omega
      have W13 : τ9.1 13 = σ.1 13 := by omega
      have W14 : τ9.1 14 = σ.1 14 := by omega
      have W21 : τ9.1 21 = σ.1 21 := by omega
      have W22 : τ9.1 22 = σ.1 22 := by omega
      have W24 : τ9.1 24 = σ.1 24 := by omega
      have W25 : τ9.1 25 = σ.1 25 := by omega
      have W26 : τ9.1 26 = σ.1 26 := by omega
      have W27 : τ9.1 27 = σ.1 27 := by omega
      have W28 : τ9.1 28 = σ.1 28 := by omega
      have W36 : τ9.1 36 = σ.1 36 := by omega
      have W37 : τ9.1 37 = σ.1 37 := by omega
      have G2 : τ9.2.1 2 = σ.2.1 2 := (g2_τ9).trans G2
      have G3 : τ9.2.1 3 = σ.2.1 3 := (g3_τ9).trans G3
      have G4 : τ9.2.1 4 = σ.2.1 4 := (g4_τ9).trans G4
      have G5 : τ9.2.1 5 = σ.2.1 5 := (g5_τ9).trans G5
      have G6 : τ9.2.1 6 = σ.2.1 6 := (g6_τ9).trans G6
      have G8 : τ9.2.1 8 = σ.2.1 8 := (g8_τ9).trans G8
      have G10 : τ9.2.1 10 = σ.2.1 10 := (g10_τ9).trans G10
      have G11 : τ9.2.1 11 = σ.2.1 11 := (g11_τ9).trans G11
      have G14 : τ9.2.1 14 = σ.2.1 14 := (g14_τ9).trans G14
      have G15 : τ9.2.1 15 = σ.2.1 15 := (g15_τ9).trans G15
      have G16 : τ9.2.1 16 = σ.2.1 16 := (g16_τ9).trans G16
      have G18 : τ9.2.1 18 = σ.2.1 18 := (g18_τ9).trans G18
      have G19 : τ9.2.1 19 = σ.2.1 19 := (g19_τ9).trans G19
      have G20 : τ9.2.1 20 = σ.2.1 20 := (g20_τ9).trans G20
      have G22 : τ9.2.1 22 = σ.2.1 22 := (g22_τ9).trans G22
      have G23 : τ9.2.1 23 = σ.2.1 23 := (g23_τ9).trans G23
      have G24 : τ9.2.1 24 = σ.2.1 24 := (g24_τ9).trans G24
      have G25 : τ9.2.1 25 = σ.2.1 25 := (g25_τ9).trans G25
      have G26 : τ9.2.1 26 = σ.2.1 26 := (g26_τ9).trans G26
      have G27 : τ9.2.1 27 = σ.2.1 27 := (g27_τ9).trans G27
      have G28 : τ9.2.1 28 = σ.2.1 28 := (g28_τ9).trans G28
      have G29 : τ9.2.1 29 = σ.2.1 29 := (g29_τ9).trans G29
      have G30 : τ9.2.1 30 = σ.2.1 30 := (g30_τ9).trans G30
      have G31 : τ9.2.1 31 = σ.2.1 31 := (g31_τ9).trans G31
      have G32 : τ9.2.1 32 = σ.2.1 32 := (g32_τ9).trans G32
      have G49 : τ9.2.1 49 = σ.2.1 49 := (g49_τ9).trans G49
      have G51 : τ9.2.1 51 = σ.2.1 51 := (g51_τ9).trans G51
      have G54 : τ9.2.1 54 = σ.2.1 54 := (g54_τ9).trans G54
      have y14_7_τ9 : τ9.2.1 14 (τ9.1 7) = (τ_51.2.1 14) (τ_51.1 7) := by rw [g14_τ9, w7_τ9]
      have y36_15_τ9 : τ9.2.1 36 (τ9.1 15) = (τ_51.2.1 36) (τ_51.1 15) := by rw [g36_τ9, w15_τ9]
      have HT : J_ht (τ9.1 3) (τ9.2.1 2) (τ9.2.1 3) (τ9.2.1 5) (τ9.2.1 6) := by rw [show (J_ht (τ9.1 3) (τ9.2.1 2) (τ9.2.1 3) (τ9.2.1 5) (τ9.2.1 6)) = (J_ht (τ_51.1 3) (τ_51.2.1 2) (τ_51.2.1 3) (τ_51.2.1 5) (τ_51.2.1 6)) from by rw [w3_τ9, g2_τ9, g3_τ9, g5_τ9, g6_τ9]]; exact HT
      have NL : J_nl (τ9.1 3) (τ9.2.1 2) (τ9.2.1 3) (τ9.2.1 4) := by rw [show (J_nl (τ9.1 3) (τ9.2.1 2) (τ9.2.1 3) (τ9.2.1 4)) = (J_nl (τ_51.1 3) (τ_51.2.1 2) (τ_51.2.1 3) (τ_51.2.1 4)) from by rw [w3_τ9, g2_τ9, g3_τ9, g4_τ9]]; exact NL
      have VA : J_va (τ9.1 8) 1000 (τ9.2.1 18) (τ9.2.1 20) := by rw [show (J_va (τ9.1 8) 1000 (τ9.2.1 18) (τ9.2.1 20)) = (J_va (τ_51.1 8) 1000 (τ_51.2.1 18) (τ_51.2.1 20)) from by rw [w8_τ9, g18_τ9, g20_τ9]]; exact VA
      have MK : J_mk (τ9.1 11) (τ9.1 8) (τ9.1 9) (τ9.1 10) (τ9.2.1 25) := by rw [show (J_mk (τ9.1 11) (τ9.1 8) (τ9.1 9) (τ9.1 10) (τ9.2.1 25)) = (J_mk (τ_51.1 11) (τ_51.1 8) (τ_51.1 9) (τ_51.1 10) (τ_51.2.1 25)) from by rw [w8_τ9, w9_τ9, w10_τ9, w11_τ9, g25_τ9]]; exact MK
      have MT : ∀ s : Int, τ9.2.1 26 s ≤ (τ9.1 12) := by rw [show (∀ s : Int, τ9.2.1 26 s ≤ (τ9.1 12)) = (∀ s : Int, τ_51.2.1 26 s ≤ (τ_51.1 12)) from by rw [w12_τ9, g26_τ9]]; exact MT
      have VS : J_vs (τ9.1 8) (τ9.1 5) (τ9.2.1 20) := by rw [show (J_vs (τ9.1 8) (τ9.1 5) (τ9.2.1 20)) = (J_vs (τ_51.1 8) (τ_51.1 5) (τ_51.2.1 20)) from by rw [w5_τ9, w8_τ9, g20_τ9]]; exact VS
      have TX : J_vs (τ9.1 6) (τ9.1 5) (τ9.2.1 15) := by rw [show (J_vs (τ9.1 6) (τ9.1 5) (τ9.2.1 15)) = (J_vs (τ_51.1 6) (τ_51.1 5) (τ_51.2.1 15)) from by rw [w5_τ9, w6_τ9, g15_τ9]]; exact TX
      have RKS : J_rks (τ9.1 5) (τ9.1 4) (τ9.2.1 10) (τ9.2.1 11) := by rw [show (J_rks (τ9.1 5) (τ9.1 4) (τ9.2.1 10) (τ9.2.1 11)) = (J_rks (τ_51.1 5) (τ_51.1 4) (τ_51.2.1 10) (τ_51.2.1 11)) from by rw [w4_τ9, w5_τ9, g10_τ9, g11_τ9]]; exact RKS
      have BP : J_bp (τ9.2.1 44) (τ9.2.1 45) := by rw [show (J_bp (τ9.2.1 44) (τ9.2.1 45)) = (J_bp (τ_51.2.1 44) (τ_51.2.1 45)) from by rw [g44_τ9, g45_τ9]]; exact BP
      have CH : j_eq (σ.2.1 36 (σ.1 15)) (σ.2.1 37) (τ9.2.1 37) := by rw [show (j_eq (σ.2.1 36 (σ.1 15)) (σ.2.1 37) (τ9.2.1 37)) = (j_eq (σ.2.1 36 (σ.1 15)) (σ.2.1 37) (τ_51.2.1 37)) from by rw [g37_τ9]]; exact CH
      have A2 : ∀ j, 0 ≤ τ9.2.1 2 j ∧ τ9.2.1 2 j ≤ 65535 := fun j => hT.2 2 j
      have A3 : ∀ j, 0 ≤ τ9.2.1 3 j ∧ τ9.2.1 3 j ≤ 30000 := fun j => hT.2 3 j
      have A4 : ∀ j, (-1000) ≤ τ9.2.1 4 j ∧ τ9.2.1 4 j ≤ 1499 := fun j => hT.2 4 j
      have A5 : ∀ j, 0 ≤ τ9.2.1 5 j ∧ τ9.2.1 5 j ≤ 2500 := fun j => hT.2 5 j
      have A6 : ∀ j, 0 ≤ τ9.2.1 6 j ∧ τ9.2.1 6 j ≤ 2500 := fun j => hT.2 6 j
      have A8 : ∀ j, 0 ≤ τ9.2.1 8 j ∧ τ9.2.1 8 j ≤ 1 := fun j => hT.2 8 j
      have A9 : ∀ j, (-1) ≤ τ9.2.1 9 j ∧ τ9.2.1 9 j ≤ 1499 := fun j => hT.2 9 j
      have A10 : ∀ j, (-1) ≤ τ9.2.1 10 j ∧ τ9.2.1 10 j ≤ 99 := fun j => hT.2 10 j
      have A11 : ∀ j, 0 ≤ τ9.2.1 11 j ∧ τ9.2.1 11 j ≤ 999 := fun j => hT.2 11 j
      have A13 : ∀ j, 0 ≤ τ9.2.1 13 j ∧ τ9.2.1 13 j ≤ 4 := fun j => hT.2 13 j
      have A14 : ∀ j, 0 ≤ τ9.2.1 14 j ∧ τ9.2.1 14 j ≤ 30000 := fun j => hT.2 14 j
      have A15 : ∀ j, 0 ≤ τ9.2.1 15 j ∧ τ9.2.1 15 j ≤ 999 := fun j => hT.2 15 j
      have A16 : ∀ j, (-1) ≤ τ9.2.1 16 j ∧ τ9.2.1 16 j ≤ 1499 := fun j => hT.2 16 j
      have A18 : ∀ j, 0 ≤ τ9.2.1 18 j ∧ τ9.2.1 18 j ≤ 1 := fun j => hT.2 18 j
      have A19 : ∀ j, (-1) ≤ τ9.2.1 19 j ∧ τ9.2.1 19 j ≤ 1499 := fun j => hT.2 19 j
      have A20 : ∀ j, 0 ≤ τ9.2.1 20 j ∧ τ9.2.1 20 j ≤ 999 := fun j => hT.2 20 j
      have A22 : ∀ j, 0 ≤ τ9.2.1 22 j ∧ τ9.2.1 22 j ≤ 1499 := fun j => hT.2 22 j
      have A23 : ∀ j, 0 ≤ τ9.2.1 23 j ∧ τ9.2.1 23 j ≤ 999 := fun j => hT.2 23 j
      have A24 : ∀ j, 0 ≤ τ9.2.1 24 j ∧ τ9.2.1 24 j ≤ 999 := fun j => hT.2 24 j
      have A26 : ∀ j, (-2147483648) ≤ τ9.2.1 26 j ∧ τ9.2.1 26 j ≤ 2147483647 := fun j => hT.2 26 j
      have A27 : ∀ j, 0 ≤ τ9.2.1 27 j ∧ τ9.2.1 27 j ≤ 90000 := fun j => hT.2 27 j
      have A28 : ∀ j, 0 ≤ τ9.2.1 28 j ∧ τ9.2.1 28 j ≤ 60 := fun j => hT.2 28 j
      have A29 : ∀ j, 0 ≤ τ9.2.1 29 j ∧ τ9.2.1 29 j ≤ 1499 := fun j => hT.2 29 j
      have A30 : ∀ j, 0 ≤ τ9.2.1 30 j ∧ τ9.2.1 30 j ≤ 20000 := fun j => hT.2 30 j
      have A31 : ∀ j, 0 ≤ τ9.2.1 31 j ∧ τ9.2.1 31 j ≤ 20000 := fun j => hT.2 31 j
      have A32 : ∀ j, 0 ≤ τ9.2.1 32 j ∧ τ9.2.1 32 j ≤ 999999 := fun j => hT.2 32 j
      have A33 : ∀ j, 0 ≤ τ9.2.1 33 j ∧ τ9.2.1 33 j ≤ 20000 := fun j => hT.2 33 j
      have A34 : ∀ j, 0 ≤ τ9.2.1 34 j ∧ τ9.2.1 34 j ≤ 20000 := fun j => hT.2 34 j
      have A35 : ∀ j, 0 ≤ τ9.2.1 35 j ∧ τ9.2.1 35 j ≤ 1499 := fun j => hT.2 35 j
      have A36 : ∀ j, 0 ≤ τ9.2.1 36 j ∧ τ9.2.1 36 j ≤ 20000 := fun j => hT.2 36 j
      have A37 : ∀ j, 0 ≤ τ9.2.1 37 j ∧ τ9.2.1 37 j ≤ 19999 := fun j => hT.2 37 j
      have A44 : ∀ j, 0 ≤ τ9.2.1 44 j ∧ τ9.2.1 44 j ≤ 42000 := fun j => hT.2 44 j
      have A45 : ∀ j, 0 ≤ τ9.2.1 45 j ∧ τ9.2.1 45 j ≤ 1000 := fun j => hT.2 45 j
      have A49 : ∀ j, (-300) ≤ τ9.2.1 49 j ∧ τ9.2.1 49 j ≤ 67035 := fun j => hT.2 49 j
      have A51 : ∀ j, 0 ≤ τ9.2.1 51 j ∧ τ9.2.1 51 j ≤ 1499 := fun j => hT.2 51 j
      have A54 : ∀ j, 0 ≤ τ9.2.1 54 j ∧ τ9.2.1 54 j ≤ 999 := fun j => hT.2 54 j
      have v3 : 0 ≤ τ9.1 3 ∧ τ9.1 3 ≤ 2500 := hT.1 3
      have v4 : 0 ≤ τ9.1 4 ∧ τ9.1 4 ≤ 100 := hT.1 4
      have v5 : 0 ≤ τ9.1 5 ∧ τ9.1 5 ≤ 1000 := hT.1 5
      have v6 : 0 ≤ τ9.1 6 ∧ τ9.1 6 ≤ 30000 := hT.1 6
      have v7 : 0 ≤ τ9.1 7 ∧ τ9.1 7 ≤ 1500 := hT.1 7
      have v8 : 0 ≤ τ9.1 8 ∧ τ9.1 8 ≤ 1000 := hT.1 8
      have v9 : 0 ≤ τ9.1 9 ∧ τ9.1 9 ≤ 1500 := hT.1 9
      have v10 : 0 ≤ τ9.1 10 ∧ τ9.1 10 ≤ 1000 := hT.1 10
      have v11 : 0 ≤ τ9.1 11 ∧ τ9.1 11 ≤ 50 := hT.1 11
      have v12 : (-2147483648) ≤ τ9.1 12 ∧ τ9.1 12 ≤ 2147483647 := hT.1 12
      have v13 : 0 ≤ τ9.1 13 ∧ τ9.1 13 ≤ 90000 := hT.1 13
      have v14 : 0 ≤ τ9.1 14 ∧ τ9.1 14 ≤ 20000 := hT.1 14
      have v15 : 0 ≤ τ9.1 15 ∧ τ9.1 15 ≤ 20000 := hT.1 15
      have v16 : 0 ≤ τ9.1 16 ∧ τ9.1 16 ≤ 20000 := hT.1 16
      have v21 : 0 ≤ τ9.1 21 ∧ τ9.1 21 ≤ 20000 := hT.1 21
      have v22 : 0 ≤ τ9.1 22 ∧ τ9.1 22 ≤ 300 := hT.1 22
      have v23 : 0 ≤ τ9.1 23 ∧ τ9.1 23 ≤ 300 := hT.1 23
      have v24 : 0 ≤ τ9.1 24 ∧ τ9.1 24 ≤ 1499 := hT.1 24
      have v25 : 0 ≤ τ9.1 25 ∧ τ9.1 25 ≤ 3 := hT.1 25
      have v26 : 0 ≤ τ9.1 26 ∧ τ9.1 26 ≤ 5000010 := hT.1 26
      have v27 : 0 ≤ τ9.1 27 ∧ τ9.1 27 ≤ 1 := hT.1 27
      have v28 : 0 ≤ τ9.1 28 ∧ τ9.1 28 ≤ 1 := hT.1 28
      have v29 : 0 ≤ τ9.1 29 ∧ τ9.1 29 ≤ 60000 := hT.1 29
      have v33 : 0 ≤ τ9.1 33 ∧ τ9.1 33 ≤ 60000 := hT.1 33
      have v35 : 0 ≤ τ9.1 35 ∧ τ9.1 35 ≤ 7 := hT.1 35
      have v36 : 0 ≤ τ9.1 36 ∧ τ9.1 36 ≤ 1001 := hT.1 36
      have v37 : 0 ≤ τ9.1 37 ∧ τ9.1 37 ≤ 4 := hT.1 37
      have a14_7 : 0 ≤ τ9.2.1 14 (τ9.1 7) ∧ τ9.2.1 14 (τ9.1 7) ≤ 30000 := hT.2 14 _
      have a36_15 : 0 ≤ τ9.2.1 36 (τ9.1 15) ∧ τ9.2.1 36 (τ9.1 15) ≤ 20000 := hT.2 36 _
      refine ⟨fun c10 => ?_, fun c10 => ?_⟩
      ·
        refine h86 _ _ ?_
        refine ⟨_, K2_X3_add hT (show 0 ≤ 3 from by (first | assumption | omega | (simp only [st_s] <;> omega) | fail)) (show 3 ≤ 4 from by (first | assumption | omega | (simp only [st_s] <;> omega) | fail)) (show (τ9.1 7) < 1500 from by (first | assumption | omega | (simp only [st_s] <;> omega) | fail)) (show 3 = 0 → τ9.2.1 14 (τ9.1 7) < 29999 from by (first | assumption | omega | (simp only [st_s] <;> omega) | fail)) (show J_ff (τ9.1 5) (τ9.1 7) (τ9.2.1 9) (τ9.2.1 13) (τ9.2.1 14) (τ9.2.1 15) from by (rw [g9_τ9, g13_τ9, g14_τ9, g15_τ9, w5_τ9, w7_τ9, i51_12, i51_13, G14, G15, W5, show τ_51.1 7 = σ.1 7 from by omega]; exact FF_0)), ?_⟩
        intro τ13 hn_τ13 hf_τ13 hq
        obtain ⟨hT, q11_1, q11_2, q11_3, q11_4⟩ := hq
        replace q11_1 : (τ13.1 7) = (τ9.1 7) + 1 := q11_1
        replace q11_2 : τ13.2.1 13 = st (τ9.2.1 13) (τ9.1 7) 3 := q11_2
        replace q11_3 : J_ff (τ13.1 5) (τ13.1 7) (τ13.2.1 9) (τ13.2.1 13) (τ13.2.1 14) (τ13.2.1 15) := q11_3
        replace q11_4 : c_ag τ9 τ13 := q11_4
        have w3_τ13 : τ13.1 3 = τ9.1 3 := hf_τ13.1 3 (by decide)
        have w4_τ13 : τ13.1 4 = τ9.1 4 := hf_τ13.1 4 (by decide)
        have w5_τ13 : τ13.1 5 = τ9.1 5 := hf_τ13.1 5 (by decide)
        have w6_τ13 : τ13.1 6 = τ9.1 6 := hf_τ13.1 6 (by decide)
        have w8_τ13 : τ13.1 8 = τ9.1 8 := hf_τ13.1 8 (by decide)
        have w9_τ13 : τ13.1 9 = τ9.1 9 := hf_τ13.1 9 (by decide)
        have w10_τ13 : τ13.1 10 = τ9.1 10 := hf_τ13.1 10 (by decide)
        have w11_τ13 : τ13.1 11 = τ9.1 11 := hf_τ13.1 11 (by decide)
        have w12_τ13 : τ13.1 12 = τ9.1 12 := hf_τ13.1 12 (by decide)
        have w13_τ13 : τ13.1 13 = τ9.1 13 := hf_τ13.1 13 (by decide)
        have w14_τ13 : τ13.1 14 = τ9.1 14 := hf_τ13.1 14 (by decide)
        have w15_τ13 : τ13.1 15 = τ9.1 15 := hf_τ13.1 15 (by decide)
        have w16_τ13 : τ13.1 16 = τ9.1 16 := hf_τ13.1 16 (by decide)
        have w21_τ13 : τ13.1 21 = τ9.1 21 := hf_τ13.1 21 (by decide)
        have w22_τ13 : τ13.1 22 = τ9.1 22 := hf_τ13.1 22 (by decide)
        have w23_τ13 : τ13.1 23 = τ9.1 23 := hf_τ13.1 23 (by decide)
        have w24_τ13 : τ13.1 24 = τ9.1 24 := hf_τ13.1 24 (by decide)
        have w25_τ13 : τ13.1 25 = τ9.1 25 := hf_τ13.1 25 (by decide)
        have w26_τ13 : τ13.1 26 = τ9.1 26 := hf_τ13.1 26 (by decide)
        have w27_τ13 : τ13.1 27 = τ9.1 27 := hf_τ13.1 27 (by decide)
        have w28_τ13 : τ13.1 28 = τ9.1 28 := hf_τ13.1 28 (by decide)
        have w29_τ13 : τ13.1 29 = τ9.1 29 := hf_τ13.1 29 (by decide)
        have w33_τ13 : τ13.1 33 = τ9.1 33 := hf_τ13.1 33 (by decide)
        have w35_τ13 : τ13.1 35 = τ9.1 35 := hf_τ13.1 35 (by decide)
        have w36_τ13 : τ13.1 36 = τ9.1 36 := hf_τ13.1 36 (by decide)
        have w37_τ13 : τ13.1 37 = τ9.1 37 := hf_τ13.1 37 (by decide)
        have g2_τ13 : τ13.2.1 2 = τ9.2.1 2 := hf_τ13.2.1 2 (by decide)
        have g3_τ13 : τ13.2.1 3 = τ9.2.1 3 := hf_τ13.2.1 3 (by decide)
        have g4_τ13 : τ13.2.1 4 = τ9.2.1 4 := hf_τ13.2.1 4 (by decide)
        have g5_τ13 : τ13.2.1 5 = τ9.2.1 5 := hf_τ13.2.1 5 (by decide)
        have g6_τ13 : τ13.2.1 6 = τ9.2.1 6 := hf_τ13.2.1 6 (by decide)
        have g8_τ13 : τ13.2.1 8 = τ9.2.1 8 := hf_τ13.2.1 8 (by decide)
        have g10_τ13 : τ13.2.1 10 = τ9.2.1 10 := hf_τ13.2.1 10 (by decide)
        have g11_τ13 : τ13.2.1 11 = τ9.2.1 11 := hf_τ13.2.1 11 (by decide)
        have g14_τ13 : τ13.2.1 14 = τ9.2.1 14 := hf_τ13.2.1 14 (by decide)
        have g15_τ13 : τ13.2.1 15 = τ9.2.1 15 := hf_τ13.2.1 15 (by decide)
        have g16_τ13 : τ13.2.1 16 = τ9.2.1 16 := hf_τ13.2.1 16 (by decide)
        have g18_τ13 : τ13.2.1 18 = τ9.2.1 18 := hf_τ13.2.1 18 (by decide)
        have g19_τ13 : τ13.2.1 19 = τ9.2.1 19 := hf_τ13.2.1 19 (by decide)
        have g20_τ13 : τ13.2.1 20 = τ9.2.1 20 := hf_τ13.2.1 20 (by decide)
        have g22_τ13 : τ13.2.1 22 = τ9.2.1 22 := hf_τ13.2.1 22 (by decide)
        have g23_τ13 : τ13.2.1 23 = τ9.2.1 23 := hf_τ13.2.1 23 (by decide)
        have g24_τ13 : τ13.2.1 24 = τ9.2.1 24 := hf_τ13.2.1 24 (by decide)
        have g25_τ13 : τ13.2.1 25 = τ9.2.1 25 := hf_τ13.2.1 25 (by decide)
        have g26_τ13 : τ13.2.1 26 = τ9.2.1 26 := hf_τ13.2.1 26 (by decide)
        have g27_τ13 : τ13.2.1 27 = τ9.2.1 27 := hf_τ13.2.1 27 (by decide)
        have g28_τ13 : τ13.2.1 28 = τ9.2.1 28 := hf_τ13.2.1 28 (by decide)
        have g29_τ13 : τ13.2.1 29 = τ9.2.1 29 := hf_τ13.2.1 29 (by decide)
        have g30_τ13 : τ13.2.1 30 = τ9.2.1 30 := hf_τ13.2.1 30 (by decide)
        have g31_τ13 : τ13.2.1 31 = τ9.2.1 31 := hf_τ13.2.1 31 (by decide)
        have g32_τ13 : τ13.2.1 32 = τ9.2.1 32 := hf_τ13.2.1 32 (by decide)
        have g33_τ13 : τ13.2.1 33 = τ9.2.1 33 := hf_τ13.2.1 33 (by decide)
        have g34_τ13 : τ13.2.1 34 = τ9.2.1 34 := hf_τ13.2.1 34 (by decide)
        have g35_τ13 : τ13.2.1 35 = τ9.2.1 35 := hf_τ13.2.1 35 (by decide)
        have g36_τ13 : τ13.2.1 36 = τ9.2.1 36 := hf_τ13.2.1 36 (by decide)
        have g37_τ13 : τ13.2.1 37 = τ9.2.1 37 := hf_τ13.2.1 37 (by decide)
        have g44_τ13 : τ13.2.1 44 = τ9.2.1 44 := hf_τ13.2.1 44 (by decide)
        have g45_τ13 : τ13.2.1 45 = τ9.2.1 45 := hf_τ13.2.1 45 (by decide)
        have g49_τ13 : τ13.2.1 49 = τ9.2.1 49 := hf_τ13.2.1 49 (by decide)
        have g51_τ13 : τ13.2.1 51 = τ9.2.1 51 := hf_τ13.2.1 51 (by decide)
        have g54_τ13 : τ13.2.1 54 = τ9.2.1 54 := hf_τ13.2.1 54 (by decide)
        have W3 : τ13.1 3 = σ.1 3 := by omega
        have W4 : τ13.1 4 = σ.1 4 := by omega
        have W5 : τ13.1 5 = σ.1 5 := by omega
        have W6 : τ13.1 6 = σ.1 6 := by omega
        have W8 : τ13.1 8 = σ.1 8 := by omega
        have W9 : τ13.1 9 = σ.1 9 := by omega
        have W10 : τ13.1 10 = σ.1 10 := by omega
        have W11 : τ13.1 11 = σ.1 11 := by omega
        have W12 : τ13.1 12 = σ.1 12 := by omega
        have W13 : τ13.1 13 = σ.1 13 := by omega
        have W14 : τ13.1 14 = σ.1 14 := by omega
        have W21 : τ13.1 21 = σ.1 21 := by omega
        have W22 : τ13.1 22 = σ.1 22 := by omega
        have W24 : τ13.1 24 = σ.1 24 := by omega
        have W25 : τ13.1 25 = σ.1 25 := by omega
        have W26 : τ13.1 26 = σ.1 26 := by omega
        have W27 : τ13.1 27 = σ.1 27 := by omega
        have W28 : τ13.1 28 = σ.1 28 := by omega
        have W36 : τ13.1 36 = σ.1 36 := by omega
        have W37 : τ13.1 37 = σ.1 37 := by omega
        have G2 : τ13.2.1 2 = σ.2.1 2 := (g2_τ13).trans G2
        have G3 : τ13.2.1 3 = σ.2.1 3 := (g3_τ13).trans G3
        have G4 : τ13.2.1 4 = σ.2.1 4 := (g4_τ13).trans G4
        have G5 : τ13.2.1 5 = σ.2.1 5 := (g5_τ13).trans G5
        have G6 : τ13.2.1 6 = σ.2.1 6 := (g6_τ13).trans G6
        have G8 : τ13.2.1 8 = σ.2.1 8 := (g8_τ13).trans G8
        have G10 : τ13.2.1 10 = σ.2.1 10 := (g10_τ13).trans G10
        have G11 : τ13.2.1 11 = σ.2.1 11 := (g11_τ13).trans G11
        have G14 : τ13.2.1 14 = σ.2.1 14 := (g14_τ13).trans G14
        have G15 : τ13.2.1 15 = σ.2.1 15 := (g15_τ13).trans G15
        have G16 : τ13.2.1 16 = σ.2.1 16 := (g16_τ13).trans G16
        have G18 : τ13.2.1 18 = σ.2.1 18 := (g18_τ13).trans G18
        have G19 : τ13.2.1 19 = σ.2.1 19 := (g19_τ13).trans G19
        have G20 : τ13.2.1 20 = σ.2.1 20 := (g20_τ13).trans G20
        have G22 : τ13.2.1 22 = σ.2.1 22 := (g22_τ13).trans G22
        have G23 : τ13.2.1 23 = σ.2.1 23 := (g23_τ13).trans G23
        have G24 : τ13.2.1 24 = σ.2.1 24 := (g24_τ13).trans G24
        have G25 : τ13.2.1 25 = σ.2.1 25 := (g25_τ13).trans G25
        have G26 : τ13.2.1 26 = σ.2.1 26 := (g26_τ13).trans G26
        have G27 : τ13.2.1 27 = σ.2.1 27 := (g27_τ13).trans G27
        have G28 : τ13.2.1 28 = σ.2.1 28 := (g28_τ13).trans G28
        have G29 : τ13.2.1 29 = σ.2.1 29 := (g29_τ13).trans G29
        have G30 : τ13.2.1 30 = σ.2.1 30 := (g30_τ13).trans G30
        have G31 : τ13.2.1 31 = σ.2.1 31 := (g31_τ13).trans G31
        have G32 : τ13.2.1 32 = σ.2.1 32 := (g32_τ13).trans G32
        have G49 : τ13.2.1 49 = σ.2.1 49 := (g49_τ13).trans G49
        have G51 : τ13.2.1 51 = σ.2.1 51 := (g51_τ13).trans G51
        have G54 : τ13.2.1 54 = σ.2.1 54 := (g54_τ13).trans G54
        have y36_15_τ13 : τ13.2.1 36 (τ13.1 15) = (τ9.2.1 36) (τ9.1 15) := by rw [g36_τ13, w15_τ13]
        have HT : J_ht (τ13.1 3) (τ13.2.1 2) (τ13.2.1 3) (τ13.2.1 5) (τ13.2.1 6) := by rw [show (J_ht (τ13.1 3) (τ13.2.1 2) (τ13.2.1 3) (τ13.2.1 5) (τ13.2.1 6)) = (J_ht (τ9.1 3) (τ9.2.1 2) (τ9.2.1 3) (τ9.2.1 5) (τ9.2.1 6)) from by rw [w3_τ13, g2_τ13, g3_τ13, g5_τ13, g6_τ13]]; exact HT
        have NL : J_nl (τ13.1 3) (τ13.2.1 2) (τ13.2.1 3) (τ13.2.1 4) := by rw [show (J_nl (τ13.1 3) (τ13.2.1 2) (τ13.2.1 3) (τ13.2.1 4)) = (J_nl (τ9.1 3) (τ9.2.1 2) (τ9.2.1 3) (τ9.2.1 4)) from by rw [w3_τ13, g2_τ13, g3_τ13, g4_τ13]]; exact NL
        have VA : J_va (τ13.1 8) 1000 (τ13.2.1 18) (τ13.2.1 20) := by rw [show (J_va (τ13.1 8) 1000 (τ13.2.1 18) (τ13.2.1 20)) = (J_va (τ9.1 8) 1000 (τ9.2.1 18) (τ9.2.1 20)) from by rw [w8_τ13, g18_τ13, g20_τ13]]; exact VA
        have MK : J_mk (τ13.1 11) (τ13.1 8) (τ13.1 9) (τ13.1 10) (τ13.2.1 25) := by rw [show (J_mk (τ13.1 11) (τ13.1 8) (τ13.1 9) (τ13.1 10) (τ13.2.1 25)) = (J_mk (τ9.1 11) (τ9.1 8) (τ9.1 9) (τ9.1 10) (τ9.2.1 25)) from by rw [w8_τ13, w9_τ13, w10_τ13, w11_τ13, g25_τ13]]; exact MK
        have FF : J_ff (τ13.1 5) (τ13.1 7) (τ13.2.1 9) (τ13.2.1 13) (τ13.2.1 14) (τ13.2.1 15) := q11_3
        have MT : ∀ s : Int, τ13.2.1 26 s ≤ (τ13.1 12) := by rw [show (∀ s : Int, τ13.2.1 26 s ≤ (τ13.1 12)) = (∀ s : Int, τ9.2.1 26 s ≤ (τ9.1 12)) from by rw [w12_τ13, g26_τ13]]; exact MT
        have VS : J_vs (τ13.1 8) (τ13.1 5) (τ13.2.1 20) := by rw [show (J_vs (τ13.1 8) (τ13.1 5) (τ13.2.1 20)) = (J_vs (τ9.1 8) (τ9.1 5) (τ9.2.1 20)) from by rw [w5_τ13, w8_τ13, g20_τ13]]; exact VS
        have TX : J_vs (τ13.1 6) (τ13.1 5) (τ13.2.1 15) := by rw [show (J_vs (τ13.1 6) (τ13.1 5) (τ13.2.1 15)) = (J_vs (τ9.1 6) (τ9.1 5) (τ9.2.1 15)) from by rw [w5_τ13, w6_τ13, g15_τ13]]; exact TX
        have RKS : J_rks (τ13.1 5) (τ13.1 4) (τ13.2.1 10) (τ13.2.1 11) := by rw [show (J_rks (τ13.1 5) (τ13.1 4) (τ13.2.1 10) (τ13.2.1 11)) = (J_rks (τ9.1 5) (τ9.1 4) (τ9.2.1 10) (τ9.2.1 11)) from by rw [w4_τ13, w5_τ13, g10_τ13, g11_τ13]]; exact RKS
        have BP : J_bp (τ13.2.1 44) (τ13.2.1 45) := by rw [show (J_bp (τ13.2.1 44) (τ13.2.1 45)) = (J_bp (τ9.2.1 44) (τ9.2.1 45)) from by rw [g44_τ13, g45_τ13]]; exact BP
        have CH : j_eq (σ.2.1 36 (σ.1 15)) (σ.2.1 37) (τ13.2.1 37) := by rw [show (j_eq (σ.2.1 36 (σ.1 15)) (σ.2.1 37) (τ13.2.1 37)) = (j_eq (σ.2.1 36 (σ.1 15)) (σ.2.1 37) (τ9.2.1 37)) from by rw [g37_τ13]]; exact CH
        have A2 : ∀ j, 0 ≤ τ13.2.1 2 j ∧ τ13.2.1 2 j ≤ 65535 := fun j => hT.2 2 j
        have A3 : ∀ j, 0 ≤ τ13.2.1 3 j ∧ τ13.2.1 3 j ≤ 30000 := fun j => hT.2 3 j
        have A4 : ∀ j, (-1000) ≤ τ13.2.1 4 j ∧ τ13.2.1 4 j ≤ 1499 := fun j => hT.2 4 j
        have A5 : ∀ j, 0 ≤ τ13.2.1 5 j ∧ τ13.2.1 5 j ≤ 2500 := fun j => hT.2 5 j
        have A6 : ∀ j, 0 ≤ τ13.2.1 6 j ∧ τ13.2.1 6 j ≤ 2500 := fun j => hT.2 6 j
        have A8 : ∀ j, 0 ≤ τ13.2.1 8 j ∧ τ13.2.1 8 j ≤ 1 := fun j => hT.2 8 j
        have A9 : ∀ j, (-1) ≤ τ13.2.1 9 j ∧ τ13.2.1 9 j ≤ 1499 := fun j => hT.2 9 j
        have A10 : ∀ j, (-1) ≤ τ13.2.1 10 j ∧ τ13.2.1 10 j ≤ 99 := fun j => hT.2 10 j
        have A11 : ∀ j, 0 ≤ τ13.2.1 11 j ∧ τ13.2.1 11 j ≤ 999 := fun j => hT.2 11 j
        have A13 : ∀ j, 0 ≤ τ13.2.1 13 j ∧ τ13.2.1 13 j ≤ 4 := fun j => hT.2 13 j
        have A14 : ∀ j, 0 ≤ τ13.2.1 14 j ∧ τ13.2.1 14 j ≤ 30000 := fun j => hT.2 14 j
        have A15 : ∀ j, 0 ≤ τ13.2.1 15 j ∧ τ13.2.1 15 j ≤ 999 := fun j => hT.2 15 j
        have A16 : ∀ j, (-1) ≤ τ13.2.1 16 j ∧ τ13.2.1 16 j ≤ 1499 := fun j => hT.2 16 j
        have A18 : ∀ j, 0 ≤ τ13.2.1 18 j ∧ τ13.2.1 18 j ≤ 1 := fun j => hT.2 18 j
        have A19 : ∀ j, (-1) ≤ τ13.2.1 19 j ∧ τ13.2.1 19 j ≤ 1499 := fun j => hT.2 19 j
        have A20 : ∀ j, 0 ≤ τ13.2.1 20 j ∧ τ13.2.1 20 j ≤ 999 := fun j => hT.2 20 j
        have A22 : ∀ j, 0 ≤ τ13.2.1 22 j ∧ τ13.2.1 22 j ≤ 1499 := fun j => hT.2 22 j
        have A23 : ∀ j, 0 ≤ τ13.2.1 23 j ∧ τ13.2.1 23 j ≤ 999 := fun j => hT.2 23 j
        have A24 : ∀ j, 0 ≤ τ13.2.1 24 j ∧ τ13.2.1 24 j ≤ 999 := fun j => hT.2 24 j
        have A26 : ∀ j, (-2147483648) ≤ τ13.2.1 26 j ∧ τ13.2.1 26 j ≤ 2147483647 := fun j => hT.2 26 j
        have A27 : ∀ j, 0 ≤ τ13.2.1 27 j ∧ τ13.2.1 27 j ≤ 90000 := fun j => hT.2 27 j
        have A28 : ∀ j, 0 ≤ τ13.2.1 28 j ∧ τ13.2.1 28 j ≤ 60 := fun j => hT.2 28 j
        have A29 : ∀ j, 0 ≤ τ13.2.1 29 j ∧ τ13.2.1 29 j ≤ 1499 := fun j => hT.2 29 j
        have A30 : ∀ j, 0 ≤ τ13.2.1 30 j ∧ τ13.2.1 30 j ≤ 20000 := fun j => hT.2 30 j
        have A31 : ∀ j, 0 ≤ τ13.2.1 31 j ∧ τ13.2.1 31 j ≤ 20000 := fun j => hT.2 31 j
        have A32 : ∀ j, 0 ≤ τ13.2.1 32 j ∧ τ13.2.1 32 j ≤ 999999 := fun j => hT.2 32 j
        have A33 : ∀ j, 0 ≤ τ13.2.1 33 j ∧ τ13.2.1 33 j ≤ 20000 := fun j => hT.2 33 j
        have A34 : ∀ j, 0 ≤ τ13.2.1 34 j ∧ τ13.2.1 34 j ≤ 20000 := fun j => hT.2 34 j
        have A35 : ∀ j, 0 ≤ τ13.2.1 35 j ∧ τ13.2.1 35 j ≤ 1499 := fun j => hT.2 35 j
        have A36 : ∀ j, 0 ≤ τ13.2.1 36 j ∧ τ13.2.1 36 j ≤ 20000 := fun j => hT.2 36 j
        have A37 : ∀ j, 0 ≤ τ13.2.1 37 j ∧ τ13.2.1 37 j ≤ 19999 := fun j => hT.2 37 j
        have A44 : ∀ j, 0 ≤ τ13.2.1 44 j ∧ τ13.2.1 44 j ≤ 42000 := fun j => hT.2 44 j
        have A45 : ∀ j, 0 ≤ τ13.2.1 45 j ∧ τ13.2.1 45 j ≤ 1000 := fun j => hT.2 45 j
        have A49 : ∀ j, (-300) ≤ τ13.2.1 49 j ∧ τ13.2.1 49 j ≤ 67035 := fun j => hT.2 49 j
        have A51 : ∀ j, 0 ≤ τ13.2.1 51 j ∧ τ13.2.1 51 j ≤ 1499 := fun j => hT.2 51 j
        have A54 : ∀ j, 0 ≤ τ13.2.1 54 j ∧ τ13.2.1 54 j ≤ 999 := fun j => hT.2 54 j
        have v3 : 0 ≤ τ13.1 3 ∧ τ13.1 3 ≤ 2500 := hT.1 3
        have v4 : 0 ≤ τ13.1 4 ∧ τ13.1 4 ≤ 100 := hT.1 4
        have v5 : 0 ≤ τ13.1 5 ∧ τ13.1 5 ≤ 1000 := hT.1 5
        have v6 : 0 ≤ τ13.1 6 ∧ τ13.1 6 ≤ 30000 := hT.1 6
        have v7 : 0 ≤ τ13.1 7 ∧ τ13.1 7 ≤ 1500 := hT.1 7
        have v8 : 0 ≤ τ13.1 8 ∧ τ13.1 8 ≤ 1000 := hT.1 8
        have v9 : 0 ≤ τ13.1 9 ∧ τ13.1 9 ≤ 1500 := hT.1 9
        have v10 : 0 ≤ τ13.1 10 ∧ τ13.1 10 ≤ 1000 := hT.1 10
        have v11 : 0 ≤ τ13.1 11 ∧ τ13.1 11 ≤ 50 := hT.1 11
        have v12 : (-2147483648) ≤ τ13.1 12 ∧ τ13.1 12 ≤ 2147483647 := hT.1 12
        have v13 : 0 ≤ τ13.1 13 ∧ τ13.1 13 ≤ 90000 := hT.1 13
        have v14 : 0 ≤ τ13.1 14 ∧ τ13.1 14 ≤ 20000 := hT.1 14
        have v15 : 0 ≤ τ13.1 15 ∧ τ13.1 15 ≤ 20000 := hT.1 15
        have v16 : 0 ≤ τ13.1 16 ∧ τ13.1 16 ≤ 20000 := hT.1 16
        have v21 : 0 ≤ τ13.1 21 ∧ τ13.1 21 ≤ 20000 := hT.1 21
        have v22 : 0 ≤ τ13.1 22 ∧ τ13.1 22 ≤ 300 := hT.1 22
        have v23 : 0 ≤ τ13.1 23 ∧ τ13.1 23 ≤ 300 := hT.1 23
        have v24 : 0 ≤ τ13.1 24 ∧ τ13.1 24 ≤ 1499 := hT.1 24
        have v25 : 0 ≤ τ13.1 25 ∧ τ13.1 25 ≤ 3 := hT.1 25
        have v26 : 0 ≤ τ13.1 26 ∧ τ13.1 26 ≤ 5000010 := hT.1 26
        have v27 : 0 ≤ τ13.1 27 ∧ τ13.1 27 ≤ 1 := hT.1 27
        have v28 : 0 ≤ τ13.1 28 ∧ τ13.1 28 ≤ 1 := hT.1 28
        have v29 : 0 ≤ τ13.1 29 ∧ τ13.1 29 ≤ 60000 := hT.1 29
        have v33 : 0 ≤ τ13.1 33 ∧ τ13.1 33 ≤ 60000 := hT.1 33
        have v35 : 0 ≤ τ13.1 35 ∧ τ13.1 35 ≤ 7 := hT.1 35
        have v36 : 0 ≤ τ13.1 36 ∧ τ13.1 36 ≤ 1001 := hT.1 36
        have v37 : 0 ≤ τ13.1 37 ∧ τ13.1 37 ≤ 4 := hT.1 37
        have a14_7 : 0 ≤ τ13.2.1 14 (τ13.1 7) ∧ τ13.2.1 14 (τ13.1 7) ≤ 30000 := hT.2 14 _
        have a36_15 : 0 ≤ τ13.2.1 36 (τ13.1 15) ∧ τ13.2.1 36 (τ13.1 15) ≤ 20000 := hT.2 36 _
        have kd13 : τ13.2.1 13 = st (σ.2.1 13) (σ.1 7) 3 := by rw [q11_2, g13_τ9, i51_12, w7_τ9, show τ_51.1 7 = σ.1 7 from by omega]
        have cjn := c_J_an CJ_0 hT0 ag (by rw [G10]; exact j_rr0 _ _) TX_0 CH (fun r s a b c => by rw [g36_τ13, g36_τ9]; exact i51_7 (by omega) r s a b (by omega))
        have jtn := J_t_new (k := 3) (kd := σ.2.1 13) (rk := σ.2.1 10) (ipx (by omega)) SC_0 (by omega) (by omega) (by omega) (fun z => by omega) (uc (by omega) (by omega)) (by omega) t015
        have jfn := J_f_k (k := 3) (frx (by omega)).2
        have CJ : c_J τ13 := c_J_new cjn (by omega) (by rw [kd13, G14, G15, G16, G10, W6]; exact jtn) (fun z => by rw [kd13, W13, W14, G14, G15, G16, G27, G28, G29, G30, G31, G32]; exact jfn) (fun z => by first | (exfalso; rw [kd13, st_s] at z; omega) | (have w := J_r_k (k := 3) (i51_6 (by omega) (by omega)); rw [i51_12, ← kd13] at w; rw [w15_τ13, w15_τ9, g28_τ13, g28_τ9, g33_τ13, g33_τ9, g34_τ13, g34_τ9, g35_τ13, g35_τ9, g36_τ13, g36_τ9, g37_τ13, g37_τ9]; exact w))
        have scn := c_S_n SC_0 CJ_0 hT0 ag (by rw [G22]) (by rw [G19])
        have SCa : c_S τ13 := by have w := J_sc_x (n' := σ.1 7 + 1) scn (J_te_k (σ.1 7) (τ13.1 6) 3 (τ13.2.1 13) (τ13.2.1 14) (τ13.2.1 15) (τ13.2.1 16)) (fun i i0 i1 => (cjn.1 i i0 i1).1) (fun m => (hT.2 22 m).1) (by omega); have e : st (τ13.2.1 13) (σ.1 7) 3 = τ13.2.1 13 := by rw [kd13]; funext j; by_cases y : j = σ.1 7; (rw [y, st_s, st_s]); (rw [st_n _ _ y]); rw [e, show σ.1 7 + 1 = τ13.1 7 from by omega, show σ.1 9 = τ13.1 9 from by omega] at w; exact w
        replace hT := cT_v (i := 35) hT (show (0 : Int) ≤ 0 ∧ 0 ≤ 7 from by (first | assumption | omega | (simp only [st_s] <;> omega) | fail))
        exact ⟨hT, (show 0 ≤ 0 ∧ 0 ≤ 19 from by (first | assumption | omega | (simp only [st_s] <;> omega) | fail)), (show J_ht (τ13.1 3) (τ13.2.1 2) (τ13.2.1 3) (τ13.2.1 5) (τ13.2.1 6) from HT), (show J_mn (τ13.1 3) (τ13.1 5) ((τ13.1 7) + 1) (τ13.2.1 4) from by (first | assumption | omega | (simp only [st_s] <;> omega) | fail)), (show J_rks (τ13.1 5) (τ13.1 4) (τ13.2.1 10) (τ13.2.1 11) from RKS), (show J_vs (τ13.1 8) (τ13.1 5) (τ13.2.1 20) from VS), (show J_vs (τ13.1 6) (τ13.1 5) (τ13.2.1 15) from TX), (show J_va (τ13.1 8) 1000 (τ13.2.1 18) (τ13.2.1 20) from VA), (show J_mk (τ13.1 11) (τ13.1 8) (τ13.1 9) (τ13.1 10) (τ13.2.1 25) from MK), (show J_sc (τ13.1 7) (τ13.1 9) (τ13.2.1 13) (τ13.2.1 14) (τ13.2.1 15) (τ13.2.1 16) (τ13.2.1 22) (τ13.2.1 19) from by (first | exact SC | exact SCa | exact c_S_ag SC_0 CJ_0 hT0 ag W9 G22 G19 | fail)), (show J_ff (τ13.1 5) (τ13.1 7) (τ13.2.1 9) (τ13.2.1 13) (τ13.2.1 14) (τ13.2.1 15) from FF), (show ∀ s : Int, τ13.2.1 26 s ≤ (τ13.1 12) from MT), (show J_all (τ13.1 7) (τ13.1 6) (τ13.1 13) (τ13.1 14) (τ13.1 15) (τ13.2.1 13) (τ13.2.1 14) (τ13.2.1 15) (τ13.2.1 16) (τ13.2.1 10) (τ13.2.1 27) (τ13.2.1 28) (τ13.2.1 29) (τ13.2.1 30) (τ13.2.1 31) (τ13.2.1 32) (τ13.2.1 33) (τ13.2.1 34) (τ13.2.1 35) (τ13.2.1 36) (τ13.2.1 37) from CJ), (show J_bp (τ13.2.1 44) (τ13.2.1 45) from BP), (show J_nl (τ13.1 3) (τ13.2.1 2) (τ13.2.1 3) (τ13.2.1 4) from NL), (show 0 = 0 → J_rs ((0 : Int)) (τ13.1 7) (τ13.1 6) (τ13.1 36) (τ13.1 37) (τ13.1 5) (τ13.1 8) (τ13.2.1 14) from by (first | (intro z; exfalso; omega) | (intro z; unfold J_rs; rw [G14, show τ13.1 7 = σ.1 7 + 1 from by omega]; omega) | fail)), (show 0 = 0 → 5 ≤ ((0 : Int)) → 1 ≤ (τ13.1 36) → 0 ≤ τ13.2.1 10 (τ13.2.1 15 (τ13.2.1 14 (τ13.1 7))) from by (first | (intro z; exfalso; omega) | (intro z y; exfalso; omega) | exact fun _ => uc | (intro z y y2; exact uc (by omega) (by omega)) | (intro z y y2; exfalso; omega) | (intro z y y2; rw [G10, G14, G15, W7]; exact uc (by omega) (by omega)) | fail)), (show 0 = 0 → ((0 : Int)) = 4 → j_in (τ13.1 36) 1000 (τ13.2.1 54) from by (first | (intro z; exfalso; omega) | (intro z y; exfalso; omega) | exact fun _ => dj | fail)), (show 0 = 0 → 5 ≤ ((0 : Int)) → J_ip (τ13.1 7) (τ13.1 6) (τ13.1 37) (τ13.2.1 14) (τ13.2.1 15) (τ13.2.1 16) (τ13.2.1 19) from by (first | (intro z; exfalso; omega) | (intro z y; exfalso; omega) | exact fun _ => ipx | (intro z y; exact ipx (by omega)) | (intro z y; rw [W7, W6, W37, G14, G15, G16, G19]; exact ipx (by omega)) | fail)), (show 0 = 0 → (((0 : Int)) ≤ 5 → (τ13.1 13) ≤ 60 * (τ13.1 7)) ∧ (τ13.1 13) ≤ 60 * (τ13.1 7) + 60 from by (intro z; omega)), (show 0 = 0 → 6 ≤ ((0 : Int)) → (τ13.1 24) = (τ13.1 7) ∧ J_f (τ13.1 7) (τ13.1 13) (τ13.1 14) (τ13.2.1 13) (τ13.2.1 14) (τ13.2.1 15) (τ13.2.1 16) (τ13.2.1 27) (τ13.2.1 28) (τ13.2.1 29) (τ13.2.1 30) (τ13.2.1 31) (τ13.2.1 32) from by (first | (intro z; exfalso; omega) | (intro z y; exfalso; omega) | exact fun _ => frx | (intro z y; exact frx (by omega)) | (intro z y; have w := frx (by omega); rw [W7, W13, W14, W24, G13, G14, G15, G16, G27, G28, G29, G30, G31, G32]; exact w) | fail)), (show 0 = 0 → 6 ≤ ((0 : Int)) → J_sp (τ13.1 24) (τ13.1 21) (τ13.1 23) (τ13.1 22) (τ13.2.1 49) (τ13.2.1 51) ∧ ((τ13.1 16) + (τ13.1 21) ≤ 20000) ∧ (¬ (τ13.1 27) = 0 → 1 ≤ (τ13.1 21) ∧ 0 ≤ τ13.2.1 49 ((τ13.1 21) - 1) ∧ τ13.2.1 49 ((τ13.1 21) - 1) < 65536) ∧ ((τ13.1 26) ≤ 1000000) ∧ ((τ13.1 25) ≤ 2 → (τ13.1 27) = 0) from by (first | (intro z; exfalso; omega) | (intro z y; exfalso; omega) | exact fun _ => spx | (intro z y; exact spx (by omega)) | fail)), (show 0 = 0 → (τ13.1 15) ≤ (τ13.1 16) ∧ τ13.2.1 36 (τ13.1 15) ≤ (τ13.1 16) from by (first | (intro z; exfalso; omega) | (intro z; have w := i51_8 (by omega); rw [g36_τ13, g36_τ9]; rw [show τ13.1 15 = τ_51.1 15 from by omega]; omega) | fail)), (show 0 = 0 → (τ13.1 9) ≤ (τ13.1 7) from by (intro z; omega)), (show j_rr ((σ.1 5)) (σ.2.1 10) (τ13.2.1 10) from by (first | exact j_rr0 _ _ | (rw [G10]; exact j_rr0 _ _) | fail)), (show j_eq (σ.2.1 36 (σ.1 15)) (σ.2.1 37) (τ13.2.1 37) from CH), (show (τ13.1 12) ≤ (σ.1 12) + 1 from by (first | assumption | omega | (simp only [st_s] <;> omega) | fail)), (show c_Y σ (s_v τ13 35 0) from by (first | exact c_Y0 _ | exact c_Y_g W4 G11 G20 G22 G25 | fail)), ag⟩
      ·
        refine h86 _ _ ?_
        refine ⟨_, K2_X3_add hT (show 0 ≤ 4 from by (first | assumption | omega | (simp only [st_s] <;> omega) | fail)) (show 4 ≤ 4 from by (first | assumption | omega | (simp only [st_s] <;> omega) | fail)) (show (τ9.1 7) < 1500 from by (first | assumption | omega | (simp only [st_s] <;> omega) | fail)) (show 4 = 0 → τ9.2.1 14 (τ9.1 7) < 29999 from by (first | assumption | omega | (simp only [st_s] <;> omega) | fail)) (show J_ff (τ9.1 5) (τ9.1 7) (τ9.2.1 9) (τ9.2.1 13) (τ9.2.1 14) (τ9.2.1 15) from by (rw [g9_τ9, g13_τ9, g14_τ9, g15_τ9, w5_τ9, w7_τ9, i51_12, i51_13, G14, G15, W5, show τ_51.1 7 = σ.1 7 from by omega]; exact FF_0)), ?_⟩
        intro τ13 hn_τ13 hf_τ13 hq
        obtain ⟨hT, q11_1, q11_2, q11_3, q11_4⟩ := hq
        replace q11_1 : (τ13.1 7) = (τ9.1 7) + 1 := q11_1
        replace q11_2 : τ13.2.1 13 = st (τ9.2.1 13) (τ9.1 7) 4 := q11_2
        replace q11_3 : J_ff (τ13.1 5) (τ13.1 7) (τ13.2.1 9) (τ13.2.1 13) (τ13.2.1 14) (τ13.2.1 15) := q11_3
        replace q11_4 : c_ag τ9 τ13 := q11_4
        have w3_τ13 : τ13.1 3 = τ9.1 3 := hf_τ13.1 3 (by decide)
        have w4_τ13 : τ13.1 4 = τ9.1 4 := hf_τ13.1 4 (by decide)
        have w5_τ13 : τ13.1 5 = τ9.1 5 := hf_τ13.1 5 (by decide)
        have w6_τ13 : τ13.1 6 = τ9.1 6 := hf_τ13.1 6 (by decide)
        have w8_τ13 : τ13.1 8 = τ9.1 8 := hf_τ13.1 8 (by decide)
        have w9_τ13 : τ13.1 9 = τ9.1 9 := hf_τ13.1 9 (by decide)
        have w10_τ13 : τ13.1 10 = τ9.1 10 := hf_τ13.1 10 (by decide)
        have w11_τ13 : τ13.1 11 = τ9.1 11 := hf_τ13.1 11 (by decide)
        have w12_τ13 : τ13.1 12 = τ9.1 12 := hf_τ13.1 12 (by decide)
        have w13_τ13 : τ13.1 13 = τ9.1 13 := hf_τ13.1 13 (by decide)
        have w14_τ13 : τ13.1 14 = τ9.1 14 := hf_τ13.1 14 (by decide)
        have w15_τ13 : τ13.1 15 = τ9.1 15 := hf_τ13.1 15 (by decide)
        have w16_τ13 : τ13.1 16 = τ9.1 16 := hf_τ13.1 16 (by decide)
        have w21_τ13 : τ13.1 21 = τ9.1 21 := hf_τ13.1 21 (by decide)
        have w22_τ13 : τ13.1 22 = τ9.1 22 := hf_τ13.1 22 (by decide)
        have w23_τ13 : τ13.1 23 = τ9.1 23 := hf_τ13.1 23 (by decide)
        have w24_τ13 : τ13.1 24 = τ9.1 24 := hf_τ13.1 24 (by decide)
        have w25_τ13 : τ13.1 25 = τ9.1 25 := hf_τ13.1 25 (by decide)
        have w26_τ13 : τ13.1 26 = τ9.1 26 := hf_τ13.1 26 (by decide)
        have w27_τ13 : τ13.1 27 = τ9.1 27 := hf_τ13.1 27 (by decide)
        have w28_τ13 : τ13.1 28 = τ9.1 28 := hf_τ13.1 28 (by decide)
        have w29_τ13 : τ13.1 29 = τ9.1 29 := hf_τ13.1 29 (by decide)
        have w33_τ13 : τ13.1 33 = τ9.1 33 := hf_τ13.1 33 (by decide)
        have w35_τ13 : τ13.1 35 = τ9.1 35 := hf_τ13.1 35 (by decide)
        have w36_τ13 : τ13.1 36 = τ9.1 36 := hf_τ13.1 36 (by decide)
        have w37_τ13 : τ13.1 37 = τ9.1 37 := hf_τ13.1 37 (by decide)
        have g2_τ13 : τ13.2.1 2 = τ9.2.1 2 := hf_τ13.2.1 2 (by decide)
        have g3_τ13 : τ13.2.1 3 = τ9.2.1 3 := hf_τ13.2.1 3 (by decide)
        have g4_τ13 : τ13.2.1 4 = τ9.2.1 4 := hf_τ13.2.1 4 (by decide)
        have g5_τ13 : τ13.2.1 5 = τ9.2.1 5 := hf_τ13.2.1 5 (by decide)
        have g6_τ13 : τ13.2.1 6 = τ9.2.1 6 := hf_τ13.2.1 6 (by decide)
        have g8_τ13 : τ13.2.1 8 = τ9.2.1 8 := hf_τ13.2.1 8 (by decide)
        have g10_τ13 : τ13.2.1 10 = τ9.2.1 10 := hf_τ13.2.1 10 (by decide)
        have g11_τ13 : τ13.2.1 11 = τ9.2.1 11 := hf_τ13.2.1 11 (by decide)
        have g14_τ13 : τ13.2.1 14 = τ9.2.1 14 := hf_τ13.2.1 14 (by decide)
        have g15_τ13 : τ13.2.1 15 = τ9.2.1 15 := hf_τ13.2.1 15 (by decide)
        have g16_τ13 : τ13.2.1 16 = τ9.2.1 16 := hf_τ13.2.1 16 (by decide)
        have g18_τ13 : τ13.2.1 18 = τ9.2.1 18 := hf_τ13.2.1 18 (by decide)
        have g19_τ13 : τ13.2.1 19 = τ9.2.1 19 := hf_τ13.2.1 19 (by decide)
        have g20_τ13 : τ13.2.1 20 = τ9.2.1 20 := hf_τ13.2.1 20 (by decide)
        have g22_τ13 : τ13.2.1 22 = τ9.2.1 22 := hf_τ13.2.1 22 (by decide)
        have g23_τ13 : τ13.2.1 23 = τ9.2.1 23 := hf_τ13.2.1 23 (by decide)
        have g24_τ13 : τ13.2.1 24 = τ9.2.1 24 := hf_τ13.2.1 24 (by decide)
        have g25_τ13 : τ13.2.1 25 = τ9.2.1 25 := hf_τ13.2.1 25 (by decide)
        have g26_τ13 : τ13.2.1 26 = τ9.2.1 26 := hf_τ13.2.1 26 (by decide)
        have g27_τ13 : τ13.2.1 27 = τ9.2.1 27 := hf_τ13.2.1 27 (by decide)
        have g28_τ13 : τ13.2.1 28 = τ9.2.1 28 := hf_τ13.2.1 28 (by decide)
        have g29_τ13 : τ13.2.1 29 = τ9.2.1 29 := hf_τ13.2.1 29 (by decide)
        have g30_τ13 : τ13.2.1 30 = τ9.2.1 30 := hf_τ13.2.1 30 (by decide)
        have g31_τ13 : τ13.2.1 31 = τ9.2.1 31 := hf_τ13.2.1 31 (by decide)
        have g32_τ13 : τ13.2.1 32 = τ9.2.1 32 := hf_τ13.2.1 32 (by decide)
        have g33_τ13 : τ13.2.1 33 = τ9.2.1 33 := hf_τ13.2.1 33 (by decide)
        have g34_τ13 : τ13.2.1 34 = τ9.2.1 34 := hf_τ13.2.1 34 (by decide)
        have g35_τ13 : τ13.2.1 35 = τ9.2.1 35 := hf_τ13.2.1 35 (by decide)
        have g36_τ13 : τ13.2.1 36 = τ9.2.1 36 := hf_τ13.2.1 36 (by decide)
        have g37_τ13 : τ13.2.1 37 = τ9.2.1 37 := hf_τ13.2.1 37 (by decide)
        have g44_τ13 : τ13.2.1 44 = τ9.2.1 44 := hf_τ13.2.1 44 (by decide)
        have g45_τ13 : τ13.2.1 45 = τ9.2.1 45 := hf_τ13.2.1 45 (by decide)
        have g49_τ13 : τ13.2.1 49 = τ9.2.1 49 := hf_τ13.2.1 49 (by decide)
        have g51_τ13 : τ13.2.1 51 = τ9.2.1 51 := hf_τ13.2.1 51 (by decide)
        have g54_τ13 : τ13.2.1 54 = τ9.2.1 54 := hf_τ13.2.1 54 (by decide)
        have W3 : τ13.1 3 = σ.1 3 := by omega
        have W4 : τ13.1 4 = σ.1 4 := by omega
        have W5 : τ13.1 5 = σ.1 5 := by omega
        have W6 : τ13.1 6 = σ.1 6 := by omega
        have W8 : τ13.1 8 = σ.1 8 := by omega
        have W9 : τ13.1 9 = σ.1 9 := by omega
        have W10 : τ13.1 10 = σ.1 10 := by omega
        have W11 : τ13.1 11 = σ.1 11 := by omega
        have W12 : τ13.1 12 = σ.1 12 := by omega
        have W13 : τ13.1 13 = σ.1 13 := by omega
        have W14 : τ13.1 14 = σ.1 14 := by omega
        have W21 : τ13.1 21 = σ.1 21 := by omega
        have W22 : τ13.1 22 = σ.1 22 := by omega
        have W24 : τ13.1 24 = σ.1 24 := by omega
        have W25 : τ13.1 25 = σ.1 25 := by omega
        have W26 : τ13.1 26 = σ.1 26 := by omega
        have W27 : τ13.1 27 = σ.1 27 := by omega
        have W28 : τ13.1 28 = σ.1 28 := by omega
        have W36 : τ13.1 36 = σ.1 36 := by omega
        have W37 : τ13.1 37 = σ.1 37 := by omega
        have G2 : τ13.2.1 2 = σ.2.1 2 := (g2_τ13).trans G2
        have G3 : τ13.2.1 3 = σ.2.1 3 := (g3_τ13).trans G3
        have G4 : τ13.2.1 4 = σ.2.1 4 := (g4_τ13).trans G4
        have G5 : τ13.2.1 5 = σ.2.1 5 := (g5_τ13).trans G5
        have G6 : τ13.2.1 6 = σ.2.1 6 := (g6_τ13).trans G6
        have G8 : τ13.2.1 8 = σ.2.1 8 := (g8_τ13).trans G8
        have G10 : τ13.2.1 10 = σ.2.1 10 := (g10_τ13).trans G10
        have G11 : τ13.2.1 11 = σ.2.1 11 := (g11_τ13).trans G11
        have G14 : τ13.2.1 14 = σ.2.1 14 := (g14_τ13).trans G14
        have G15 : τ13.2.1 15 = σ.2.1 15 := (g15_τ13).trans G15
        have G16 : τ13.2.1 16 = σ.2.1 16 := (g16_τ13).trans G16
        have G18 : τ13.2.1 18 = σ.2.1 18 := (g18_τ13).trans G18
        have G19 : τ13.2.1 19 = σ.2.1 19 := (g19_τ13).trans G19
        have G20 : τ13.2.1 20 = σ.2.1 20 := (g20_τ13).trans G20
        have G22 : τ13.2.1 22 = σ.2.1 22 := (g22_τ13).trans G22
        have G23 : τ13.2.1 23 = σ.2.1 23 := (g23_τ13).trans G23
        have G24 : τ13.2.1 24 = σ.2.1 24 := (g24_τ13).trans G24
        have G25 : τ13.2.1 25 = σ.2.1 25 := (g25_τ13).trans G25
        have G26 : τ13.2.1 26 = σ.2.1 26 := (g26_τ13).trans G26
        have G27 : τ13.2.1 27 = σ.2.1 27 := (g27_τ13).trans G27
        have G28 : τ13.2.1 28 = σ.2.1 28 := (g28_τ13).trans G28
        have G29 : τ13.2.1 29 = σ.2.1 29 := (g29_τ13).trans G29
        have G30 : τ13.2.1 30 = σ.2.1 30 := (g30_τ13).trans G30
        have G31 : τ13.2.1 31 = σ.2.1 31 := (g31_τ13).trans G31
        have G32 : τ13.2.1 32 = σ.2.1 32 := (g32_τ13).trans G32
        have G49 : τ13.2.1 49 = σ.2.1 49 := (g49_τ13).trans G49
        have G51 : τ13.2.1 51 = σ.2.1 51 := (g51_τ13).trans G51
        have G54 : τ13.2.1 54 = σ.2.1 54 := (g54_τ13).trans G54
        have y36_15_τ13 : τ13.2.1 36 (τ13.1 15) = (τ9.2.1 36) (τ9.1 15) := by rw [g36_τ13, w15_τ13]
        have HT : J_ht (τ13.1 3) (τ13.2.1 2) (τ13.2.1 3) (τ13.2.1 5) (τ13.2.1 6) := by rw [show (J_ht (τ13.1 3) (τ13.2.1 2) (τ13.2.1 3) (τ13.2.1 5) (τ13.2.1 6)) = (J_ht (τ9.1 3) (τ9.2.1 2) (τ9.2.1 3) (τ9.2.1 5) (τ9.2.1 6)) from by rw [w3_τ13, g2_τ13, g3_τ13, g5_τ13, g6_τ13]]; exact HT
        have NL : J_nl (τ13.1 3) (τ13.2.1 2) (τ13.2.1 3) (τ13.2.1 4) := by rw [show (J_nl (τ13.1 3) (τ13.2.1 2) (τ13.2.1 3) (τ13.2.1 4)) = (J_nl (τ9.1 3) (τ9.2.1 2) (τ9.2.1 3) (τ9.2.1 4)) from by rw [w3_τ13, g2_τ13, g3_τ13, g4_τ13]]; exact NL
        have VA : J_va (τ13.1 8) 1000 (τ13.2.1 18) (τ13.2.1 20) := by rw [show (J_va (τ13.1 8) 1000 (τ13.2.1 18) (τ13.2.1 20)) = (J_va (τ9.1 8) 1000 (τ9.2.1 18) (τ9.2.1 20)) from by rw [w8_τ13, g18_τ13, g20_τ13]]; exact VA
        have MK : J_mk (τ13.1 11) (τ13.1 8) (τ13.1 9) (τ13.1 10) (τ13.2.1 25) := by rw [show (J_mk (τ13.1 11) (τ13.1 8) (τ13.1 9) (τ13.1 10) (τ13.2.1 25)) = (J_mk (τ9.1 11) (τ9.1 8) (τ9.1 9) (τ9.1 10) (τ9.2.1 25)) from by rw [w8_τ13, w9_τ13, w10_τ13, w11_τ13, g25_τ13]]; exact MK
        have FF : J_ff (τ13.1 5) (τ13.1 7) (τ13.2.1 9) (τ13.2.1 13) (τ13.2.1 14) (τ13.2.1 15) := q11_3
        have MT : ∀ s : Int, τ13.2.1 26 s ≤ (τ13.1 12) := by rw [show (∀ s : Int, τ13.2.1 26 s ≤ (τ13.1 12)) = (∀ s : Int, τ9.2.1 26 s ≤ (τ9.1 12)) from by rw [w12_τ13, g26_τ13]]; exact MT
        have VS : J_vs (τ13.1 8) (τ13.1 5) (τ13.2.1 20) := by rw [show (J_vs (τ13.1 8) (τ13.1 5) (τ13.2.1 20)) = (J_vs (τ9.1 8) (τ9.1 5) (τ9.2.1 20)) from by rw [w5_τ13, w8_τ13, g20_τ13]]; exact VS
        have TX : J_vs (τ13.1 6) (τ13.1 5) (τ13.2.1 15) := by rw [show (J_vs (τ13.1 6) (τ13.1 5) (τ13.2.1 15)) = (J_vs (τ9.1 6) (τ9.1 5) (τ9.2.1 15)) from by rw [w5_τ13, w6_τ13, g15_τ13]]; exact TX
        have RKS : J_rks (τ13.1 5) (τ13.1 4) (τ13.2.1 10) (τ13.2.1 11) := by rw [show (J_rks (τ13.1 5) (τ13.1 4) (τ13.2.1 10) (τ13.2.1 11)) = (J_rks (τ9.1 5) (τ9.1 4) (τ9.2.1 10) (τ9.2.1 11)) from by rw [w4_τ13, w5_τ13, g10_τ13, g11_τ13]]; exact RKS
        have BP : J_bp (τ13.2.1 44) (τ13.2.1 45) := by rw [show (J_bp (τ13.2.1 44) (τ13.2.1 45)) = (J_bp (τ9.2.1 44) (τ9.2.1 45)) from by rw [g44_τ13, g45_τ13]]; exact BP
        have CH : j_eq (σ.2.1 36 (σ.1 15)) (σ.2.1 37) (τ13.2.1 37) := by rw [show (j_eq (σ.2.1 36 (σ.1 15)) (σ.2.1 37) (τ13.2.1 37)) = (j_eq (σ.2.1 36 (σ.1 15)) (σ.2.1 37) (τ9.2.1 37)) from by rw [g37_τ13]]; exact CH
        have A2 : ∀ j, 0 ≤ τ13.2.1 2 j ∧ τ13.2.1 2 j ≤ 65535 := fun j => hT.2 2 j
        have A3 : ∀ j, 0 ≤ τ13.2.1 3 j ∧ τ13.2.1 3 j ≤ 30000 := fun j => hT.2 3 j
        have A4 : ∀ j, (-1000) ≤ τ13.2.1 4 j ∧ τ13.2.1 4 j ≤ 1499 := fun j => hT.2 4 j
        have A5 : ∀ j, 0 ≤ τ13.2.1 5 j ∧ τ13.2.1 5 j ≤ 2500 := fun j => hT.2 5 j
        have A6 : ∀ j, 0 ≤ τ13.2.1 6 j ∧ τ13.2.1 6 j ≤ 2500 := fun j => hT.2 6 j
        have A8 : ∀ j, 0 ≤ τ13.2.1 8 j ∧ τ13.2.1 8 j ≤ 1 := fun j => hT.2 8 j
        have A9 : ∀ j, (-1) ≤ τ13.2.1 9 j ∧ τ13.2.1 9 j ≤ 1499 := fun j => hT.2 9 j
        have A10 : ∀ j, (-1) ≤ τ13.2.1 10 j ∧ τ13.2.1 10 j ≤ 99 := fun j => hT.2 10 j
        have A11 : ∀ j, 0 ≤ τ13.2.1 11 j ∧ τ13.2.1 11 j ≤ 999 := fun j => hT.2 11 j
        have A13 : ∀ j, 0 ≤ τ13.2.1 13 j ∧ τ13.2.1 13 j ≤ 4 := fun j => hT.2 13 j
        have A14 : ∀ j, 0 ≤ τ13.2.1 14 j ∧ τ13.2.1 14 j ≤ 30000 := fun j => hT.2 14 j
        have A15 : ∀ j, 0 ≤ τ13.2.1 15 j ∧ τ13.2.1 15 j ≤ 999 := fun j => hT.2 15 j
        have A16 : ∀ j, (-1) ≤ τ13.2.1 16 j ∧ τ13.2.1 16 j ≤ 1499 := fun j => hT.2 16 j
        have A18 : ∀ j, 0 ≤ τ13.2.1 18 j ∧ τ13.2.1 18 j ≤ 1 := fun j => hT.2 18 j
        have A19 : ∀ j, (-1) ≤ τ13.2.1 19 j ∧ τ13.2.1 19 j ≤ 1499 := fun j => hT.2 19 j
        have A20 : ∀ j, 0 ≤ τ13.2.1 20 j ∧ τ13.2.1 20 j ≤ 999 := fun j => hT.2 20 j
        have A22 : ∀ j, 0 ≤ τ13.2.1 22 j ∧ τ13.2.1 22 j ≤ 1499 := fun j => hT.2 22 j
        have A23 : ∀ j, 0 ≤ τ13.2.1 23 j ∧ τ13.2.1 23 j ≤ 999 := fun j => hT.2 23 j
        have A24 : ∀ j, 0 ≤ τ13.2.1 24 j ∧ τ13.2.1 24 j ≤ 999 := fun j => hT.2 24 j
        have A26 : ∀ j, (-2147483648) ≤ τ13.2.1 26 j ∧ τ13.2.1 26 j ≤ 2147483647 := fun j => hT.2 26 j
        have A27 : ∀ j, 0 ≤ τ13.2.1 27 j ∧ τ13.2.1 27 j ≤ 90000 := fun j => hT.2 27 j
        have A28 : ∀ j, 0 ≤ τ13.2.1 28 j ∧ τ13.2.1 28 j ≤ 60 := fun j => hT.2 28 j
        have A29 : ∀ j, 0 ≤ τ13.2.1 29 j ∧ τ13.2.1 29 j ≤ 1499 := fun j => hT.2 29 j
        have A30 : ∀ j, 0 ≤ τ13.2.1 30 j ∧ τ13.2.1 30 j ≤ 20000 := fun j => hT.2 30 j
        have A31 : ∀ j, 0 ≤ τ13.2.1 31 j ∧ τ13.2.1 31 j ≤ 20000 := fun j => hT.2 31 j
        have A32 : ∀ j, 0 ≤ τ13.2.1 32 j ∧ τ13.2.1 32 j ≤ 999999 := fun j => hT.2 32 j
        have A33 : ∀ j, 0 ≤ τ13.2.1 33 j ∧ τ13.2.1 33 j ≤ 20000 := fun j => hT.2 33 j
        have A34 : ∀ j, 0 ≤ τ13.2.1 34 j ∧ τ13.2.1 34 j ≤ 20000 := fun j => hT.2 34 j
        have A35 : ∀ j, 0 ≤ τ13.2.1 35 j ∧ τ13.2.1 35 j ≤ 1499 := fun j => hT.2 35 j
        have A36 : ∀ j, 0 ≤ τ13.2.1 36 j ∧ τ13.2.1 36 j ≤ 20000 := fun j => hT.2 36 j
        have A37 : ∀ j, 0 ≤ τ13.2.1 37 j ∧ τ13.2.1 37 j ≤ 19999 := fun j => hT.2 37 j
        have A44 : ∀ j, 0 ≤ τ13.2.1 44 j ∧ τ13.2.1 44 j ≤ 42000 := fun j => hT.2 44 j
        have A45 : ∀ j, 0 ≤ τ13.2.1 45 j ∧ τ13.2.1 45 j ≤ 1000 := fun j => hT.2 45 j
        have A49 : ∀ j, (-300) ≤ τ13.2.1 49 j ∧ τ13.2.1 49 j ≤ 67035 := fun j => hT.2 49 j
        have A51 : ∀ j, 0 ≤ τ13.2.1 51 j ∧ τ13.2.1 51 j ≤ 1499 := fun j => hT.2 51 j
        have A54 : ∀ j, 0 ≤ τ13.2.1 54 j ∧ τ13.2.1 54 j ≤ 999 := fun j => hT.2 54 j
        have v3 : 0 ≤ τ13.1 3 ∧ τ13.1 3 ≤ 2500 := hT.1 3
        have v4 : 0 ≤ τ13.1 4 ∧ τ13.1 4 ≤ 100 := hT.1 4
        have v5 : 0 ≤ τ13.1 5 ∧ τ13.1 5 ≤ 1000 := hT.1 5
        have v6 : 0 ≤ τ13.1 6 ∧ τ13.1 6 ≤ 30000 := hT.1 6
        have v7 : 0 ≤ τ13.1 7 ∧ τ13.1 7 ≤ 1500 := hT.1 7
        have v8 : 0 ≤ τ13.1 8 ∧ τ13.1 8 ≤ 1000 := hT.1 8
        have v9 : 0 ≤ τ13.1 9 ∧ τ13.1 9 ≤ 1500 := hT.1 9
        have v10 : 0 ≤ τ13.1 10 ∧ τ13.1 10 ≤ 1000 := hT.1 10
        have v11 : 0 ≤ τ13.1 11 ∧ τ13.1 11 ≤ 50 := hT.1 11
        have v12 : (-2147483648) ≤ τ13.1 12 ∧ τ13.1 12 ≤ 2147483647 := hT.1 12
        have v13 : 0 ≤ τ13.1 13 ∧ τ13.1 13 ≤ 90000 := hT.1 13
        have v14 : 0 ≤ τ13.1 14 ∧ τ13.1 14 ≤ 20000 := hT.1 14
        have v15 : 0 ≤ τ13.1 15 ∧ τ13.1 15 ≤ 20000 := hT.1 15
        have v16 : 0 ≤ τ13.1 16 ∧ τ13.1 16 ≤ 20000 := hT.1 16
        have v21 : 0 ≤ τ13.1 21 ∧ τ13.1 21 ≤ 20000 := hT.1 21
        have v22 : 0 ≤ τ13.1 22 ∧ τ13.1 22 ≤ 300 := hT.1 22
        have v23 : 0 ≤ τ13.1 23 ∧ τ13.1 23 ≤ 300 := hT.1 23
        have v24 : 0 ≤ τ13.1 24 ∧ τ13.1 24 ≤ 1499 := hT.1 24
        have v25 : 0 ≤ τ13.1 25 ∧ τ13.1 25 ≤ 3 := hT.1 25
        have v26 : 0 ≤ τ13.1 26 ∧ τ13.1 26 ≤ 5000010 := hT.1 26
        have v27 : 0 ≤ τ13.1 27 ∧ τ13.1 27 ≤ 1 := hT.1 27
        have v28 : 0 ≤ τ13.1 28 ∧ τ13.1 28 ≤ 1 := hT.1 28
        have v29 : 0 ≤ τ13.1 29 ∧ τ13.1 29 ≤ 60000 := hT.1 29
        have v33 : 0 ≤ τ13.1 33 ∧ τ13.1 33 ≤ 60000 := hT.1 33
        have v35 : 0 ≤ τ13.1 35 ∧ τ13.1 35 ≤ 7 := hT.1 35
        have v36 : 0 ≤ τ13.1 36 ∧ τ13.1 36 ≤ 1001 := hT.1 36
        have v37 : 0 ≤ τ13.1 37 ∧ τ13.1 37 ≤ 4 := hT.1 37
        have a14_7 : 0 ≤ τ13.2.1 14 (τ13.1 7) ∧ τ13.2.1 14 (τ13.1 7) ≤ 30000 := hT.2 14 _
        have a36_15 : 0 ≤ τ13.2.1 36 (τ13.1 15) ∧ τ13.2.1 36 (τ13.1 15) ≤ 20000 := hT.2 36 _
        have kd13 : τ13.2.1 13 = st (σ.2.1 13) (σ.1 7) 4 := by rw [q11_2, g13_τ9, i51_12, w7_τ9, show τ_51.1 7 = σ.1 7 from by omega]
        have cjn := c_J_an CJ_0 hT0 ag (by rw [G10]; exact j_rr0 _ _) TX_0 CH (fun r s a b c => by rw [g36_τ13, g36_τ9]; exact i51_7 (by omega) r s a b (by omega))
        have jtn := J_t_new (k := 4) (kd := σ.2.1 13) (rk := σ.2.1 10) (ipx (by omega)) SC_0 (by omega) (by omega) (by omega) (fun z => by omega) (uc (by omega) (by omega)) (by omega) t015
        have jfn := J_f_k (k := 4) (frx (by omega)).2
        have CJ : c_J τ13 := c_J_new cjn (by omega) (by rw [kd13, G14, G15, G16, G10, W6]; exact jtn) (fun z => by rw [kd13, W13, W14, G14, G15, G16, G27, G28, G29, G30, G31, G32]; exact jfn) (fun z => by first | (exfalso; rw [kd13, st_s] at z; omega) | (have w := J_r_k (k := 3) (i51_6 (by omega) (by omega)); rw [i51_12, ← kd13] at w; rw [w15_τ13, w15_τ9, g28_τ13, g28_τ9, g33_τ13, g33_τ9, g34_τ13, g34_τ9, g35_τ13, g35_τ9, g36_τ13, g36_τ9, g37_τ13, g37_τ9]; exact w))
        have scn := c_S_n SC_0 CJ_0 hT0 ag (by rw [G22]) (by rw [G19])
        have SCa : c_S τ13 := by have w := J_sc_x (n' := σ.1 7 + 1) scn (J_te_k (σ.1 7) (τ13.1 6) 4 (τ13.2.1 13) (τ13.2.1 14) (τ13.2.1 15) (τ13.2.1 16)) (fun i i0 i1 => (cjn.1 i i0 i1).1) (fun m => (hT.2 22 m).1) (by omega); have e : st (τ13.2.1 13) (σ.1 7) 4 = τ13.2.1 13 := by rw [kd13]; funext j; by_cases y : j = σ.1 7; (rw [y, st_s, st_s]); (rw [st_n _ _ y]); rw [e, show σ.1 7 + 1 = τ13.1 7 from by omega, show σ.1 9 = τ13.1 9 from by omega] at w; exact w
        replace hT := cT_v (i := 35) hT (show (0 : Int) ≤ 0 ∧ 0 ≤ 7 from by (first | assumption | omega | (simp only [st_s] <;> omega) | fail))
        exact ⟨hT, (show 0 ≤ 0 ∧ 0 ≤ 19 from by (first | assumption | omega | (simp only [st_s] <;> omega) | fail)), (show J_ht (τ13.1 3) (τ13.2.1 2) (τ13.2.1 3) (τ13.2.1 5) (τ13.2.1 6) from HT), (show J_mn (τ13.1 3) (τ13.1 5) ((τ13.1 7) + 1) (τ13.2.1 4) from by (first | assumption | omega | (simp only [st_s] <;> omega) | fail)), (show J_rks (τ13.1 5) (τ13.1 4) (τ13.2.1 10) (τ13.2.1 11) from RKS), (show J_vs (τ13.1 8) (τ13.1 5) (τ13.2.1 20) from VS), (show J_vs (τ13.1 6) (τ13.1 5) (τ13.2.1 15) from TX), (show J_va (τ13.1 8) 1000 (τ13.2.1 18) (τ13.2.1 20) from VA), (show J_mk (τ13.1 11) (τ13.1 8) (τ13.1 9) (τ13.1 10) (τ13.2.1 25) from MK), (show J_sc (τ13.1 7) (τ13.1 9) (τ13.2.1 13) (τ13.2.1 14) (τ13.2.1 15) (τ13.2.1 16) (τ13.2.1 22) (τ13.2.1 19) from by (first | exact SC | exact SCa | exact c_S_ag SC_0 CJ_0 hT0 ag W9 G22 G19 | fail)), (show J_ff (τ13.1 5) (τ13.1 7) (τ13.2.1 9) (τ13.2.1 13) (τ13.2.1 14) (τ13.2.1 15) from FF), (show ∀ s : Int, τ13.2.1 26 s ≤ (τ13.1 12) from MT), (show J_all (τ13.1 7) (τ13.1 6) (τ13.1 13) (τ13.1 14) (τ13.1 15) (τ13.2.1 13) (τ13.2.1 14) (τ13.2.1 15) (τ13.2.1 16) (τ13.2.1 10) (τ13.2.1 27) (τ13.2.1 28) (τ13.2.1 29) (τ13.2.1 30) (τ13.2.1 31) (τ13.2.1 32) (τ13.2.1 33) (τ13.2.1 34) (τ13.2.1 35) (τ13.2.1 36) (τ13.2.1 37) from CJ), (show J_bp (τ13.2.1 44) (τ13.2.1 45) from BP), (show J_nl (τ13.1 3) (τ13.2.1 2) (τ13.2.1 3) (τ13.2.1 4) from NL), (show 0 = 0 → J_rs ((0 : Int)) (τ13.1 7) (τ13.1 6) (τ13.1 36) (τ13.1 37) (τ13.1 5) (τ13.1 8) (τ13.2.1 14) from by (first | (intro z; exfalso; omega) | (intro z; unfold J_rs; rw [G14, show τ13.1 7 = σ.1 7 + 1 from by omega]; omega) | fail)), (show 0 = 0 → 5 ≤ ((0 : Int)) → 1 ≤ (τ13.1 36) → 0 ≤ τ13.2.1 10 (τ13.2.1 15 (τ13.2.1 14 (τ13.1 7))) from by (first | (intro z; exfalso; omega) | (intro z y; exfalso; omega) | exact fun _ => uc | (intro z y y2; exact uc (by omega) (by omega)) | (intro z y y2; exfalso; omega) | (intro z y y2; rw [G10, G14, G15, W7]; exact uc (by omega) (by omega)) | fail)), (show 0 = 0 → ((0 : Int)) = 4 → j_in (τ13.1 36) 1000 (τ13.2.1 54) from by (first | (intro z; exfalso; omega) | (intro z y; exfalso; omega) | exact fun _ => dj | fail)), (show 0 = 0 → 5 ≤ ((0 : Int)) → J_ip (τ13.1 7) (τ13.1 6) (τ13.1 37) (τ13.2.1 14) (τ13.2.1 15) (τ13.2.1 16) (τ13.2.1 19) from by (first | (intro z; exfalso; omega) | (intro z y; exfalso; omega) | exact fun _ => ipx | (intro z y; exact ipx (by omega)) | (intro z y; rw [W7, W6, W37, G14, G15, G16, G19]; exact ipx (by omega)) | fail)), (show 0 = 0 → (((0 : Int)) ≤ 5 → (τ13.1 13) ≤ 60 * (τ13.1 7)) ∧ (τ13.1 13) ≤ 60 * (τ13.1 7) + 60 from by (intro z; omega)), (show 0 = 0 → 6 ≤ ((0 : Int)) → (τ13.1 24) = (τ13.1 7) ∧ J_f (τ13.1 7) (τ13.1 13) (τ13.1 14) (τ13.2.1 13) (τ13.2.1 14) (τ13.2.1 15) (τ13.2.1 16) (τ13.2.1 27) (τ13.2.1 28) (τ13.2.1 29) (τ13.2.1 30) (τ13.2.1 31) (τ13.2.1 32) from by (first | (intro z; exfalso; omega) | (intro z y; exfalso; omega) | exact fun _ => frx | (intro z y; exact frx (by omega)) | (intro z y; have w := frx (by omega); rw [W7, W13, W14, W24, G13, G14, G15, G16, G27, G28, G29, G30, G31, G32]; exact w) | fail)), (show 0 = 0 → 6 ≤ ((0 : Int)) → J_sp (τ13.1 24) (τ13.1 21) (τ13.1 23) (τ13.1 22) (τ13.2.1 49) (τ13.2.1 51) ∧ ((τ13.1 16) + (τ13.1 21) ≤ 20000) ∧ (¬ (τ13.1 27) = 0 → 1 ≤ (τ13.1 21) ∧ 0 ≤ τ13.2.1 49 ((τ13.1 21) - 1) ∧ τ13.2.1 49 ((τ13.1 21) - 1) < 65536) ∧ ((τ13.1 26) ≤ 1000000) ∧ ((τ13.1 25) ≤ 2 → (τ13.1 27) = 0) from by (first | (intro z; exfalso; omega) | (intro z y; exfalso; omega) | exact fun _ => spx | (intro z y; exact spx (by omega)) | fail)), (show 0 = 0 → (τ13.1 15) ≤ (τ13.1 16) ∧ τ13.2.1 36 (τ13.1 15) ≤ (τ13.1 16) from by (first | (intro z; exfalso; omega) | (intro z; have w := i51_8 (by omega); rw [g36_τ13, g36_τ9]; rw [show τ13.1 15 = τ_51.1 15 from by omega]; omega) | fail)), (show 0 = 0 → (τ13.1 9) ≤ (τ13.1 7) from by (intro z; omega)), (show j_rr ((σ.1 5)) (σ.2.1 10) (τ13.2.1 10) from by (first | exact j_rr0 _ _ | (rw [G10]; exact j_rr0 _ _) | fail)), (show j_eq (σ.2.1 36 (σ.1 15)) (σ.2.1 37) (τ13.2.1 37) from CH), (show (τ13.1 12) ≤ (σ.1 12) + 1 from by (first | assumption | omega | (simp only [st_s] <;> omega) | fail)), (show c_Y σ (s_v τ13 35 0) from by (first | exact c_Y0 _ | exact c_Y_g W4 G11 G20 G22 G25 | fail)), ag⟩
    ·
      exact ⟨hT, (show 0 ≤ u1_51 ∧ u1_51 ≤ 19 from by (first | assumption | omega | (simp only [st_s] <;> omega) | fail)), (show J_ht (τ_51.1 3) (τ_51.2.1 2) (τ_51.2.1 3) (τ_51.2.1 5) (τ_51.2.1 6) from HT), (show J_mn (τ_51.1 3) (τ_51.1 5) ((τ_51.1 7) + 1) (τ_51.2.1 4) from by (first | assumption | omega | (simp only [st_s] <;> omega) | fail)), (show J_rks (τ_51.1 5) (τ_51.1 4) (τ_51.2.1 10) (τ_51.2.1 11) from RKS), (show J_vs (τ_51.1 8) (τ_51.1 5) (τ_51.2.1 20) from VS), (show J_vs (τ_51.1 6) (τ_51.1 5) (τ_51.2.1 15) from TX), (show J_va (τ_51.1 8) 1000 (τ_51.2.1 18) (τ_51.2.1 20) from VA), (show J_mk (τ_51.1 11) (τ_51.1 8) (τ_51.1 9) (τ_51.1 10) (τ_51.2.1 25) from MK), (show J_sc (τ_51.1 7) (τ_51.1 9) (τ_51.2.1 13) (τ_51.2.1 14) (τ_51.2.1 15) (τ_51.2.1 16) (τ_51.2.1 22) (τ_51.2.1 19) from by (first | exact SC | exact SCa | exact c_S_ag SC_0 CJ_0 hT0 ag W9 G22 G19 | fail)), (show J_ff (τ_51.1 5) (τ_51.1 7) (τ_51.2.1 9) (τ_51.2.1 13) (τ_51.2.1 14) (τ_51.2.1 15) from by (first | exact FF | exact c_F_ag FF_0 CJ_0 ag (by omega) (by exact i51_13) | fail)), (show ∀ s : Int, τ_51.2.1 26 s ≤ (τ_51.1 12) from MT), (show J_all (τ_51.1 7) (τ_51.1 6) (τ_51.1 13) (τ_51.1 14) (τ_51.1 15) (τ_51.2.1 13) (τ_51.2.1 14) (τ_51.2.1 15) (τ_51.2.1 16) (τ_51.2.1 10) (τ_51.2.1 27) (τ_51.2.1 28) (τ_51.2.1 29) (τ_51.2.1 30) (τ_51.2.1 31) (τ_51.2.1 32) (τ_51.2.1 33) (τ_51.2.1 34) (τ_51.2.1 35) (τ_51.2.1 36) (τ_51.2.1 37) from by (first | exact CJ | exact c_J_ag CJ_0 hT0 ag (by omega) (by rw [G10]; exact j_rr0 _ _) TX_0 CH (by omega) | fail)), (show J_bp (τ_51.2.1 44) (τ_51.2.1 45) from BP), (show J_nl (τ_51.1 3) (τ_51.2.1 2) (τ_51.2.1 3) (τ_51.2.1 4) from NL), (show u1_51 = 0 → J_rs (τ_51.1 35) (τ_51.1 7) (τ_51.1 6) (τ_51.1 36) (τ_51.1 37) (τ_51.1 5) (τ_51.1 8) (τ_51.2.1 14) from by (first | (intro z; exfalso; omega) | (intro z; unfold J_rs; rw [G14, show τ13.1 7 = σ.1 7 + 1 from by omega]; omega) | fail)), (show u1_51 = 0 → 5 ≤ (τ_51.1 35) → 1 ≤ (τ_51.1 36) → 0 ≤ τ_51.2.1 10 (τ_51.2.1 15 (τ_51.2.1 14 (τ_51.1 7))) from by (first | (intro z; exfalso; omega) | (intro z y; exfalso; omega) | exact fun _ => uc | (intro z y y2; exact uc (by omega) (by omega)) | (intro z y y2; exfalso; omega) | (intro z y y2; rw [G10, G14, G15, W7]; exact uc (by omega) (by omega)) | fail)), (show u1_51 = 0 → (τ_51.1 35) = 4 → j_in (τ_51.1 36) 1000 (τ_51.2.1 54) from by (first | (intro z; exfalso; omega) | (intro z y; exfalso; omega) | exact fun _ => dj | fail)), (show u1_51 = 0 → 5 ≤ (τ_51.1 35) → J_ip (τ_51.1 7) (τ_51.1 6) (τ_51.1 37) (τ_51.2.1 14) (τ_51.2.1 15) (τ_51.2.1 16) (τ_51.2.1 19) from by (first | (intro z; exfalso; omega) | (intro z y; exfalso; omega) | exact fun _ => ipx | (intro z y; exact ipx (by omega)) | (intro z y; rw [W7, W6, W37, G14, G15, G16, G19]; exact ipx (by omega)) | fail)), (show u1_51 = 0 → ((τ_51.1 35) ≤ 5 → (τ_51.1 13) ≤ 60 * (τ_51.1 7)) ∧ (τ_51.1 13) ≤ 60 * (τ_51.1 7) + 60 from by (intro z; omega)), (show u1_51 = 0 → 6 ≤ (τ_51.1 35) → (τ_51.1 24) = (τ_51.1 7) ∧ J_f (τ_51.1 7) (τ_51.1 13) (τ_51.1 14) (τ_51.2.1 13) (τ_51.2.1 14) (τ_51.2.1 15) (τ_51.2.1 16) (τ_51.2.1 27) (τ_51.2.1 28) (τ_51.2.1 29) (τ_51.2.1 30) (τ_51.2.1 31) (τ_51.2.1 32) from by (first | (intro z; exfalso; omega) | (intro z y; exfalso; omega) | exact fun _ => frx | (intro z y; exact frx (by omega)) | (intro z y; have w := frx (by omega); rw [W7, W13, W14, W24, G13, G14, G15, G16, G27, G28, G29, G30, G31, G32]; exact w) | fail)), (show u1_51 = 0 → 6 ≤ (τ_51.1 35) → J_sp (τ_51.1 24) (τ_51.1 21) (τ_51.1 23) (τ_51.1 22) (τ_51.2.1 49) (τ_51.2.1 51) ∧ ((τ_51.1 16) + (τ_51.1 21) ≤ 20000) ∧ (¬ (τ_51.1 27) = 0 → 1 ≤ (τ_51.1 21) ∧ 0 ≤ τ_51.2.1 49 ((τ_51.1 21) - 1) ∧ τ_51.2.1 49 ((τ_51.1 21) - 1) < 65536) ∧ ((τ_51.1 26) ≤ 1000000) ∧ ((τ_51.1 25) ≤ 2 → (τ_51.1 27) = 0) from by (first | (intro z; exfalso; omega) | (intro z y; exfalso; omega) | exact fun _ => spx | (intro z y; exact spx (by omega)) | fail)), (show u1_51 = 0 → (τ_51.1 15) ≤ (τ_51.1 16) ∧ τ_51.2.1 36 (τ_51.1 15) ≤ (τ_51.1 16) from by (first | (intro z; exfalso; omega) | (intro z; have w := i51_8 (by omega); rw [g36_τ13, g36_τ9]; rw [show τ13.1 15 = τ_51.1 15 from by omega]; omega) | fail)), (show u1_51 = 0 → (τ_51.1 9) ≤ (τ_51.1 7) from by (intro z; omega)), (show j_rr ((σ.1 5)) (σ.2.1 10) (τ_51.2.1 10) from by (first | exact j_rr0 _ _ | (rw [G10]; exact j_rr0 _ _) | fail)), (show j_eq (σ.2.1 36 (σ.1 15)) (σ.2.1 37) (τ_51.2.1 37) from CH), (show (τ_51.1 12) ≤ (σ.1 12) + 1 from by (first | assumption | omega | (simp only [st_s] <;> omega) | fail)), (show c_Y σ (s_v τ_51 33 k1_51) from by (first | exact c_Y0 _ | exact c_Y_g W4 G11 G20 G22 G25 | fail)), ag⟩
  refine ⟨fun c1 => ?_, fun c1 => ?_⟩
  ·
    refine ⟨_, K_X10_goThrough hT (show 0 ≤ (σ.1 33) from by (first | assumption | omega | (simp only [st_s] <;> omega) | fail)) (show (σ.1 33) ≤ 60000 from by (first | assumption | omega | (simp only [st_s] <;> omega) | fail)) (show (σ.1 24) = (σ.1 7) from by exact (frx (by omega)).1) (show (σ.1 7) < 1500 from by (first | assumption | omega | (simp only [st_s] <;> omega) | fail)) (show J_sp (σ.1 24) (σ.1 21) (σ.1 23) (σ.1 22) (σ.2.1 49) (σ.2.1 51) from by exact (spx (by omega)).1) (show (σ.1 16) + (σ.1 21) ≤ 20000 from by exact (spx (by omega)).2.1) (show J_all (σ.1 7) (σ.1 6) (σ.1 13) (σ.1 14) (σ.1 15) (σ.2.1 13) (σ.2.1 14) (σ.2.1 15) (σ.2.1 16) (σ.2.1 10) (σ.2.1 27) (σ.2.1 28) (σ.2.1 29) (σ.2.1 30) (σ.2.1 31) (σ.2.1 32) (σ.2.1 33) (σ.2.1 34) (σ.2.1 35) (σ.2.1 36) (σ.2.1 37) from CJ) (show J_bp (σ.2.1 44) (σ.2.1 45) from BP) (show J_vs (σ.1 6) (σ.1 5) (σ.2.1 15) from TX) (show (σ.1 15) ≤ (σ.1 16) from by (first | assumption | omega | (simp only [st_s] <;> omega) | fail)) (show σ.2.1 36 (σ.1 15) ≤ (σ.1 16) from by (first | assumption | omega | (simp only [st_s] <;> omega) | fail)), ?_⟩
    intro x3 τ4 r_x3 hn_τ4 hf_τ4 hq
    obtain ⟨hT, q2_1, q2_2, q2_3, q2_4, q2_5, q2_6, q2_7, q2_8, q2_9⟩ := hq
    replace q2_1 : 0 ≤ x3 ∧ x3 ≤ 19 := q2_1
    replace q2_2 : J_bp (τ4.2.1 44) (τ4.2.1 45) := q2_2
    replace q2_3 : j_eq (σ.2.1 36 (σ.1 15)) (σ.2.1 37) (τ4.2.1 37) := q2_3
    replace q2_4 : x3 = 0 → J_sp (τ4.1 24) (τ4.1 21) (τ4.1 23) (τ4.1 22) (τ4.2.1 49) (τ4.2.1 51) := q2_4
    replace q2_5 : x3 = 0 → J_r (σ.1 7) (τ4.1 15) (τ4.2.1 13) (τ4.2.1 28) (τ4.2.1 33) (τ4.2.1 34) (τ4.2.1 35) (τ4.2.1 36) (τ4.2.1 37) := q2_5
    replace q2_6 : x3 = 0 → ∀ r s : Int, (σ.1 15) ≤ r → r ≤ s → s ≤ (τ4.1 15) → τ4.2.1 36 r ≤ τ4.2.1 36 s := q2_6
    replace q2_7 : x3 = 0 → (τ4.1 15) ≤ (σ.1 16) + (σ.1 21) ∧ τ4.2.1 36 (τ4.1 15) ≤ (σ.1 16) + (σ.1 21) := q2_7
    replace q2_8 : ¬ x3 = 0 → (τ4.1 15) = (σ.1 15) := q2_8
    replace q2_9 : c_ag σ τ4 := q2_9
    replace ag : c_ag σ τ4 := ag_t ag q2_9 rfl
    have w3_τ4 : τ4.1 3 = σ.1 3 := hf_τ4.1 3 (by decide)
    have w4_τ4 : τ4.1 4 = σ.1 4 := hf_τ4.1 4 (by decide)
    have w5_τ4 : τ4.1 5 = σ.1 5 := hf_τ4.1 5 (by decide)
    have w6_τ4 : τ4.1 6 = σ.1 6 := hf_τ4.1 6 (by decide)
    have w7_τ4 : τ4.1 7 = σ.1 7 := hf_τ4.1 7 (by decide)
    have w8_τ4 : τ4.1 8 = σ.1 8 := hf_τ4.1 8 (by decide)
    have w9_τ4 : τ4.1 9 = σ.1 9 := hf_τ4.1 9 (by decide)
    have w10_τ4 : τ4.1 10 = σ.1 10 := hf_τ4.1 10 (by decide)
    have w11_τ4 : τ4.1 11 = σ.1 11 := hf_τ4.1 11 (by decide)
    have w12_τ4 : τ4.1 12 = σ.1 12 := hf_τ4.1 12 (by decide)
    have w13_τ4 : τ4.1 13 = σ.1 13 := hf_τ4.1 13 (by decide)
    have w14_τ4 : τ4.1 14 = σ.1 14 := hf_τ4.1 14 (by decide)
    have w16_τ4 : τ4.1 16 = σ.1 16 := hf_τ4.1 16 (by decide)
    have w21_τ4 : τ4.1 21 = σ.1 21 := hf_τ4.1 21 (by decide)
    have w22_τ4 : τ4.1 22 = σ.1 22 := hf_τ4.1 22 (by decide)
    have w24_τ4 : τ4.1 24 = σ.1 24 := hf_τ4.1 24 (by decide)
    have w25_τ4 : τ4.1 25 = σ.1 25 := hf_τ4.1 25 (by decide)
    have w26_τ4 : τ4.1 26 = σ.1 26 := hf_τ4.1 26 (by decide)
    have w27_τ4 : τ4.1 27 = σ.1 27 := hf_τ4.1 27 (by decide)
    have w28_τ4 : τ4.1 28 = σ.1 28 := hf_τ4.1 28 (by decide)
    have w33_τ4 : τ4.1 33 = σ.1 33 := hf_τ4.1 33 (by decide)
    have w35_τ4 : τ4.1 35 = σ.1 35 := hf_τ4.1 35 (by decide)
    have w36_τ4 : τ4.1 36 = σ.1 36 := hf_τ4.1 36 (by decide)
    have w37_τ4 : τ4.1 37 = σ.1 37 := hf_τ4.1 37 (by decide)
    have g2_τ4 : τ4.2.1 2 = σ.2.1 2 := hf_τ4.2.1 2 (by decide)
    have g3_τ4 : τ4.2.1 3 = σ.2.1 3 := hf_τ4.2.1 3 (by decide)
    have g4_τ4 : τ4.2.1 4 = σ.2.1 4 := hf_τ4.2.1 4 (by decide)
    have g5_τ4 : τ4.2.1 5 = σ.2.1 5 := hf_τ4.2.1 5 (by decide)
    have g6_τ4 : τ4.2.1 6 = σ.2.1 6 := hf_τ4.2.1 6 (by decide)
    have g8_τ4 : τ4.2.1 8 = σ.2.1 8 := hf_τ4.2.1 8 (by decide)
    have g9_τ4 : τ4.2.1 9 = σ.2.1 9 := hf_τ4.2.1 9 (by decide)
    have g10_τ4 : τ4.2.1 10 = σ.2.1 10 := hf_τ4.2.1 10 (by decide)
    have g11_τ4 : τ4.2.1 11 = σ.2.1 11 := hf_τ4.2.1 11 (by decide)
    have g13_τ4 : τ4.2.1 13 = σ.2.1 13 := hf_τ4.2.1 13 (by decide)
    have g14_τ4 : τ4.2.1 14 = σ.2.1 14 := hf_τ4.2.1 14 (by decide)
    have g15_τ4 : τ4.2.1 15 = σ.2.1 15 := hf_τ4.2.1 15 (by decide)
    have g16_τ4 : τ4.2.1 16 = σ.2.1 16 := hf_τ4.2.1 16 (by decide)
    have g18_τ4 : τ4.2.1 18 = σ.2.1 18 := hf_τ4.2.1 18 (by decide)
    have g19_τ4 : τ4.2.1 19 = σ.2.1 19 := hf_τ4.2.1 19 (by decide)
    have g20_τ4 : τ4.2.1 20 = σ.2.1 20 := hf_τ4.2.1 20 (by decide)
    have g22_τ4 : τ4.2.1 22 = σ.2.1 22 := hf_τ4.2.1 22 (by decide)
    have g23_τ4 : τ4.2.1 23 = σ.2.1 23 := hf_τ4.2.1 23 (by decide)
    have g24_τ4 : τ4.2.1 24 = σ.2.1 24 := hf_τ4.2.1 24 (by decide)
    have g25_τ4 : τ4.2.1 25 = σ.2.1 25 := hf_τ4.2.1 25 (by decide)
    have g26_τ4 : τ4.2.1 26 = σ.2.1 26 := hf_τ4.2.1 26 (by decide)
    have g27_τ4 : τ4.2.1 27 = σ.2.1 27 := hf_τ4.2.1 27 (by decide)
    have g28_τ4 : τ4.2.1 28 = σ.2.1 28 := hf_τ4.2.1 28 (by decide)
    have g29_τ4 : τ4.2.1 29 = σ.2.1 29 := hf_τ4.2.1 29 (by decide)
    have g30_τ4 : τ4.2.1 30 = σ.2.1 30 := hf_τ4.2.1 30 (by decide)
    have g31_τ4 : τ4.2.1 31 = σ.2.1 31 := hf_τ4.2.1 31 (by decide)
    have g32_τ4 : τ4.2.1 32 = σ.2.1 32 := hf_τ4.2.1 32 (by decide)
    have g49_τ4 : τ4.2.1 49 = σ.2.1 49 := hf_τ4.2.1 49 (by decide)
    have g51_τ4 : τ4.2.1 51 = σ.2.1 51 := hf_τ4.2.1 51 (by decide)
    have g54_τ4 : τ4.2.1 54 = σ.2.1 54 := hf_τ4.2.1 54 (by decide)
    have W3 : τ4.1 3 = σ.1 3 := by omega
    have W4 : τ4.1 4 = σ.1 4 := by omega
    have W5 : τ4.1 5 = σ.1 5 := by omega
    have W6 : τ4.1 6 = σ.1 6 := by omega
    have W8 : τ4.1 8 = σ.1 8 := by omega
    have W9 : τ4.1 9 = σ.1 9 := by omega
    have W10 : τ4.1 10 = σ.1 10 := by omega
    have W11 : τ4.1 11 = σ.1 11 := by omega
    have W12 : τ4.1 12 = σ.1 12 := by omega
    have W13 : τ4.1 13 = σ.1 13 := by omega
    have W14 : τ4.1 14 = σ.1 14 := by omega
    have W21 : τ4.1 21 = σ.1 21 := by omega
    have W22 : τ4.1 22 = σ.1 22 := by omega
    have W24 : τ4.1 24 = σ.1 24 := by omega
    have W25 : τ4.1 25 = σ.1 25 := by omega
    have W26 : τ4.1 26 = σ.1 26 := by omega
    have W27 : τ4.1 27 = σ.1 27 := by omega
    have W28 : τ4.1 28 = σ.1 28 := by omega
    have W36 : τ4.1 36 = σ.1 36 := by omega
    have W37 : τ4.1 37 = σ.1 37 := by omega
    have G2 : τ4.2.1 2 = σ.2.1 2 := (g2_τ4).trans G2
    have G3 : τ4.2.1 3 = σ.2.1 3 := (g3_τ4).trans G3
    have G4 : τ4.2.1 4 = σ.2.1 4 := (g4_τ4).trans G4
    have G5 : τ4.2.1 5 = σ.2.1 5 := (g5_τ4).trans G5
    have G6 : τ4.2.1 6 = σ.2.1 6 := (g6_τ4).trans G6
    have G8 : τ4.2.1 8 = σ.2.1 8 := (g8_τ4).trans G8
    have G10 : τ4.2.1 10 = σ.2.1 10 := (g10_τ4).trans G10
    have G11 : τ4.2.1 11 = σ.2.1 11 := (g11_τ4).trans G11
    have G14 : τ4.2.1 14 = σ.2.1 14 := (g14_τ4).trans G14
    have G15 : τ4.2.1 15 = σ.2.1 15 := (g15_τ4).trans G15
    have G16 : τ4.2.1 16 = σ.2.1 16 := (g16_τ4).trans G16
    have G18 : τ4.2.1 18 = σ.2.1 18 := (g18_τ4).trans G18
    have G19 : τ4.2.1 19 = σ.2.1 19 := (g19_τ4).trans G19
    have G20 : τ4.2.1 20 = σ.2.1 20 := (g20_τ4).trans G20
    have G22 : τ4.2.1 22 = σ.2.1 22 := (g22_τ4).trans G22
    have G23 : τ4.2.1 23 = σ.2.1 23 := (g23_τ4).trans G23
    have G24 : τ4.2.1 24 = σ.2.1 24 := (g24_τ4).trans G24
    have G25 : τ4.2.1 25 = σ.2.1 25 := (g25_τ4).trans G25
    have G26 : τ4.2.1 26 = σ.2.1 26 := (g26_τ4).trans G26
    have G27 : τ4.2.1 27 = σ.2.1 27 := (g27_τ4).trans G27
    have G28 : τ4.2.1 28 = σ.2.1 28 := (g28_τ4).trans G28
    have G29 : τ4.2.1 29 = σ.2.1 29 := (g29_τ4).trans G29
    have G30 : τ4.2.1 30 = σ.2.1 30 := (g30_τ4).trans G30
    have G31 : τ4.2.1 31 = σ.2.1 31 := (g31_τ4).trans G31
    have G32 : τ4.2.1 32 = σ.2.1 32 := (g32_τ4).trans G32
    have G49 : τ4.2.1 49 = σ.2.1 49 := (g49_τ4).trans G49
    have G51 : τ4.2.1 51 = σ.2.1 51 := (g51_τ4).trans G51
    have G54 : τ4.2.1 54 = σ.2.1 54 := (g54_τ4).trans G54
    have y14_7_τ4 : τ4.2.1 14 (τ4.1 7) = (σ.2.1 14) (σ.1 7) := by rw [g14_τ4, w7_τ4]
    have HT : J_ht (τ4.1 3) (τ4.2.1 2) (τ4.2.1 3) (τ4.2.1 5) (τ4.2.1 6) := by rw [show (J_ht (τ4.1 3) (τ4.2.1 2) (τ4.2.1 3) (τ4.2.1 5) (τ4.2.1 6)) = (J_ht (σ.1 3) (σ.2.1 2) (σ.2.1 3) (σ.2.1 5) (σ.2.1 6)) from by rw [w3_τ4, g2_τ4, g3_τ4, g5_τ4, g6_τ4]]; exact HT
    have NL : J_nl (τ4.1 3) (τ4.2.1 2) (τ4.2.1 3) (τ4.2.1 4) := by rw [show (J_nl (τ4.1 3) (τ4.2.1 2) (τ4.2.1 3) (τ4.2.1 4)) = (J_nl (σ.1 3) (σ.2.1 2) (σ.2.1 3) (σ.2.1 4)) from by rw [w3_τ4, g2_τ4, g3_τ4, g4_τ4]]; exact NL
    have MN : J_mn (τ4.1 3) (τ4.1 5) ((τ4.1 7) + 1) (τ4.2.1 4) := by rw [show (J_mn (τ4.1 3) (τ4.1 5) ((τ4.1 7) + 1) (τ4.2.1 4)) = (J_mn (σ.1 3) (σ.1 5) ((σ.1 7) + 1) (σ.2.1 4)) from by rw [w3_τ4, w5_τ4, w7_τ4, g4_τ4]]; exact MN
    have VA : J_va (τ4.1 8) 1000 (τ4.2.1 18) (τ4.2.1 20) := by rw [show (J_va (τ4.1 8) 1000 (τ4.2.1 18) (τ4.2.1 20)) = (J_va (σ.1 8) 1000 (σ.2.1 18) (σ.2.1 20)) from by rw [w8_τ4, g18_τ4, g20_τ4]]; exact VA
    have SC : J_sc (τ4.1 7) (τ4.1 9) (τ4.2.1 13) (τ4.2.1 14) (τ4.2.1 15) (τ4.2.1 16) (τ4.2.1 22) (τ4.2.1 19) := by rw [show (J_sc (τ4.1 7) (τ4.1 9) (τ4.2.1 13) (τ4.2.1 14) (τ4.2.1 15) (τ4.2.1 16) (τ4.2.1 22) (τ4.2.1 19)) = (J_sc (σ.1 7) (σ.1 9) (σ.2.1 13) (σ.2.1 14) (σ.2.1 15) (σ.2.1 16) (σ.2.1 22) (σ.2.1 19)) from by rw [w7_τ4, w9_τ4, g13_τ4, g14_τ4, g15_τ4, g16_τ4, g19_τ4, g22_τ4]]; exact SC
    have MK : J_mk (τ4.1 11) (τ4.1 8) (τ4.1 9) (τ4.1 10) (τ4.2.1 25) := by rw [show (J_mk (τ4.1 11) (τ4.1 8) (τ4.1 9) (τ4.1 10) (τ4.2.1 25)) = (J_mk (σ.1 11) (σ.1 8) (σ.1 9) (σ.1 10) (σ.2.1 25)) from by rw [w8_τ4, w9_τ4, w10_τ4, w11_τ4, g25_τ4]]; exact MK
    have FF : J_ff (τ4.1 5) (τ4.1 7) (τ4.2.1 9) (τ4.2.1 13) (τ4.2.1 14) (τ4.2.1 15) := by rw [show (J_ff (τ4.1 5) (τ4.1 7) (τ4.2.1 9) (τ4.2.1 13) (τ4.2.1 14) (τ4.2.1 15)) = (J_ff (σ.1 5) (σ.1 7) (σ.2.1 9) (σ.2.1 13) (σ.2.1 14) (σ.2.1 15)) from by rw [w5_τ4, w7_τ4, g9_τ4, g13_τ4, g14_τ4, g15_τ4]]; exact FF
    have MT : ∀ s : Int, τ4.2.1 26 s ≤ (τ4.1 12) := by rw [show (∀ s : Int, τ4.2.1 26 s ≤ (τ4.1 12)) = (∀ s : Int, σ.2.1 26 s ≤ (σ.1 12)) from by rw [w12_τ4, g26_τ4]]; exact MT
    have VS : J_vs (τ4.1 8) (τ4.1 5) (τ4.2.1 20) := by rw [show (J_vs (τ4.1 8) (τ4.1 5) (τ4.2.1 20)) = (J_vs (σ.1 8) (σ.1 5) (σ.2.1 20)) from by rw [w5_τ4, w8_τ4, g20_τ4]]; exact VS
    have TX : J_vs (τ4.1 6) (τ4.1 5) (τ4.2.1 15) := by rw [show (J_vs (τ4.1 6) (τ4.1 5) (τ4.2.1 15)) = (J_vs (σ.1 6) (σ.1 5) (σ.2.1 15)) from by rw [w5_τ4, w6_τ4, g15_τ4]]; exact TX
    have RKS : J_rks (τ4.1 5) (τ4.1 4) (τ4.2.1 10) (τ4.2.1 11) := by rw [show (J_rks (τ4.1 5) (τ4.1 4) (τ4.2.1 10) (τ4.2.1 11)) = (J_rks (σ.1 5) (σ.1 4) (σ.2.1 10) (σ.2.1 11)) from by rw [w4_τ4, w5_τ4, g10_τ4, g11_τ4]]; exact RKS
    have BP : J_bp (τ4.2.1 44) (τ4.2.1 45) := q2_2
    have RS : J_rs (τ4.1 35) (τ4.1 7) (τ4.1 6) (τ4.1 36) (τ4.1 37) (τ4.1 5) (τ4.1 8) (τ4.2.1 14) := by rw [show (J_rs (τ4.1 35) (τ4.1 7) (τ4.1 6) (τ4.1 36) (τ4.1 37) (τ4.1 5) (τ4.1 8) (τ4.2.1 14)) = (J_rs (σ.1 35) (σ.1 7) (σ.1 6) (σ.1 36) (σ.1 37) (σ.1 5) (σ.1 8) (σ.2.1 14)) from by rw [w5_τ4, w6_τ4, w7_τ4, w8_τ4, w35_τ4, w36_τ4, w37_τ4, g14_τ4]]; exact RS
    have A2 : ∀ j, 0 ≤ τ4.2.1 2 j ∧ τ4.2.1 2 j ≤ 65535 := fun j => hT.2 2 j
    have A3 : ∀ j, 0 ≤ τ4.2.1 3 j ∧ τ4.2.1 3 j ≤ 30000 := fun j => hT.2 3 j
    have A4 : ∀ j, (-1000) ≤ τ4.2.1 4 j ∧ τ4.2.1 4 j ≤ 1499 := fun j => hT.2 4 j
    have A5 : ∀ j, 0 ≤ τ4.2.1 5 j ∧ τ4.2.1 5 j ≤ 2500 := fun j => hT.2 5 j
    have A6 : ∀ j, 0 ≤ τ4.2.1 6 j ∧ τ4.2.1 6 j ≤ 2500 := fun j => hT.2 6 j
    have A8 : ∀ j, 0 ≤ τ4.2.1 8 j ∧ τ4.2.1 8 j ≤ 1 := fun j => hT.2 8 j
    have A9 : ∀ j, (-1) ≤ τ4.2.1 9 j ∧ τ4.2.1 9 j ≤ 1499 := fun j => hT.2 9 j
    have A10 : ∀ j, (-1) ≤ τ4.2.1 10 j ∧ τ4.2.1 10 j ≤ 99 := fun j => hT.2 10 j
    have A11 : ∀ j, 0 ≤ τ4.2.1 11 j ∧ τ4.2.1 11 j ≤ 999 := fun j => hT.2 11 j
    have A13 : ∀ j, 0 ≤ τ4.2.1 13 j ∧ τ4.2.1 13 j ≤ 4 := fun j => hT.2 13 j
    have A14 : ∀ j, 0 ≤ τ4.2.1 14 j ∧ τ4.2.1 14 j ≤ 30000 := fun j => hT.2 14 j
    have A15 : ∀ j, 0 ≤ τ4.2.1 15 j ∧ τ4.2.1 15 j ≤ 999 := fun j => hT.2 15 j
    have A16 : ∀ j, (-1) ≤ τ4.2.1 16 j ∧ τ4.2.1 16 j ≤ 1499 := fun j => hT.2 16 j
    have A18 : ∀ j, 0 ≤ τ4.2.1 18 j ∧ τ4.2.1 18 j ≤ 1 := fun j => hT.2 18 j
    have A19 : ∀ j, (-1) ≤ τ4.2.1 19 j ∧ τ4.2.1 19 j ≤ 1499 := fun j => hT.2 19 j
    have A20 : ∀ j, 0 ≤ τ4.2.1 20 j ∧ τ4.2.1 20 j ≤ 999 := fun j => hT.2 20 j
    have A22 : ∀ j, 0 ≤ τ4.2.1 22 j ∧ τ4.2.1 22 j ≤ 1499 := fun j => hT.2 22 j
    have A23 : ∀ j, 0 ≤ τ4.2.1 23 j ∧ τ4.2.1 23 j ≤ 999 := fun j => hT.2 23 j
    have A24 : ∀ j, 0 ≤ τ4.2.1 24 j ∧ τ4.2.1 24 j ≤ 999 := fun j => hT.2 24 j
    have A26 : ∀ j, (-2147483648) ≤ τ4.2.1 26 j ∧ τ4.2.1 26 j ≤ 2147483647 := fun j => hT.2 26 j
    have A27 : ∀ j, 0 ≤ τ4.2.1 27 j ∧ τ4.2.1 27 j ≤ 90000 := fun j => hT.2 27 j
    have A28 : ∀ j, 0 ≤ τ4.2.1 28 j ∧ τ4.2.1 28 j ≤ 60 := fun j => hT.2 28 j
    have A29 : ∀ j, 0 ≤ τ4.2.1 29 j ∧ τ4.2.1 29 j ≤ 1499 := fun j => hT.2 29 j
    have A30 : ∀ j, 0 ≤ τ4.2.1 30 j ∧ τ4.2.1 30 j ≤ 20000 := fun j => hT.2 30 j
    have A31 : ∀ j, 0 ≤ τ4.2.1 31 j ∧ τ4.2.1 31 j ≤ 20000 := fun j => hT.2 31 j
    have A32 : ∀ j, 0 ≤ τ4.2.1 32 j ∧ τ4.2.1 32 j ≤ 999999 := fun j => hT.2 32 j
    have A33 : ∀ j, 0 ≤ τ4.2.1 33 j ∧ τ4.2.1 33 j ≤ 20000 := fun j => hT.2 33 j
    have A34 : ∀ j, 0 ≤ τ4.2.1 34 j ∧ τ4.2.1 34 j ≤ 20000 := fun j => hT.2 34 j
    have A35 : ∀ j, 0 ≤ τ4.2.1 35 j ∧ τ4.2.1 35 j ≤ 1499 := fun j => hT.2 35 j
    have A36 : ∀ j, 0 ≤ τ4.2.1 36 j ∧ τ4.2.1 36 j ≤ 20000 := fun j => hT.2 36 j
    have A37 : ∀ j, 0 ≤ τ4.2.1 37 j ∧ τ4.2.1 37 j ≤ 19999 := fun j => hT.2 37 j
    have A44 : ∀ j, 0 ≤ τ4.2.1 44 j ∧ τ4.2.1 44 j ≤ 42000 := fun j => hT.2 44 j
    have A45 : ∀ j, 0 ≤ τ4.2.1 45 j ∧ τ4.2.1 45 j ≤ 1000 := fun j => hT.2 45 j
    have A49 : ∀ j, (-300) ≤ τ4.2.1 49 j ∧ τ4.2.1 49 j ≤ 67035 := fun j => hT.2 49 j
    have A51 : ∀ j, 0 ≤ τ4.2.1 51 j ∧ τ4.2.1 51 j ≤ 1499 := fun j => hT.2 51 j
    have A54 : ∀ j, 0 ≤ τ4.2.1 54 j ∧ τ4.2.1 54 j ≤ 999 := fun j => hT.2 54 j
    have v3 : 0 ≤ τ4.1 3 ∧ τ4.1 3 ≤ 2500 := hT.1 3
    have v4 : 0 ≤ τ4.1 4 ∧ τ4.1 4 ≤ 100 := hT.1 4
    have v5 : 0 ≤ τ4.1 5 ∧ τ4.1 5 ≤ 1000 := hT.1 5
    have v6 : 0 ≤ τ4.1 6 ∧ τ4.1 6 ≤ 30000 := hT.1 6
    have v7 : 0 ≤ τ4.1 7 ∧ τ4.1 7 ≤ 1500 := hT.1 7
    have v8 : 0 ≤ τ4.1 8 ∧ τ4.1 8 ≤ 1000 := hT.1 8
    have v9 : 0 ≤ τ4.1 9 ∧ τ4.1 9 ≤ 1500 := hT.1 9
    have v10 : 0 ≤ τ4.1 10 ∧ τ4.1 10 ≤ 1000 := hT.1 10
    have v11 : 0 ≤ τ4.1 11 ∧ τ4.1 11 ≤ 50 := hT.1 11
    have v12 : (-2147483648) ≤ τ4.1 12 ∧ τ4.1 12 ≤ 2147483647 := hT.1 12
    have v13 : 0 ≤ τ4.1 13 ∧ τ4.1 13 ≤ 90000 := hT.1 13
    have v14 : 0 ≤ τ4.1 14 ∧ τ4.1 14 ≤ 20000 := hT.1 14
    have v15 : 0 ≤ τ4.1 15 ∧ τ4.1 15 ≤ 20000 := hT.1 15
    have v16 : 0 ≤ τ4.1 16 ∧ τ4.1 16 ≤ 20000 := hT.1 16
    have v21 : 0 ≤ τ4.1 21 ∧ τ4.1 21 ≤ 20000 := hT.1 21
    have v22 : 0 ≤ τ4.1 22 ∧ τ4.1 22 ≤ 300 := hT.1 22
    have v23 : 0 ≤ τ4.1 23 ∧ τ4.1 23 ≤ 300 := hT.1 23
    have v24 : 0 ≤ τ4.1 24 ∧ τ4.1 24 ≤ 1499 := hT.1 24
    have v25 : 0 ≤ τ4.1 25 ∧ τ4.1 25 ≤ 3 := hT.1 25
    have v26 : 0 ≤ τ4.1 26 ∧ τ4.1 26 ≤ 5000010 := hT.1 26
    have v27 : 0 ≤ τ4.1 27 ∧ τ4.1 27 ≤ 1 := hT.1 27
    have v28 : 0 ≤ τ4.1 28 ∧ τ4.1 28 ≤ 1 := hT.1 28
    have v29 : 0 ≤ τ4.1 29 ∧ τ4.1 29 ≤ 60000 := hT.1 29
    have v33 : 0 ≤ τ4.1 33 ∧ τ4.1 33 ≤ 60000 := hT.1 33
    have v35 : 0 ≤ τ4.1 35 ∧ τ4.1 35 ≤ 7 := hT.1 35
    have v36 : 0 ≤ τ4.1 36 ∧ τ4.1 36 ≤ 1001 := hT.1 36
    have v37 : 0 ≤ τ4.1 37 ∧ τ4.1 37 ≤ 4 := hT.1 37
    have a14_7 : 0 ≤ τ4.2.1 14 (τ4.1 7) ∧ τ4.2.1 14 (τ4.1 7) ≤ 30000 := hT.2 14 _
    have a36_15 : 0 ≤ τ4.2.1 36 (τ4.1 15) ∧ τ4.2.1 36 (τ4.1 15) ≤ 20000 := hT.2 36 _
    have av7 : σ.1 7 ≤ τ4.1 7 := ag.1 7 (by decide)
    have av15 : σ.1 15 ≤ τ4.1 15 := ag.1 15 (by decide)
    have av16 : σ.1 16 ≤ τ4.1 16 := ag.1 16 (by decide)
    refine h25 _ _ ?_
    refine ⟨fun c5 => ?_, fun c5 => ?_⟩
    ·
      exact l_51 _ _ _ hT ag (show τ4.1 3 = σ.1 3 from by omega) (show τ4.1 4 = σ.1 4 from by omega) (show τ4.1 5 = σ.1 5 from by omega) (show τ4.1 6 = σ.1 6 from by omega) (show τ4.1 8 = σ.1 8 from by omega) (show τ4.1 9 = σ.1 9 from by omega) (show τ4.1 10 = σ.1 10 from by omega) (show τ4.1 11 = σ.1 11 from by omega) (show τ4.1 12 = σ.1 12 from by omega) (show τ4.1 13 = σ.1 13 from by omega) (show τ4.1 14 = σ.1 14 from by omega) (show τ4.1 21 = σ.1 21 from by omega) (show τ4.1 22 = σ.1 22 from by omega) (show τ4.1 24 = σ.1 24 from by omega) (show τ4.1 25 = σ.1 25 from by omega) (show τ4.1 26 = σ.1 26 from by omega) (show τ4.1 27 = σ.1 27 from by omega) (show τ4.1 28 = σ.1 28 from by omega) (show τ4.1 36 = σ.1 36 from by omega) (show τ4.1 37 = σ.1 37 from by omega) G2 G3 G4 G5 G6 G8 G10 G11 G14 G15 G16 G18 G19 G20 G22 G23 G24 G25 G26 G27 G28 G29 G30 G31 G32 G49 G51 G54 (show 0 ≤ x3 ∧ x3 ≤ 19 from by (first | assumption | omega | (simp only [st_s] <;> omega) | fail)) (show 0 ≤ (τ4.1 29) ∧ (τ4.1 29) ≤ 60000 from by (first | assumption | omega | (simp only [st_s] <;> omega) | fail)) (show J_bp (τ4.2.1 44) (τ4.2.1 45) from BP) (show j_eq (σ.2.1 36 (σ.1 15)) (σ.2.1 37) (τ4.2.1 37) from by (first | exact CH | exact q2_3 | fail)) (show x3 = 0 → J_sp (τ4.1 24) (τ4.1 21) (τ4.1 23) (τ4.1 22) (τ4.2.1 49) (τ4.2.1 51) from by (first | exact q2_4 | exact fun _ => (spx (by omega)).1 | fail)) (show x3 = 0 → (σ.1 28) = 0 → J_r (σ.1 7) (τ4.1 15) (τ4.2.1 13) (τ4.2.1 28) (τ4.2.1 33) (τ4.2.1 34) (τ4.2.1 35) (τ4.2.1 36) (τ4.2.1 37) from by (first | exact fun z _ => q2_5 z | (intro z y; exfalso; omega) | fail)) (show x3 = 0 → ∀ r s : Int, (σ.1 15) ≤ r → r ≤ s → s ≤ (τ4.1 15) → τ4.2.1 36 r ≤ τ4.2.1 36 s from by (first | exact q2_6 | (intro z r s a b c; rw [show r = s from by omega]; exact Int.le_refl _) | fail)) (show x3 = 0 → (τ4.1 15) ≤ (σ.1 16) + (σ.1 21) ∧ τ4.2.1 36 (τ4.1 15) ≤ (σ.1 16) + (σ.1 21) from by (first | exact q2_7 | (intro z; omega) | fail)) (show ¬ x3 = 0 → (τ4.1 15) = (σ.1 15) from by (first | exact q2_8 | omega | fail)) (show (τ4.1 16) = (σ.1 16) from by (first | assumption | omega | (simp only [st_s] <;> omega) | fail)) (show (τ4.1 7) = (σ.1 7) ∧ (τ4.1 35) = (σ.1 35) from by (first | assumption | omega | (simp only [st_s] <;> omega) | fail)) (show τ4.2.1 13 = σ.2.1 13 from by (first | rfl | exact g13_τ4 | fail)) (show τ4.2.1 9 = σ.2.1 9 from by (first | rfl | exact g9_τ4 | fail))
    ·
      exact l_51 _ _ _ hT ag (show τ4.1 3 = σ.1 3 from by omega) (show τ4.1 4 = σ.1 4 from by omega) (show τ4.1 5 = σ.1 5 from by omega) (show τ4.1 6 = σ.1 6 from by omega) (show τ4.1 8 = σ.1 8 from by omega) (show τ4.1 9 = σ.1 9 from by omega) (show τ4.1 10 = σ.1 10 from by omega) (show τ4.1 11 = σ.1 11 from by omega) (show τ4.1 12 = σ.1 12 from by omega) (show τ4.1 13 = σ.1 13 from by omega) (show τ4.1 14 = σ.1 14 from by omega) (show τ4.1 21 = σ.1 21 from by omega) (show τ4.1 22 = σ.1 22 from by omega) (show τ4.1 24 = σ.1 24 from by omega) (show τ4.1 25 = σ.1 25 from by omega) (show τ4.1 26 = σ.1 26 from by omega) (show τ4.1 27 = σ.1 27 from by omega) (show τ4.1 28 = σ.1 28 from by omega) (show τ4.1 36 = σ.1 36 from by omega) (show τ4.1 37 = σ.1 37 from by omega) G2 G3 G4 G5 G6 G8 G10 G11 G14 G15 G16 G18 G19 G20 G22 G23 G24 G25 G26 G27 G28 G29 G30 G31 G32 G49 G51 G54 (show 0 ≤ x3 ∧ x3 ≤ 19 from by (first | assumption | omega | (simp only [st_s] <;> omega) | fail)) (show 0 ≤ (τ4.1 33) ∧ (τ4.1 33) ≤ 60000 from by (first | assumption | omega | (simp only [st_s] <;> omega) | fail)) (show J_bp (τ4.2.1 44) (τ4.2.1 45) from BP) (show j_eq (σ.2.1 36 (σ.1 15)) (σ.2.1 37) (τ4.2.1 37) from by (first | exact CH | exact q2_3 | fail)) (show x3 = 0 → J_sp (τ4.1 24) (τ4.1 21) (τ4.1 23) (τ4.1 22) (τ4.2.1 49) (τ4.2.1 51) from by (first | exact q2_4 | exact fun _ => (spx (by omega)).1 | fail)) (show x3 = 0 → (σ.1 28) = 0 → J_r (σ.1 7) (τ4.1 15) (τ4.2.1 13) (τ4.2.1 28) (τ4.2.1 33) (τ4.2.1 34) (τ4.2.1 35) (τ4.2.1 36) (τ4.2.1 37) from by (first | exact fun z _ => q2_5 z | (intro z y; exfalso; omega) | fail)) (show x3 = 0 → ∀ r s : Int, (σ.1 15) ≤ r → r ≤ s → s ≤ (τ4.1 15) → τ4.2.1 36 r ≤ τ4.2.1 36 s from by (first | exact q2_6 | (intro z r s a b c; rw [show r = s from by omega]; exact Int.le_refl _) | fail)) (show x3 = 0 → (τ4.1 15) ≤ (σ.1 16) + (σ.1 21) ∧ τ4.2.1 36 (τ4.1 15) ≤ (σ.1 16) + (σ.1 21) from by (first | exact q2_7 | (intro z; omega) | fail)) (show ¬ x3 = 0 → (τ4.1 15) = (σ.1 15) from by (first | exact q2_8 | omega | fail)) (show (τ4.1 16) = (σ.1 16) from by (first | assumption | omega | (simp only [st_s] <;> omega) | fail)) (show (τ4.1 7) = (σ.1 7) ∧ (τ4.1 35) = (σ.1 35) from by (first | assumption | omega | (simp only [st_s] <;> omega) | fail)) (show τ4.2.1 13 = σ.2.1 13 from by (first | rfl | exact g13_τ4 | fail)) (show τ4.2.1 9 = σ.2.1 9 from by (first | rfl | exact g9_τ4 | fail))
  ·
    refine h25 _ _ ?_
    refine ⟨fun c5 => ?_, fun c5 => ?_⟩
    ·
      exact l_51 _ _ _ hT ag (show σ.1 3 = σ.1 3 from by omega) (show σ.1 4 = σ.1 4 from by omega) (show σ.1 5 = σ.1 5 from by omega) (show σ.1 6 = σ.1 6 from by omega) (show σ.1 8 = σ.1 8 from by omega) (show σ.1 9 = σ.1 9 from by omega) (show σ.1 10 = σ.1 10 from by omega) (show σ.1 11 = σ.1 11 from by omega) (show σ.1 12 = σ.1 12 from by omega) (show σ.1 13 = σ.1 13 from by omega) (show σ.1 14 = σ.1 14 from by omega) (show σ.1 21 = σ.1 21 from by omega) (show σ.1 22 = σ.1 22 from by omega) (show σ.1 24 = σ.1 24 from by omega) (show σ.1 25 = σ.1 25 from by omega) (show σ.1 26 = σ.1 26 from by omega) (show σ.1 27 = σ.1 27 from by omega) (show σ.1 28 = σ.1 28 from by omega) (show σ.1 36 = σ.1 36 from by omega) (show σ.1 37 = σ.1 37 from by omega) G2 G3 G4 G5 G6 G8 G10 G11 G14 G15 G16 G18 G19 G20 G22 G23 G24 G25 G26 G27 G28 G29 G30 G31 G32 G49 G51 G54 (show 0 ≤ 0 ∧ 0 ≤ 19 from by (first | assumption | omega | (simp only [st_s] <;> omega) | fail)) (show 0 ≤ (σ.1 29) ∧ (σ.1 29) ≤ 60000 from by (first | assumption | omega | (simp only [st_s] <;> omega) | fail)) (show J_bp (σ.2.1 44) (σ.2.1 45) from BP) (show j_eq (σ.2.1 36 (σ.1 15)) (σ.2.1 37) (σ.2.1 37) from CH) (show 0 = 0 → J_sp (σ.1 24) (σ.1 21) (σ.1 23) (σ.1 22) (σ.2.1 49) (σ.2.1 51) from by (first | exact q2_4 | exact fun _ => (spx (by omega)).1 | fail)) (show 0 = 0 → (σ.1 28) = 0 → J_r (σ.1 7) (σ.1 15) (σ.2.1 13) (σ.2.1 28) (σ.2.1 33) (σ.2.1 34) (σ.2.1 35) (σ.2.1 36) (σ.2.1 37) from by (first | exact fun z _ => q2_5 z | (intro z y; exfalso; omega) | fail)) (show 0 = 0 → ∀ r s : Int, (σ.1 15) ≤ r → r ≤ s → s ≤ (σ.1 15) → σ.2.1 36 r ≤ σ.2.1 36 s from by (first | exact q2_6 | (intro z r s a b c; rw [show r = s from by omega]; exact Int.le_refl _) | fail)) (show 0 = 0 → (σ.1 15) ≤ (σ.1 16) + (σ.1 21) ∧ σ.2.1 36 (σ.1 15) ≤ (σ.1 16) + (σ.1 21) from by (first | exact q2_7 | (intro z; omega) | fail)) (show ¬ 0 = 0 → (σ.1 15) = (σ.1 15) from by (first | exact q2_8 | omega | fail)) (show (σ.1 16) = (σ.1 16) from by (first | assumption | omega | (simp only [st_s] <;> omega) | fail)) (show (σ.1 7) = (σ.1 7) ∧ (σ.1 35) = (σ.1 35) from by (first | assumption | omega | (simp only [st_s] <;> omega) | fail)) (show σ.2.1 13 = σ.2.1 13 from by (first | rfl | exact g13_τ4 | fail)) (show σ.2.1 9 = σ.2.1 9 from by (first | rfl | exact g9_τ4 | fail))
    ·
      exact l_51 _ _ _ hT ag (show σ.1 3 = σ.1 3 from by omega) (show σ.1 4 = σ.1 4 from by omega) (show σ.1 5 = σ.1 5 from by omega) (show σ.1 6 = σ.1 6 from by omega) (show σ.1 8 = σ.1 8 from by omega) (show σ.1 9 = σ.1 9 from by omega) (show σ.1 10 = σ.1 10 from by omega) (show σ.1 11 = σ.1 11 from by omega) (show σ.1 12 = σ.1 12 from by omega) (show σ.1 13 = σ.1 13 from by omega) (show σ.1 14 = σ.1 14 from by omega) (show σ.1 21 = σ.1 21 from by omega) (show σ.1 22 = σ.1 22 from by omega) (show σ.1 24 = σ.1 24 from by omega) (show σ.1 25 = σ.1 25 from by omega) (show σ.1 26 = σ.1 26 from by omega) (show σ.1 27 = σ.1 27 from by omega) (show σ.1 28 = σ.1 28 from by omega) (show σ.1 36 = σ.1 36 from by omega) (show σ.1 37 = σ.1 37 from by omega) G2 G3 G4 G5 G6 G8 G10 G11 G14 G15 G16 G18 G19 G20 G22 G23 G24 G25 G26 G27 G28 G29 G30 G31 G32 G49 G51 G54 (show 0 ≤ 0 ∧ 0 ≤ 19 from by (first | assumption | omega | (simp only [st_s] <;> omega) | fail)) (show 0 ≤ (σ.1 33) ∧ (σ.1 33) ≤ 60000 from by (first | assumption | omega | (simp only [st_s] <;> omega) | fail)) (show J_bp (σ.2.1 44) (σ.2.1 45) from BP) (show j_eq (σ.2.1 36 (σ.1 15)) (σ.2.1 37) (σ.2.1 37) from CH) (show 0 = 0 → J_sp (σ.1 24) (σ.1 21) (σ.1 23) (σ.1 22) (σ.2.1 49) (σ.2.1 51) from by (first | exact q2_4 | exact fun _ => (spx (by omega)).1 | fail)) (show 0 = 0 → (σ.1 28) = 0 → J_r (σ.1 7) (σ.1 15) (σ.2.1 13) (σ.2.1 28) (σ.2.1 33) (σ.2.1 34) (σ.2.1 35) (σ.2.1 36) (σ.2.1 37) from by (first | exact fun z _ => q2_5 z | (intro z y; exfalso; omega) | fail)) (show 0 = 0 → ∀ r s : Int, (σ.1 15) ≤ r → r ≤ s → s ≤ (σ.1 15) → σ.2.1 36 r ≤ σ.2.1 36 s from by (first | exact q2_6 | (intro z r s a b c; rw [show r = s from by omega]; exact Int.le_refl _) | fail)) (show 0 = 0 → (σ.1 15) ≤ (σ.1 16) + (σ.1 21) ∧ σ.2.1 36 (σ.1 15) ≤ (σ.1 16) + (σ.1 21) from by (first | exact q2_7 | (intro z; omega) | fail)) (show ¬ 0 = 0 → (σ.1 15) = (σ.1 15) from by (first | exact q2_8 | omega | fail)) (show (σ.1 16) = (σ.1 16) from by (first | assumption | omega | (simp only [st_s] <;> omega) | fail)) (show (σ.1 7) = (σ.1 7) ∧ (σ.1 35) = (σ.1 35) from by (first | assumption | omega | (simp only [st_s] <;> omega) | fail)) (show σ.2.1 13 = σ.2.1 13 from by (first | rfl | exact g13_τ4 | fail)) (show σ.2.1 9 = σ.2.1 9 from by (first | rfl | exact g9_τ4 | fail))
