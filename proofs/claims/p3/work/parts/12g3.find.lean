theorem y_FS_e {σ τ : S0} (SD : y_SD σ τ) : y_FS τ = y_FS σ := by
  obtain ⟨_, _, _, E4, E5, _, _⟩ := y_SD_e SD
  obtain ⟨_, _, _, _, e14, _, e16, e18, e19, e20⟩ := SD
  funext e s; unfold y_FS y_hv y_sy; rw [E4, E5, e14, e16, e18, e19, e20]
theorem y_TR_o {σ τ : S0} {n x : Int} (TO : y_TO σ τ n x) (SF : y_SF σ τ) (nx : ¬ x = -1) : x = σ.1 51 ∧ y_TR σ τ n x (τ.1 51) := by
  obtain ⟨_, _, _, _, _, _, h⟩ := TO
  obtain ⟨⟨h1, h2⟩, h3, h4, h5, h6, h7, h8, h9⟩ := h nx
  refine ⟨h1, ?_⟩
  rw [h1]
  exact ⟨⟨SF.1, SF.2.1, SF.2.2.1, SF.2.2.2.2.1⟩, h3, ⟨h8.1, h8.2.1, h8.2.2⟩, h9, ⟨h2, h6, h7⟩, h4, h5⟩
theorem y_SF_v (σ : S0) (a b : Int) : y_SF σ (s_v (s_v σ 51 a) 52 b) := ⟨⟨rfl, rfl, rfl, rfl, rfl, rfl, rfl, rfl, rfl, rfl⟩, rfl, rfl, rfl, rfl, rfl⟩
/-- a count that is known is told again -/
theorem y_TO_1 {σ τ : S0} {n x : Int} (CT : y_CT σ) (TO : y_TO σ τ n x) (n0 : 0 ≤ n) (n5 : n < σ.1 5) (h : σ.2.1 94 n = 1) (e7 : τ.2.2 7 = σ.2.2 7) : ¬ x = -1 ∧ y_KC σ τ ∧ τ.2.1 94 = σ.2.1 94 := by
  obtain ⟨⟨c, c1, c2, c3⟩, _⟩ := TO
  have w := (CT n n0 n5 (by omega)).2.1
  rw [h] at w
  have e : c = 1 := y_Ti_u c2 w
  obtain ⟨k1, k2⟩ := y_KC_o c1 e7 (h.trans e.symm)
  exact ⟨fun z => (c3.mp z) e, k1, k2⟩
theorem y_TW_o {σ τ : S0} {n x : Int} (TO : y_TO σ τ n x) (hT : m_T τ) (nx : ¬ x = -1) : ∃ wt : Int → Int, y_TW τ wt x (τ.1 51) := by
  obtain ⟨_, _, _, _, _, _, h⟩ := TO
  obtain ⟨⟨h1, h2⟩, ⟨ρ, TC⟩, h4, h5, _⟩ := h nx
  rw [h1]
  exact y_TW_mk TC hT h4 h5
set_option maxHeartbeats 4000000 in
theorem K_X13_findDefinition {n1 : Int} {σ : S0} (hT : m_T σ) (p1 : 0 ≤ n1) (p2 : n1 < (σ.1 5)) (p3 : σ.2.1 15 n1 ≤ 60) (p4 : ca (σ.2.1 12) ((σ.1 3)) ≤ (σ.1 4)) (p5 : n_J σ) (p6 : m_J σ) (p7 : (σ.1 10) < (σ.1 3)) (p8 : (σ.1 49) = 0 ∨ (y_TT σ σ (σ.1 5) (σ.1 5) ∧ y_Un σ (σ.1 5) (σ.1 48) (σ.2.1 84))) (p9 : (σ.1 51) ≤ 47000) (p10 : (σ.1 52) ≤ 88000) (p11 : y_CT σ) (p12 : y_EQ σ) : W_X13_findDefinition n1 σ (fun (x : Int) (τ : S0) => (m_T τ) ∧ (y_CT τ) ∧ (((τ.1 49) = 0 ∨ (y_TT τ τ (σ.1 5) (σ.1 5) ∧ y_Un τ (σ.1 5) (τ.1 48) (τ.2.1 84)))) ∧ ((τ.1 51) = (σ.1 51) ∧ (τ.1 52) = (σ.1 52)) ∧ (y_KC σ τ) ∧ (x = -1 ∨ y_DE τ n1 x)) := by
  have A8 : ∀ j, 0 ≤ σ.2.1 8 j ∧ σ.2.1 8 j ≤ 1 := fun j => hT.2 8 j
  have A10 : ∀ j, (-1) ≤ σ.2.1 10 j ∧ σ.2.1 10 j ≤ 999 := fun j => hT.2 10 j
  have A12 : ∀ j, 0 ≤ σ.2.1 12 j ∧ σ.2.1 12 j ≤ 1 := fun j => hT.2 12 j
  have A13 : ∀ j, 0 ≤ σ.2.1 13 j ∧ σ.2.1 13 j ≤ 4 := fun j => hT.2 13 j
  have A14 : ∀ j, 0 ≤ σ.2.1 14 j ∧ σ.2.1 14 j ≤ 30000 := fun j => hT.2 14 j
  have A15 : ∀ j, 0 ≤ σ.2.1 15 j ∧ σ.2.1 15 j ≤ 300 := fun j => hT.2 15 j
  have A16 : ∀ j, 0 ≤ σ.2.1 16 j ∧ σ.2.1 16 j ≤ 999 := fun j => hT.2 16 j
  have A17 : ∀ j, (-1) ≤ σ.2.1 17 j ∧ σ.2.1 17 j ≤ 1499 := fun j => hT.2 17 j
  have A18 : ∀ j, 0 ≤ σ.2.1 18 j ∧ σ.2.1 18 j ≤ 90000 := fun j => hT.2 18 j
  have A19 : ∀ j, 0 ≤ σ.2.1 19 j ∧ σ.2.1 19 j ≤ 60 := fun j => hT.2 19 j
  have A20 : ∀ j, 0 ≤ σ.2.1 20 j ∧ σ.2.1 20 j ≤ 1499 := fun j => hT.2 20 j
  have A86 : ∀ j, (-1500) ≤ σ.2.1 86 j ∧ σ.2.1 86 j ≤ 1499 := fun j => hT.2 86 j
  have A87 : ∀ j, 0 ≤ σ.2.1 87 j ∧ σ.2.1 87 j ≤ 120000 := fun j => hT.2 87 j
  have A88 : ∀ j, 0 ≤ σ.2.1 88 j ∧ σ.2.1 88 j ≤ 59 := fun j => hT.2 88 j
  have A89 : ∀ j, 0 ≤ σ.2.1 89 j ∧ σ.2.1 89 j ≤ 59 := fun j => hT.2 89 j
  have A90 : ∀ j, (-1) ≤ σ.2.1 90 j ∧ σ.2.1 90 j ≤ 99 := fun j => hT.2 90 j
  have A91 : ∀ j, 0 ≤ σ.2.1 91 j ∧ σ.2.1 91 j ≤ 60000 := fun j => hT.2 91 j
  have A94 : ∀ j, (-1) ≤ σ.2.1 94 j ∧ σ.2.1 94 j ≤ 2 := fun j => hT.2 94 j
  have A95 : ∀ j, (-9) ≤ σ.2.1 95 j ∧ σ.2.1 95 j ≤ 1499 := fun j => hT.2 95 j
  have A96 : ∀ j, 0 ≤ σ.2.1 96 j ∧ σ.2.1 96 j ≤ 1 := fun j => hT.2 96 j
  have v3 : 0 ≤ σ.1 3 ∧ σ.1 3 ≤ 1000 := hT.1 3
  have v4 : 0 ≤ σ.1 4 ∧ σ.1 4 ≤ 100 := hT.1 4
  have v5 : 0 ≤ σ.1 5 ∧ σ.1 5 ≤ 1500 := hT.1 5
  have v10 : (-1) ≤ σ.1 10 ∧ σ.1 10 ≤ 999 := hT.1 10
  have v11 : (-1) ≤ σ.1 11 ∧ σ.1 11 ≤ 999 := hT.1 11
  have v45 : 0 ≤ σ.1 45 ∧ σ.1 45 ≤ 59 := hT.1 45
  have v48 : 0 ≤ σ.1 48 ∧ σ.1 48 ≤ 1500 := hT.1 48
  have v49 : 0 ≤ σ.1 49 ∧ σ.1 49 ≤ 1 := hT.1 49
  have v50 : 0 ≤ σ.1 50 ∧ σ.1 50 ≤ 1500 := hT.1 50
  have v51 : 0 ≤ σ.1 51 ∧ σ.1 51 ≤ 60000 := hT.1 51
  have v52 : 0 ≤ σ.1 52 ∧ σ.1 52 ≤ 120000 := hT.1 52
  have W3 : σ.1 3 = σ.1 3 := rfl
  have W4 : σ.1 4 = σ.1 4 := rfl
  have W5 : σ.1 5 = σ.1 5 := rfl
  have W10 : σ.1 10 = σ.1 10 := rfl
  have W11 : σ.1 11 = σ.1 11 := rfl
  have G8 : σ.2.1 8 = σ.2.1 8 := rfl
  have G10 : σ.2.1 10 = σ.2.1 10 := rfl
  have G12 : σ.2.1 12 = σ.2.1 12 := rfl
  have G13 : σ.2.1 13 = σ.2.1 13 := rfl
  have G14 : σ.2.1 14 = σ.2.1 14 := rfl
  have G15 : σ.2.1 15 = σ.2.1 15 := rfl
  have G16 : σ.2.1 16 = σ.2.1 16 := rfl
  have G17 : σ.2.1 17 = σ.2.1 17 := rfl
  have G18 : σ.2.1 18 = σ.2.1 18 := rfl
  have G19 : σ.2.1 19 = σ.2.1 19 := rfl
  have G20 : σ.2.1 20 = σ.2.1 20 := rfl
  have G95 : σ.2.1 95 = σ.2.1 95 := rfl
  have G96 : σ.2.1 96 = σ.2.1 96 := rfl
  intro P27 P216 h27 h216
  have hTσ := hT
  have l5 : σ.1 5 ≤ 1500 := (hT.1 5).2
  have a19 := A19 n1
  have a18 := A18 n1
  have Y20 : ca (σ.2.1 12) ((σ.1 3)) ≤ (σ.1 4) := p4
  have Y20_0 := Y20
  have l_216 : ∀ (u2_216 : Int) (u3_216 : Int) (u5_216 : Int) (τ_216 : S0), (m_T τ_216) → (τ_216.1 3 = σ.1 3) → (τ_216.1 4 = σ.1 4) → (τ_216.1 5 = σ.1 5) → (τ_216.1 10 = σ.1 10) → (τ_216.1 11 = σ.1 11) → (τ_216.2.1 8 = σ.2.1 8) → (τ_216.2.1 10 = σ.2.1 10) → (τ_216.2.1 12 = σ.2.1 12) → (τ_216.2.1 13 = σ.2.1 13) → (τ_216.2.1 14 = σ.2.1 14) → (τ_216.2.1 15 = σ.2.1 15) → (τ_216.2.1 16 = σ.2.1 16) → (τ_216.2.1 17 = σ.2.1 17) → (τ_216.2.1 18 = σ.2.1 18) → (τ_216.2.1 19 = σ.2.1 19) → (τ_216.2.1 20 = σ.2.1 20) → (τ_216.2.1 95 = σ.2.1 95) → (τ_216.2.1 96 = σ.2.1 96) → (u2_216 = (σ.1 51) ∧ u3_216 = (σ.1 52)) → (y_CT τ_216) → ((τ_216.1 49) = 0 ∨ (y_TT τ_216 τ_216 (σ.1 5) (σ.1 5) ∧ y_Un τ_216 (σ.1 5) (τ_216.1 48) (τ_216.2.1 84))) → (y_KC σ τ_216) → (y_SF σ τ_216) → (τ_216.2.1 94 n1 = 1 ∧ σ.2.1 16 (σ.2.1 14 n1) = (σ.1 11)) → (u5_216 = -1 ∨ y_Df σ n1 u5_216) → (n_J τ_216) → (m_J τ_216) → P216 n1 u2_216 u3_216 u5_216 τ_216 := by
    intro u2_216 u3_216 u5_216 τ_216 hT W3 W4 W5 W10 W11 G8 G10 G12 G13 G14 G15 G16 G17 G18 G19 G20 G95 G96 i216_1 i216_2 i216_3 i216_4 i216_5 i216_6 i216_7 i216_8 i216_9
    have A8 : ∀ j, 0 ≤ τ_216.2.1 8 j ∧ τ_216.2.1 8 j ≤ 1 := fun j => hT.2 8 j
    have A10 : ∀ j, (-1) ≤ τ_216.2.1 10 j ∧ τ_216.2.1 10 j ≤ 999 := fun j => hT.2 10 j
    have A12 : ∀ j, 0 ≤ τ_216.2.1 12 j ∧ τ_216.2.1 12 j ≤ 1 := fun j => hT.2 12 j
    have A13 : ∀ j, 0 ≤ τ_216.2.1 13 j ∧ τ_216.2.1 13 j ≤ 4 := fun j => hT.2 13 j
    have A14 : ∀ j, 0 ≤ τ_216.2.1 14 j ∧ τ_216.2.1 14 j ≤ 30000 := fun j => hT.2 14 j
    have A15 : ∀ j, 0 ≤ τ_216.2.1 15 j ∧ τ_216.2.1 15 j ≤ 300 := fun j => hT.2 15 j
    have A16 : ∀ j, 0 ≤ τ_216.2.1 16 j ∧ τ_216.2.1 16 j ≤ 999 := fun j => hT.2 16 j
    have A17 : ∀ j, (-1) ≤ τ_216.2.1 17 j ∧ τ_216.2.1 17 j ≤ 1499 := fun j => hT.2 17 j
    have A18 : ∀ j, 0 ≤ τ_216.2.1 18 j ∧ τ_216.2.1 18 j ≤ 90000 := fun j => hT.2 18 j
    have A19 : ∀ j, 0 ≤ τ_216.2.1 19 j ∧ τ_216.2.1 19 j ≤ 60 := fun j => hT.2 19 j
    have A20 : ∀ j, 0 ≤ τ_216.2.1 20 j ∧ τ_216.2.1 20 j ≤ 1499 := fun j => hT.2 20 j
    have A86 : ∀ j, (-1500) ≤ τ_216.2.1 86 j ∧ τ_216.2.1 86 j ≤ 1499 := fun j => hT.2 86 j
    have A87 : ∀ j, 0 ≤ τ_216.2.1 87 j ∧ τ_216.2.1 87 j ≤ 120000 := fun j => hT.2 87 j
    have A88 : ∀ j, 0 ≤ τ_216.2.1 88 j ∧ τ_216.2.1 88 j ≤ 59 := fun j => hT.2 88 j
    have A89 : ∀ j, 0 ≤ τ_216.2.1 89 j ∧ τ_216.2.1 89 j ≤ 59 := fun j => hT.2 89 j
    have A90 : ∀ j, (-1) ≤ τ_216.2.1 90 j ∧ τ_216.2.1 90 j ≤ 99 := fun j => hT.2 90 j
    have A91 : ∀ j, 0 ≤ τ_216.2.1 91 j ∧ τ_216.2.1 91 j ≤ 60000 := fun j => hT.2 91 j
    have A94 : ∀ j, (-1) ≤ τ_216.2.1 94 j ∧ τ_216.2.1 94 j ≤ 2 := fun j => hT.2 94 j
    have A95 : ∀ j, (-9) ≤ τ_216.2.1 95 j ∧ τ_216.2.1 95 j ≤ 1499 := fun j => hT.2 95 j
    have A96 : ∀ j, 0 ≤ τ_216.2.1 96 j ∧ τ_216.2.1 96 j ≤ 1 := fun j => hT.2 96 j
    have v3 : 0 ≤ τ_216.1 3 ∧ τ_216.1 3 ≤ 1000 := hT.1 3
    have v4 : 0 ≤ τ_216.1 4 ∧ τ_216.1 4 ≤ 100 := hT.1 4
    have v5 : 0 ≤ τ_216.1 5 ∧ τ_216.1 5 ≤ 1500 := hT.1 5
    have v10 : (-1) ≤ τ_216.1 10 ∧ τ_216.1 10 ≤ 999 := hT.1 10
    have v11 : (-1) ≤ τ_216.1 11 ∧ τ_216.1 11 ≤ 999 := hT.1 11
    have v45 : 0 ≤ τ_216.1 45 ∧ τ_216.1 45 ≤ 59 := hT.1 45
    have v48 : 0 ≤ τ_216.1 48 ∧ τ_216.1 48 ≤ 1500 := hT.1 48
    have v49 : 0 ≤ τ_216.1 49 ∧ τ_216.1 49 ≤ 1 := hT.1 49
    have v50 : 0 ≤ τ_216.1 50 ∧ τ_216.1 50 ≤ 1500 := hT.1 50
    have v51 : 0 ≤ τ_216.1 51 ∧ τ_216.1 51 ≤ 60000 := hT.1 51
    have v52 : 0 ≤ τ_216.1 52 ∧ τ_216.1 52 ≤ 120000 := hT.1 52
    have Y20 : ca (τ_216.2.1 12) ((τ_216.1 3)) ≤ (τ_216.1 4) := by rw [show (ca (τ_216.2.1 12) ((τ_216.1 3)) ≤ (τ_216.1 4)) = (ca (σ.2.1 12) ((σ.1 3)) ≤ (σ.1 4)) from by rw [W3, W4, G12]]; exact Y20_0
    refine h216 n1 u2_216 u3_216 u5_216 τ_216 ?_
    replace hT := mT_v (i := 51) hT (show 0 ≤ u2_216 ∧ u2_216 ≤ 60000 from by (first | omega | (simp only [st_s] <;> omega) | assumption | omega | fail))
    replace hT := mT_v (i := 52) hT (show 0 ≤ u3_216 ∧ u3_216 ≤ 120000 from by (first | omega | (simp only [st_s] <;> omega) | assumption | omega | fail))
    refine ⟨fun c68 => ?_, fun c68 => ?_⟩
    ·
      exact ⟨hT, (show y_CT (s_v (s_v τ_216 51 u2_216) 52 u3_216) from by (first | exact p11 | exact q12_1 | (rw [i27_1]; exact p11) | exact q69_1 | exact y_CT_e ⟨rfl, rfl, rfl, rfl, rfl, rfl, rfl, rfl, rfl, rfl⟩ rfl rfl rfl rfl rfl i216_2 | fail)), (show ((τ_216.1 49) = 0 ∨ (y_TT (s_v (s_v τ_216 51 u2_216) 52 u3_216) (s_v (s_v τ_216 51 u2_216) 52 u3_216) (σ.1 5) (σ.1 5) ∧ y_Un (s_v (s_v τ_216 51 u2_216) 52 u3_216) (σ.1 5) (τ_216.1 48) (τ_216.2.1 84))) from by (first | exact p8 | exact TRD14 | (rw [i27_1]; exact p8) | (have w := q69_2; rw [W5] at w; exact w) | (have w := q69_2; rw [← w5_τ71, W5] at w; exact w) | exact q69_2 | exact i216_3 | fail)), (show (u2_216) = (σ.1 51) ∧ (u3_216) = (σ.1 52) from by (first | omega | (simp only [st_s] <;> omega) | assumption | omega | fail)), (show y_KC σ (s_v (s_v τ_216 51 u2_216) 52 u3_216) from by (first | exact y_KC_0 σ | exact KC14 | (rw [i27_1]; exact y_KC_0 σ) | exact KCz | exact y_KC_t i216_4 (y_KC_e rfl rfl) | fail)), (show (-1) = -1 ∨ y_DE (s_v (s_v τ_216 51 u2_216) 52 u3_216) n1 (-1) from by (first | exact Or.inl rfl | exact DEz (by omega) | fail))⟩
    ·
      refine ⟨_, K3_X13_isUsedBefore hT (show 0 ≤ n1 from by (first | omega | (simp only [st_s] <;> omega) | assumption | omega | fail)) (show n1 ≤ (τ_216.1 5) from by (first | omega | (simp only [st_s] <;> omega) | assumption | omega | fail)) (show 0 ≤ u5_216 from by (have w := (i216_7.resolve_left (by omega)).1; omega)) (show u5_216 < (τ_216.1 5) from by (have w := (i216_7.resolve_left (by omega)).1; omega)) (show ca (τ_216.2.1 12) ((τ_216.1 3)) ≤ (τ_216.1 4) from Y20) (show n_J (s_v (s_v τ_216 51 u2_216) 52 u3_216) from by exact i216_8) (show m_J (s_v (s_v τ_216 51 u2_216) 52 u3_216) from by exact i216_9) (show (τ_216.1 10) < (τ_216.1 3) from by (first | omega | (simp only [st_s] <;> omega) | assumption | omega | fail)) (show (τ_216.1 49) = 0 ∨ (y_TT (s_v (s_v τ_216 51 u2_216) 52 u3_216) (s_v (s_v τ_216 51 u2_216) 52 u3_216) (τ_216.1 5) (τ_216.1 5) ∧ y_Un (s_v (s_v τ_216 51 u2_216) 52 u3_216) (τ_216.1 5) (τ_216.1 48) (τ_216.2.1 84)) from by (rw [W5]; exact i216_3)) (show (u2_216) ≤ 47000 from by (first | omega | (simp only [st_s] <;> omega) | assumption | omega | fail)) (show (u3_216) ≤ 88000 from by (first | omega | (simp only [st_s] <;> omega) | assumption | omega | fail)) (show y_CT (s_v (s_v τ_216 51 u2_216) 52 u3_216) from by exact y_CT_e ⟨rfl, rfl, rfl, rfl, rfl, rfl, rfl, rfl, rfl, rfl⟩ rfl rfl rfl rfl rfl i216_2), ?_⟩
      intro x70 τ71 r_x70 hn_τ71 hf_τ71 hq
      obtain ⟨hT, q69_1, q69_2, q69_3, q69_4, q69_5, q69_6, q69_7, q69_8, q69_9⟩ := hq
      replace q69_1 : y_CT τ71 := q69_1
      replace q69_2 : ((τ71.1 49) = 0 ∨ (y_TT τ71 τ71 (τ_216.1 5) (τ_216.1 5) ∧ y_Un τ71 (τ_216.1 5) (τ71.1 48) (τ71.2.1 84))) := q69_2
      replace q69_3 : (τ71.1 51) = (u2_216) ∧ (τ71.1 52) = (u3_216) := q69_3
      replace q69_4 : ∀ y : Int, y < (u2_216) → (τ71.2.1 86 y = τ_216.2.1 86 y ∧ τ71.2.1 87 y = τ_216.2.1 87 y) ∧ τ71.2.1 88 y = τ_216.2.1 88 y ∧ τ71.2.1 89 y = τ_216.2.1 89 y ∧ τ71.2.1 90 y = τ_216.2.1 90 y := q69_4
      replace q69_5 : ∀ e : Int, e < (u3_216) → τ71.2.1 91 e = τ_216.2.1 91 e := q69_5
      replace q69_6 : ∀ i : Int, ¬ τ_216.2.1 94 i = -1 → τ71.2.1 94 i = τ_216.2.1 94 i := q69_6
      replace q69_7 : x70 = 0 ∨ x70 = 1 := q69_7
      replace q69_8 : y_KC (s_v (s_v τ_216 51 u2_216) 52 u3_216) τ71 := q69_8
      replace q69_9 : x70 = 0 → y_UB (s_v (s_v τ_216 51 u2_216) 52 u3_216) τ71 n1 u5_216 := q69_9
      have w3_τ71 : τ71.1 3 = τ_216.1 3 := hf_τ71.1 3 (by decide)
      have w4_τ71 : τ71.1 4 = τ_216.1 4 := hf_τ71.1 4 (by decide)
      have w5_τ71 : τ71.1 5 = τ_216.1 5 := hf_τ71.1 5 (by decide)
      have w10_τ71 : τ71.1 10 = τ_216.1 10 := hf_τ71.1 10 (by decide)
      have w11_τ71 : τ71.1 11 = τ_216.1 11 := hf_τ71.1 11 (by decide)
      have g8_τ71 : τ71.2.1 8 = τ_216.2.1 8 := hf_τ71.2.1 8 (by decide)
      have g10_τ71 : τ71.2.1 10 = τ_216.2.1 10 := hf_τ71.2.1 10 (by decide)
      have g12_τ71 : τ71.2.1 12 = τ_216.2.1 12 := hf_τ71.2.1 12 (by decide)
      have g13_τ71 : τ71.2.1 13 = τ_216.2.1 13 := hf_τ71.2.1 13 (by decide)
      have g14_τ71 : τ71.2.1 14 = τ_216.2.1 14 := hf_τ71.2.1 14 (by decide)
      have g15_τ71 : τ71.2.1 15 = τ_216.2.1 15 := hf_τ71.2.1 15 (by decide)
      have g16_τ71 : τ71.2.1 16 = τ_216.2.1 16 := hf_τ71.2.1 16 (by decide)
      have g17_τ71 : τ71.2.1 17 = τ_216.2.1 17 := hf_τ71.2.1 17 (by decide)
      have g18_τ71 : τ71.2.1 18 = τ_216.2.1 18 := hf_τ71.2.1 18 (by decide)
      have g19_τ71 : τ71.2.1 19 = τ_216.2.1 19 := hf_τ71.2.1 19 (by decide)
      have g20_τ71 : τ71.2.1 20 = τ_216.2.1 20 := hf_τ71.2.1 20 (by decide)
      have g95_τ71 : τ71.2.1 95 = τ_216.2.1 95 := hf_τ71.2.1 95 (by decide)
      have g96_τ71 : τ71.2.1 96 = τ_216.2.1 96 := hf_τ71.2.1 96 (by decide)
      have W3 : τ71.1 3 = σ.1 3 := by first | exact w3_τ71.trans W3 | omega
      have W4 : τ71.1 4 = σ.1 4 := by first | exact w4_τ71.trans W4 | omega
      have W5 : τ71.1 5 = σ.1 5 := by first | exact w5_τ71.trans W5 | omega
      have W10 : τ71.1 10 = σ.1 10 := by first | exact w10_τ71.trans W10 | omega
      have W11 : τ71.1 11 = σ.1 11 := by first | exact w11_τ71.trans W11 | omega
      have G8 : τ71.2.1 8 = σ.2.1 8 := (g8_τ71).trans G8
      have G10 : τ71.2.1 10 = σ.2.1 10 := (g10_τ71).trans G10
      have G12 : τ71.2.1 12 = σ.2.1 12 := (g12_τ71).trans G12
      have G13 : τ71.2.1 13 = σ.2.1 13 := (g13_τ71).trans G13
      have G14 : τ71.2.1 14 = σ.2.1 14 := (g14_τ71).trans G14
      have G15 : τ71.2.1 15 = σ.2.1 15 := (g15_τ71).trans G15
      have G16 : τ71.2.1 16 = σ.2.1 16 := (g16_τ71).trans G16
      have G17 : τ71.2.1 17 = σ.2.1 17 := (g17_τ71).trans G17
      have G18 : τ71.2.1 18 = σ.2.1 18 := (g18_τ71).trans G18
      have G19 : τ71.2.1 19 = σ.2.1 19 := (g19_τ71).trans G19
      have G20 : τ71.2.1 20 = σ.2.1 20 := (g20_τ71).trans G20
      have G95 : τ71.2.1 95 = σ.2.1 95 := (g95_τ71).trans G95
      have G96 : τ71.2.1 96 = σ.2.1 96 := (g96_τ71).trans G96
      have Y20 : ca (τ71.2.1 12) ((τ71.1 3)) ≤ (τ71.1 4) := by rw [show (ca (τ71.2.1 12) ((τ71.1 3)) ≤ (τ71.1 4)) = (ca (τ_216.2.1 12) ((τ_216.1 3)) ≤ (τ_216.1 4)) from by rw [w3_τ71, w4_τ71, g12_τ71]]; exact Y20
      have A8 : ∀ j, 0 ≤ τ71.2.1 8 j ∧ τ71.2.1 8 j ≤ 1 := fun j => hT.2 8 j
      have A10 : ∀ j, (-1) ≤ τ71.2.1 10 j ∧ τ71.2.1 10 j ≤ 999 := fun j => hT.2 10 j
      have A12 : ∀ j, 0 ≤ τ71.2.1 12 j ∧ τ71.2.1 12 j ≤ 1 := fun j => hT.2 12 j
      have A13 : ∀ j, 0 ≤ τ71.2.1 13 j ∧ τ71.2.1 13 j ≤ 4 := fun j => hT.2 13 j
      have A14 : ∀ j, 0 ≤ τ71.2.1 14 j ∧ τ71.2.1 14 j ≤ 30000 := fun j => hT.2 14 j
      have A15 : ∀ j, 0 ≤ τ71.2.1 15 j ∧ τ71.2.1 15 j ≤ 300 := fun j => hT.2 15 j
      have A16 : ∀ j, 0 ≤ τ71.2.1 16 j ∧ τ71.2.1 16 j ≤ 999 := fun j => hT.2 16 j
      have A17 : ∀ j, (-1) ≤ τ71.2.1 17 j ∧ τ71.2.1 17 j ≤ 1499 := fun j => hT.2 17 j
      have A18 : ∀ j, 0 ≤ τ71.2.1 18 j ∧ τ71.2.1 18 j ≤ 90000 := fun j => hT.2 18 j
      have A19 : ∀ j, 0 ≤ τ71.2.1 19 j ∧ τ71.2.1 19 j ≤ 60 := fun j => hT.2 19 j
      have A20 : ∀ j, 0 ≤ τ71.2.1 20 j ∧ τ71.2.1 20 j ≤ 1499 := fun j => hT.2 20 j
      have A86 : ∀ j, (-1500) ≤ τ71.2.1 86 j ∧ τ71.2.1 86 j ≤ 1499 := fun j => hT.2 86 j
      have A87 : ∀ j, 0 ≤ τ71.2.1 87 j ∧ τ71.2.1 87 j ≤ 120000 := fun j => hT.2 87 j
      have A88 : ∀ j, 0 ≤ τ71.2.1 88 j ∧ τ71.2.1 88 j ≤ 59 := fun j => hT.2 88 j
      have A89 : ∀ j, 0 ≤ τ71.2.1 89 j ∧ τ71.2.1 89 j ≤ 59 := fun j => hT.2 89 j
      have A90 : ∀ j, (-1) ≤ τ71.2.1 90 j ∧ τ71.2.1 90 j ≤ 99 := fun j => hT.2 90 j
      have A91 : ∀ j, 0 ≤ τ71.2.1 91 j ∧ τ71.2.1 91 j ≤ 60000 := fun j => hT.2 91 j
      have A94 : ∀ j, (-1) ≤ τ71.2.1 94 j ∧ τ71.2.1 94 j ≤ 2 := fun j => hT.2 94 j
      have A95 : ∀ j, (-9) ≤ τ71.2.1 95 j ∧ τ71.2.1 95 j ≤ 1499 := fun j => hT.2 95 j
      have A96 : ∀ j, 0 ≤ τ71.2.1 96 j ∧ τ71.2.1 96 j ≤ 1 := fun j => hT.2 96 j
      have v3 : 0 ≤ τ71.1 3 ∧ τ71.1 3 ≤ 1000 := hT.1 3
      have v4 : 0 ≤ τ71.1 4 ∧ τ71.1 4 ≤ 100 := hT.1 4
      have v5 : 0 ≤ τ71.1 5 ∧ τ71.1 5 ≤ 1500 := hT.1 5
      have v10 : (-1) ≤ τ71.1 10 ∧ τ71.1 10 ≤ 999 := hT.1 10
      have v11 : (-1) ≤ τ71.1 11 ∧ τ71.1 11 ≤ 999 := hT.1 11
      have v45 : 0 ≤ τ71.1 45 ∧ τ71.1 45 ≤ 59 := hT.1 45
      have v48 : 0 ≤ τ71.1 48 ∧ τ71.1 48 ≤ 1500 := hT.1 48
      have v49 : 0 ≤ τ71.1 49 ∧ τ71.1 49 ≤ 1 := hT.1 49
      have v50 : 0 ≤ τ71.1 50 ∧ τ71.1 50 ≤ 1500 := hT.1 50
      have v51 : 0 ≤ τ71.1 51 ∧ τ71.1 51 ≤ 60000 := hT.1 51
      have v52 : 0 ≤ τ71.1 52 ∧ τ71.1 52 ≤ 120000 := hT.1 52
      have SFz := y_SF_t i216_5 (y_SF_t (y_SF_v _ _ _) (y_SF_h hf_τ71 rfl rfl))
      have KCz : y_KC σ τ71 := y_KC_t i216_4 (y_KC_t (y_KC_e rfl rfl) q69_8)
      have DEz : x70 = 0 → u5_216 = -1 ∨ y_DE τ71 n1 u5_216 := by (intro z; refine Or.inr ⟨⟨by (rw [SFz.1.2.2.2.2.2.1]; exact p3), ?_, ?_⟩, ?_, ?_⟩; (have w := q69_6 n1 (by rw [i216_6.1]; omega); rw [w]; exact i216_6.1); (rw [SFz.1.1, SFz.1.2.2.2.2.1, SFz.1.2.2.2.2.2.2.1]; exact i216_6.2); (rw [y_Df_e SFz]; exact i216_7.resolve_left (by omega)); (exact y_UB_s (q69_9 z) (y_SF_h hf_τ71 rfl rfl).1))
      refine ⟨fun c72 => ?_, fun c72 => ?_⟩
      ·
        exact ⟨hT, (show y_CT τ71 from by (first | exact p11 | exact q12_1 | (rw [i27_1]; exact p11) | exact q69_1 | exact y_CT_e ⟨rfl, rfl, rfl, rfl, rfl, rfl, rfl, rfl, rfl, rfl⟩ rfl rfl rfl rfl rfl i216_2 | fail)), (show ((τ71.1 49) = 0 ∨ (y_TT τ71 τ71 (σ.1 5) (σ.1 5) ∧ y_Un τ71 (σ.1 5) (τ71.1 48) (τ71.2.1 84))) from by (first | exact p8 | exact TRD14 | (rw [i27_1]; exact p8) | (have w := q69_2; rw [W5] at w; exact w) | (have w := q69_2; rw [← w5_τ71, W5] at w; exact w) | exact q69_2 | exact i216_3 | fail)), (show (τ71.1 51) = (σ.1 51) ∧ (τ71.1 52) = (σ.1 52) from by (first | omega | (simp only [st_s] <;> omega) | assumption | omega | fail)), (show y_KC σ τ71 from by (first | exact y_KC_0 σ | exact KC14 | (rw [i27_1]; exact y_KC_0 σ) | exact KCz | exact y_KC_t i216_4 (y_KC_e rfl rfl) | fail)), (show u5_216 = -1 ∨ y_DE τ71 n1 u5_216 from by (first | exact Or.inl rfl | exact DEz (by omega) | fail))⟩
      ·
        exact ⟨hT, (show y_CT τ71 from by (first | exact p11 | exact q12_1 | (rw [i27_1]; exact p11) | exact q69_1 | exact y_CT_e ⟨rfl, rfl, rfl, rfl, rfl, rfl, rfl, rfl, rfl, rfl⟩ rfl rfl rfl rfl rfl i216_2 | fail)), (show ((τ71.1 49) = 0 ∨ (y_TT τ71 τ71 (σ.1 5) (σ.1 5) ∧ y_Un τ71 (σ.1 5) (τ71.1 48) (τ71.2.1 84))) from by (first | exact p8 | exact TRD14 | (rw [i27_1]; exact p8) | (have w := q69_2; rw [W5] at w; exact w) | (have w := q69_2; rw [← w5_τ71, W5] at w; exact w) | exact q69_2 | exact i216_3 | fail)), (show (τ71.1 51) = (σ.1 51) ∧ (τ71.1 52) = (σ.1 52) from by (first | omega | (simp only [st_s] <;> omega) | assumption | omega | fail)), (show y_KC σ τ71 from by (first | exact y_KC_0 σ | exact KC14 | (rw [i27_1]; exact y_KC_0 σ) | exact KCz | exact y_KC_t i216_4 (y_KC_e rfl rfl) | fail)), (show (-1) = -1 ∨ y_DE τ71 n1 (-1) from by (first | exact Or.inl rfl | exact DEz (by omega) | fail))⟩
  have l_27 : ∀ (m_27 : Nat) (u2_27 : Int) (τ_27 : S0), σ.2.1 18 n1 + σ.2.1 19 n1 + 1 - u2_27 < (m_27 : Int) → (m_T τ_27) → (τ_27.1 3 = σ.1 3) → (τ_27.1 4 = σ.1 4) → (τ_27.1 5 = σ.1 5) → (τ_27.1 10 = σ.1 10) → (τ_27.1 11 = σ.1 11) → (τ_27.2.1 8 = σ.2.1 8) → (τ_27.2.1 10 = σ.2.1 10) → (τ_27.2.1 12 = σ.2.1 12) → (τ_27.2.1 13 = σ.2.1 13) → (τ_27.2.1 14 = σ.2.1 14) → (τ_27.2.1 15 = σ.2.1 15) → (τ_27.2.1 16 = σ.2.1 16) → (τ_27.2.1 17 = σ.2.1 17) → (τ_27.2.1 18 = σ.2.1 18) → (τ_27.2.1 19 = σ.2.1 19) → (τ_27.2.1 20 = σ.2.1 20) → (τ_27.2.1 95 = σ.2.1 95) → (τ_27.2.1 96 = σ.2.1 96) → (τ_27 = σ) → (σ.2.1 18 n1 ≤ u2_27 ∧ u2_27 ≤ σ.2.1 18 n1 + σ.2.1 19 n1) → (σ.2.1 16 (σ.2.1 14 n1) = (σ.1 11)) → P27 n1 u2_27 τ_27 := by
    intro m_27
    induction m_27 with
    | zero =>
      intro u2_27 τ_27 hm hT W3 W4 W5 W10 W11 G8 G10 G12 G13 G14 G15 G16 G17 G18 G19 G20 G95 G96 i27_1 i27_2 i27_3
      have A8 : ∀ j, 0 ≤ τ_27.2.1 8 j ∧ τ_27.2.1 8 j ≤ 1 := fun j => hT.2 8 j
      have A10 : ∀ j, (-1) ≤ τ_27.2.1 10 j ∧ τ_27.2.1 10 j ≤ 999 := fun j => hT.2 10 j
      have A12 : ∀ j, 0 ≤ τ_27.2.1 12 j ∧ τ_27.2.1 12 j ≤ 1 := fun j => hT.2 12 j
      have A13 : ∀ j, 0 ≤ τ_27.2.1 13 j ∧ τ_27.2.1 13 j ≤ 4 := fun j => hT.2 13 j
      have A14 : ∀ j, 0 ≤ τ_27.2.1 14 j ∧ τ_27.2.1 14 j ≤ 30000 := fun j => hT.2 14 j
      have A15 : ∀ j, 0 ≤ τ_27.2.1 15 j ∧ τ_27.2.1 15 j ≤ 300 := fun j => hT.2 15 j
      have A16 : ∀ j, 0 ≤ τ_27.2.1 16 j ∧ τ_27.2.1 16 j ≤ 999 := fun j => hT.2 16 j
      have A17 : ∀ j, (-1) ≤ τ_27.2.1 17 j ∧ τ_27.2.1 17 j ≤ 1499 := fun j => hT.2 17 j
      have A18 : ∀ j, 0 ≤ τ_27.2.1 18 j ∧ τ_27.2.1 18 j ≤ 90000 := fun j => hT.2 18 j
      have A19 : ∀ j, 0 ≤ τ_27.2.1 19 j ∧ τ_27.2.1 19 j ≤ 60 := fun j => hT.2 19 j
      have A20 : ∀ j, 0 ≤ τ_27.2.1 20 j ∧ τ_27.2.1 20 j ≤ 1499 := fun j => hT.2 20 j
      have A86 : ∀ j, (-1500) ≤ τ_27.2.1 86 j ∧ τ_27.2.1 86 j ≤ 1499 := fun j => hT.2 86 j
      have A87 : ∀ j, 0 ≤ τ_27.2.1 87 j ∧ τ_27.2.1 87 j ≤ 120000 := fun j => hT.2 87 j
      have A88 : ∀ j, 0 ≤ τ_27.2.1 88 j ∧ τ_27.2.1 88 j ≤ 59 := fun j => hT.2 88 j
      have A89 : ∀ j, 0 ≤ τ_27.2.1 89 j ∧ τ_27.2.1 89 j ≤ 59 := fun j => hT.2 89 j
      have A90 : ∀ j, (-1) ≤ τ_27.2.1 90 j ∧ τ_27.2.1 90 j ≤ 99 := fun j => hT.2 90 j
      have A91 : ∀ j, 0 ≤ τ_27.2.1 91 j ∧ τ_27.2.1 91 j ≤ 60000 := fun j => hT.2 91 j
      have A94 : ∀ j, (-1) ≤ τ_27.2.1 94 j ∧ τ_27.2.1 94 j ≤ 2 := fun j => hT.2 94 j
      have A95 : ∀ j, (-9) ≤ τ_27.2.1 95 j ∧ τ_27.2.1 95 j ≤ 1499 := fun j => hT.2 95 j
      have A96 : ∀ j, 0 ≤ τ_27.2.1 96 j ∧ τ_27.2.1 96 j ≤ 1 := fun j => hT.2 96 j
      have v3 : 0 ≤ τ_27.1 3 ∧ τ_27.1 3 ≤ 1000 := hT.1 3
      have v4 : 0 ≤ τ_27.1 4 ∧ τ_27.1 4 ≤ 100 := hT.1 4
      have v5 : 0 ≤ τ_27.1 5 ∧ τ_27.1 5 ≤ 1500 := hT.1 5
      have v10 : (-1) ≤ τ_27.1 10 ∧ τ_27.1 10 ≤ 999 := hT.1 10
      have v11 : (-1) ≤ τ_27.1 11 ∧ τ_27.1 11 ≤ 999 := hT.1 11
      have v45 : 0 ≤ τ_27.1 45 ∧ τ_27.1 45 ≤ 59 := hT.1 45
      have v48 : 0 ≤ τ_27.1 48 ∧ τ_27.1 48 ≤ 1500 := hT.1 48
      have v49 : 0 ≤ τ_27.1 49 ∧ τ_27.1 49 ≤ 1 := hT.1 49
      have v50 : 0 ≤ τ_27.1 50 ∧ τ_27.1 50 ≤ 1500 := hT.1 50
      have v51 : 0 ≤ τ_27.1 51 ∧ τ_27.1 51 ≤ 60000 := hT.1 51
      have v52 : 0 ≤ τ_27.1 52 ∧ τ_27.1 52 ≤ 120000 := hT.1 52
      exfalso; (first | omega | (simp only [st_s] <;> omega) | assumption | omega | fail)
    | succ m_27 ih_27 =>
      intro u2_27 τ_27 hm_27 hT W3 W4 W5 W10 W11 G8 G10 G12 G13 G14 G15 G16 G17 G18 G19 G20 G95 G96 i27_1 i27_2 i27_3
      have A8 : ∀ j, 0 ≤ τ_27.2.1 8 j ∧ τ_27.2.1 8 j ≤ 1 := fun j => hT.2 8 j
      have A10 : ∀ j, (-1) ≤ τ_27.2.1 10 j ∧ τ_27.2.1 10 j ≤ 999 := fun j => hT.2 10 j
      have A12 : ∀ j, 0 ≤ τ_27.2.1 12 j ∧ τ_27.2.1 12 j ≤ 1 := fun j => hT.2 12 j
      have A13 : ∀ j, 0 ≤ τ_27.2.1 13 j ∧ τ_27.2.1 13 j ≤ 4 := fun j => hT.2 13 j
      have A14 : ∀ j, 0 ≤ τ_27.2.1 14 j ∧ τ_27.2.1 14 j ≤ 30000 := fun j => hT.2 14 j
      have A15 : ∀ j, 0 ≤ τ_27.2.1 15 j ∧ τ_27.2.1 15 j ≤ 300 := fun j => hT.2 15 j
      have A16 : ∀ j, 0 ≤ τ_27.2.1 16 j ∧ τ_27.2.1 16 j ≤ 999 := fun j => hT.2 16 j
      have A17 : ∀ j, (-1) ≤ τ_27.2.1 17 j ∧ τ_27.2.1 17 j ≤ 1499 := fun j => hT.2 17 j
      have A18 : ∀ j, 0 ≤ τ_27.2.1 18 j ∧ τ_27.2.1 18 j ≤ 90000 := fun j => hT.2 18 j
      have A19 : ∀ j, 0 ≤ τ_27.2.1 19 j ∧ τ_27.2.1 19 j ≤ 60 := fun j => hT.2 19 j
      have A20 : ∀ j, 0 ≤ τ_27.2.1 20 j ∧ τ_27.2.1 20 j ≤ 1499 := fun j => hT.2 20 j
      have A86 : ∀ j, (-1500) ≤ τ_27.2.1 86 j ∧ τ_27.2.1 86 j ≤ 1499 := fun j => hT.2 86 j
      have A87 : ∀ j, 0 ≤ τ_27.2.1 87 j ∧ τ_27.2.1 87 j ≤ 120000 := fun j => hT.2 87 j
      have A88 : ∀ j, 0 ≤ τ_27.2.1 88 j ∧ τ_27.2.1 88 j ≤ 59 := fun j => hT.2 88 j
      have A89 : ∀ j, 0 ≤ τ_27.2.1 89 j ∧ τ_27.2.1 89 j ≤ 59 := fun j => hT.2 89 j
      have A90 : ∀ j, (-1) ≤ τ_27.2.1 90 j ∧ τ_27.2.1 90 j ≤ 99 := fun j => hT.2 90 j
      have A91 : ∀ j, 0 ≤ τ_27.2.1 91 j ∧ τ_27.2.1 91 j ≤ 60000 := fun j => hT.2 91 j
      have A94 : ∀ j, (-1) ≤ τ_27.2.1 94 j ∧ τ_27.2.1 94 j ≤ 2 := fun j => hT.2 94 j
      have A95 : ∀ j, (-9) ≤ τ_27.2.1 95 j ∧ τ_27.2.1 95 j ≤ 1499 := fun j => hT.2 95 j
      have A96 : ∀ j, 0 ≤ τ_27.2.1 96 j ∧ τ_27.2.1 96 j ≤ 1 := fun j => hT.2 96 j
      have v3 : 0 ≤ τ_27.1 3 ∧ τ_27.1 3 ≤ 1000 := hT.1 3
      have v4 : 0 ≤ τ_27.1 4 ∧ τ_27.1 4 ≤ 100 := hT.1 4
      have v5 : 0 ≤ τ_27.1 5 ∧ τ_27.1 5 ≤ 1500 := hT.1 5
      have v10 : (-1) ≤ τ_27.1 10 ∧ τ_27.1 10 ≤ 999 := hT.1 10
      have v11 : (-1) ≤ τ_27.1 11 ∧ τ_27.1 11 ≤ 999 := hT.1 11
      have v45 : 0 ≤ τ_27.1 45 ∧ τ_27.1 45 ≤ 59 := hT.1 45
      have v48 : 0 ≤ τ_27.1 48 ∧ τ_27.1 48 ≤ 1500 := hT.1 48
      have v49 : 0 ≤ τ_27.1 49 ∧ τ_27.1 49 ≤ 1 := hT.1 49
      have v50 : 0 ≤ τ_27.1 50 ∧ τ_27.1 50 ≤ 1500 := hT.1 50
      have v51 : 0 ≤ τ_27.1 51 ∧ τ_27.1 51 ≤ 60000 := hT.1 51
      have v52 : 0 ≤ τ_27.1 52 ∧ τ_27.1 52 ≤ 120000 := hT.1 52
      have Y20 : ca (τ_27.2.1 12) ((τ_27.1 3)) ≤ (τ_27.1 4) := by rw [show (ca (τ_27.2.1 12) ((τ_27.1 3)) ≤ (τ_27.1 4)) = (ca (σ.2.1 12) ((σ.1 3)) ≤ (σ.1 4)) from by rw [W3, W4, G12]]; exact Y20_0
      have b51 : τ_27.1 51 = σ.1 51 := (by rw [i27_1])
      have b52 : τ_27.1 52 = σ.1 52 := (by rw [i27_1])
      have J27 : n_J τ_27 := (by rw [i27_1]; exact p5)
      have M27 : m_J τ_27 := (by rw [i27_1]; exact p6)
      refine h27 n1 u2_27 τ_27 ?_
      refine ⟨(show 0 ≤ n1 ∧ n1 < 1501 from by (first | omega | (simp only [st_s] <;> omega) | assumption | omega | fail)), ?_⟩
      intro x8 r_x8 e_x8
      have b_x8 : 0 ≤ x8 ∧ x8 ≤ 90000 := by rw [e_x8]; exact hT.2 18 _
      intro x9 r_x9 e_x9
      have b_x9 : 0 ≤ x9 ∧ x9 ≤ 60 := by rw [e_x9]; exact hT.2 19 _
      rw [G18] at e_x8
      rw [G19] at e_x9
      refine ⟨(⟨by (first | omega | (simp only [st_s] <;> omega) | assumption | omega | fail), by (first | omega | (simp only [st_s] <;> omega) | assumption | omega | fail)⟩ : rg (x8 + x9)), ?_⟩
      refine ⟨fun c11 => ?_, fun c11 => ?_⟩
      ·
        refine ⟨_, K_X13_countTrees hT (show 0 ≤ n1 from by (first | omega | (simp only [st_s] <;> omega) | assumption | omega | fail)) (show n1 < (τ_27.1 5) from by (first | omega | (simp only [st_s] <;> omega) | assumption | omega | fail)) (show τ_27.2.1 15 n1 ≤ 60 from by (rw [G15]; exact p3)) (show ca (τ_27.2.1 12) ((τ_27.1 3)) ≤ (τ_27.1 4) from Y20) (show n_J τ_27 from by exact J27) (show m_J τ_27 from by exact M27) (show (τ_27.1 10) < (τ_27.1 3) from by (first | omega | (simp only [st_s] <;> omega) | assumption | omega | fail)) (show (τ_27.1 49) = 0 ∨ (y_TT τ_27 τ_27 (τ_27.1 5) (τ_27.1 5) ∧ y_Un τ_27 (τ_27.1 5) (τ_27.1 48) (τ_27.2.1 84)) from by (rw [i27_1]; exact p8)) (show (τ_27.1 51) ≤ 47000 from by (first | omega | (simp only [st_s] <;> omega) | assumption | omega | fail)) (show (τ_27.1 52) ≤ 88000 from by (first | omega | (simp only [st_s] <;> omega) | assumption | omega | fail)) (show y_CT τ_27 from by (rw [i27_1]; exact p11)), ?_⟩
        intro x13 τ14 r_x13 hn_τ14 hf_τ14 hq
        obtain ⟨hT, q12_1, q12_2, q12_3, q12_4, q12_5, q12_6, q12_7, q12_8, q12_9⟩ := hq
        replace q12_1 : y_CT τ14 := q12_1
        replace q12_2 : τ14.2.1 94 n1 = x13 ∧ 0 ≤ x13 ∧ x13 ≤ 2 := q12_2
        replace q12_3 : ((τ14.1 49) = 0 ∨ (y_TT τ14 τ14 (τ_27.1 5) (τ_27.1 5) ∧ y_Un τ14 (τ_27.1 5) (τ14.1 48) (τ14.2.1 84))) := q12_3
        replace q12_4 : (τ14.1 51) = (τ_27.1 51) ∧ (τ14.1 52) = (τ_27.1 52) := q12_4
        replace q12_5 : ∀ y : Int, y < (τ_27.1 51) → (τ14.2.1 86 y = τ_27.2.1 86 y ∧ τ14.2.1 87 y = τ_27.2.1 87 y) ∧ τ14.2.1 88 y = τ_27.2.1 88 y ∧ τ14.2.1 89 y = τ_27.2.1 89 y ∧ τ14.2.1 90 y = τ_27.2.1 90 y := q12_5
        replace q12_6 : ∀ e : Int, e < (τ_27.1 52) → τ14.2.1 91 e = τ_27.2.1 91 e := q12_6
        replace q12_7 : ∀ k : Int, ¬ (24 * n1 ≤ k ∧ k < 24 * n1 + 24) → τ14.2.2 7 k = τ_27.2.2 7 k := q12_7
        replace q12_8 : ∀ i : Int, ¬ i = n1 → τ14.2.1 94 i = τ_27.2.1 94 i := q12_8
        replace q12_9 : ¬ τ_27.2.1 94 n1 = -1 → τ14 = τ_27 := q12_9
        have w3_τ14 : τ14.1 3 = τ_27.1 3 := hf_τ14.1 3 (by decide)
        have w4_τ14 : τ14.1 4 = τ_27.1 4 := hf_τ14.1 4 (by decide)
        have w5_τ14 : τ14.1 5 = τ_27.1 5 := hf_τ14.1 5 (by decide)
        have w10_τ14 : τ14.1 10 = τ_27.1 10 := hf_τ14.1 10 (by decide)
        have w11_τ14 : τ14.1 11 = τ_27.1 11 := hf_τ14.1 11 (by decide)
        have g8_τ14 : τ14.2.1 8 = τ_27.2.1 8 := hf_τ14.2.1 8 (by decide)
        have g10_τ14 : τ14.2.1 10 = τ_27.2.1 10 := hf_τ14.2.1 10 (by decide)
        have g12_τ14 : τ14.2.1 12 = τ_27.2.1 12 := hf_τ14.2.1 12 (by decide)
        have g13_τ14 : τ14.2.1 13 = τ_27.2.1 13 := hf_τ14.2.1 13 (by decide)
        have g14_τ14 : τ14.2.1 14 = τ_27.2.1 14 := hf_τ14.2.1 14 (by decide)
        have g15_τ14 : τ14.2.1 15 = τ_27.2.1 15 := hf_τ14.2.1 15 (by decide)
        have g16_τ14 : τ14.2.1 16 = τ_27.2.1 16 := hf_τ14.2.1 16 (by decide)
        have g17_τ14 : τ14.2.1 17 = τ_27.2.1 17 := hf_τ14.2.1 17 (by decide)
        have g18_τ14 : τ14.2.1 18 = τ_27.2.1 18 := hf_τ14.2.1 18 (by decide)
        have g19_τ14 : τ14.2.1 19 = τ_27.2.1 19 := hf_τ14.2.1 19 (by decide)
        have g20_τ14 : τ14.2.1 20 = τ_27.2.1 20 := hf_τ14.2.1 20 (by decide)
        have g95_τ14 : τ14.2.1 95 = τ_27.2.1 95 := hf_τ14.2.1 95 (by decide)
        have g96_τ14 : τ14.2.1 96 = τ_27.2.1 96 := hf_τ14.2.1 96 (by decide)
        have W3 : τ14.1 3 = σ.1 3 := by first | exact w3_τ14.trans W3 | omega
        have W4 : τ14.1 4 = σ.1 4 := by first | exact w4_τ14.trans W4 | omega
        have W5 : τ14.1 5 = σ.1 5 := by first | exact w5_τ14.trans W5 | omega
        have W10 : τ14.1 10 = σ.1 10 := by first | exact w10_τ14.trans W10 | omega
        have W11 : τ14.1 11 = σ.1 11 := by first | exact w11_τ14.trans W11 | omega
        have G8 : τ14.2.1 8 = σ.2.1 8 := (g8_τ14).trans G8
        have G10 : τ14.2.1 10 = σ.2.1 10 := (g10_τ14).trans G10
        have G12 : τ14.2.1 12 = σ.2.1 12 := (g12_τ14).trans G12
        have G13 : τ14.2.1 13 = σ.2.1 13 := (g13_τ14).trans G13
        have G14 : τ14.2.1 14 = σ.2.1 14 := (g14_τ14).trans G14
        have G15 : τ14.2.1 15 = σ.2.1 15 := (g15_τ14).trans G15
        have G16 : τ14.2.1 16 = σ.2.1 16 := (g16_τ14).trans G16
        have G17 : τ14.2.1 17 = σ.2.1 17 := (g17_τ14).trans G17
        have G18 : τ14.2.1 18 = σ.2.1 18 := (g18_τ14).trans G18
        have G19 : τ14.2.1 19 = σ.2.1 19 := (g19_τ14).trans G19
        have G20 : τ14.2.1 20 = σ.2.1 20 := (g20_τ14).trans G20
        have G95 : τ14.2.1 95 = σ.2.1 95 := (g95_τ14).trans G95
        have G96 : τ14.2.1 96 = σ.2.1 96 := (g96_τ14).trans G96
        have Y20 : ca (τ14.2.1 12) ((τ14.1 3)) ≤ (τ14.1 4) := by rw [show (ca (τ14.2.1 12) ((τ14.1 3)) ≤ (τ14.1 4)) = (ca (τ_27.2.1 12) ((τ_27.1 3)) ≤ (τ_27.1 4)) from by rw [w3_τ14, w4_τ14, g12_τ14]]; exact Y20
        have A8 : ∀ j, 0 ≤ τ14.2.1 8 j ∧ τ14.2.1 8 j ≤ 1 := fun j => hT.2 8 j
        have A10 : ∀ j, (-1) ≤ τ14.2.1 10 j ∧ τ14.2.1 10 j ≤ 999 := fun j => hT.2 10 j
        have A12 : ∀ j, 0 ≤ τ14.2.1 12 j ∧ τ14.2.1 12 j ≤ 1 := fun j => hT.2 12 j
        have A13 : ∀ j, 0 ≤ τ14.2.1 13 j ∧ τ14.2.1 13 j ≤ 4 := fun j => hT.2 13 j
        have A14 : ∀ j, 0 ≤ τ14.2.1 14 j ∧ τ14.2.1 14 j ≤ 30000 := fun j => hT.2 14 j
        have A15 : ∀ j, 0 ≤ τ14.2.1 15 j ∧ τ14.2.1 15 j ≤ 300 := fun j => hT.2 15 j
        have A16 : ∀ j, 0 ≤ τ14.2.1 16 j ∧ τ14.2.1 16 j ≤ 999 := fun j => hT.2 16 j
        have A17 : ∀ j, (-1) ≤ τ14.2.1 17 j ∧ τ14.2.1 17 j ≤ 1499 := fun j => hT.2 17 j
        have A18 : ∀ j, 0 ≤ τ14.2.1 18 j ∧ τ14.2.1 18 j ≤ 90000 := fun j => hT.2 18 j
        have A19 : ∀ j, 0 ≤ τ14.2.1 19 j ∧ τ14.2.1 19 j ≤ 60 := fun j => hT.2 19 j
        have A20 : ∀ j, 0 ≤ τ14.2.1 20 j ∧ τ14.2.1 20 j ≤ 1499 := fun j => hT.2 20 j
        have A86 : ∀ j, (-1500) ≤ τ14.2.1 86 j ∧ τ14.2.1 86 j ≤ 1499 := fun j => hT.2 86 j
        have A87 : ∀ j, 0 ≤ τ14.2.1 87 j ∧ τ14.2.1 87 j ≤ 120000 := fun j => hT.2 87 j
        have A88 : ∀ j, 0 ≤ τ14.2.1 88 j ∧ τ14.2.1 88 j ≤ 59 := fun j => hT.2 88 j
        have A89 : ∀ j, 0 ≤ τ14.2.1 89 j ∧ τ14.2.1 89 j ≤ 59 := fun j => hT.2 89 j
        have A90 : ∀ j, (-1) ≤ τ14.2.1 90 j ∧ τ14.2.1 90 j ≤ 99 := fun j => hT.2 90 j
        have A91 : ∀ j, 0 ≤ τ14.2.1 91 j ∧ τ14.2.1 91 j ≤ 60000 := fun j => hT.2 91 j
        have A94 : ∀ j, (-1) ≤ τ14.2.1 94 j ∧ τ14.2.1 94 j ≤ 2 := fun j => hT.2 94 j
        have A95 : ∀ j, (-9) ≤ τ14.2.1 95 j ∧ τ14.2.1 95 j ≤ 1499 := fun j => hT.2 95 j
        have A96 : ∀ j, 0 ≤ τ14.2.1 96 j ∧ τ14.2.1 96 j ≤ 1 := fun j => hT.2 96 j
        have v3 : 0 ≤ τ14.1 3 ∧ τ14.1 3 ≤ 1000 := hT.1 3
        have v4 : 0 ≤ τ14.1 4 ∧ τ14.1 4 ≤ 100 := hT.1 4
        have v5 : 0 ≤ τ14.1 5 ∧ τ14.1 5 ≤ 1500 := hT.1 5
        have v10 : (-1) ≤ τ14.1 10 ∧ τ14.1 10 ≤ 999 := hT.1 10
        have v11 : (-1) ≤ τ14.1 11 ∧ τ14.1 11 ≤ 999 := hT.1 11
        have v45 : 0 ≤ τ14.1 45 ∧ τ14.1 45 ≤ 59 := hT.1 45
        have v48 : 0 ≤ τ14.1 48 ∧ τ14.1 48 ≤ 1500 := hT.1 48
        have v49 : 0 ≤ τ14.1 49 ∧ τ14.1 49 ≤ 1 := hT.1 49
        have v50 : 0 ≤ τ14.1 50 ∧ τ14.1 50 ≤ 1500 := hT.1 50
        have v51 : 0 ≤ τ14.1 51 ∧ τ14.1 51 ≤ 60000 := hT.1 51
        have v52 : 0 ≤ τ14.1 52 ∧ τ14.1 52 ≤ 120000 := hT.1 52
        have J14 := n_J_hh J27 hf_τ14 rfl rfl
        have M14 := m_J_f M27 hf_τ14 rfl rfl
        have SF14 : y_SF σ τ14 := by (have w := y_SF_h hf_τ14 rfl rfl; rw [i27_1] at w; exact w)
        have TRD14 : τ14.1 49 = 0 ∨ (y_TT τ14 τ14 (σ.1 5) (σ.1 5) ∧ y_Un τ14 (σ.1 5) (τ14.1 48) (τ14.2.1 84)) := (by have w := q12_3; rw [i27_1] at w; exact w)
        have KC14 : y_KC σ τ14 := by (have w := y_KC_c q12_7 q12_8 q12_9; rw [i27_1] at w; exact w)
        refine ⟨fun c15 => ?_, fun c15 => ?_⟩
        ·
          have hT14 := hT
          refine ⟨_, K_X13_treeOf hT (show 0 ≤ n1 from by (first | omega | (simp only [st_s] <;> omega) | assumption | omega | fail)) (show n1 < (τ14.1 5) from by (first | omega | (simp only [st_s] <;> omega) | assumption | omega | fail)) (show τ14.2.1 15 n1 ≤ 60 from by (rw [G15]; exact p3)) (show ca (τ14.2.1 12) ((τ14.1 3)) ≤ (τ14.1 4) from Y20) (show n_J τ14 from by exact J14) (show m_J τ14 from by exact M14) (show (τ14.1 10) < (τ14.1 3) from by (first | omega | (simp only [st_s] <;> omega) | assumption | omega | fail)) (show (τ14.1 49) = 0 ∨ (y_TT τ14 τ14 (τ14.1 5) (τ14.1 5) ∧ y_Un τ14 (τ14.1 5) (τ14.1 48) (τ14.2.1 84)) from by (rw [SF14.2.2.1]; exact TRD14)) (show (τ14.1 51) ≤ 47000 from by (first | omega | (simp only [st_s] <;> omega) | assumption | omega | fail)) (show (τ14.1 52) ≤ 88000 from by (first | omega | (simp only [st_s] <;> omega) | assumption | omega | fail)), ?_⟩
          intro x17 τ18 r_x17 hn_τ18 hf_τ18 hq
          obtain ⟨hT, q16_1, q16_2, q16_3, q16_4, q16_5, q16_6, q16_7, q16_8, q16_9, q16_10, q16_11, q16_12, q16_13, q16_14, q16_15⟩ := hq
          replace q16_1 : ∃ c : Int, τ18.2.1 94 = st (τ14.2.1 94) n1 c ∧ y_Ti τ14 n1 c ∧ (x17 = -1 ↔ ¬ c = 1) := q16_1
          replace q16_2 : ¬ (τ18.1 49) = 0 ∧ y_TT τ18 τ18 (τ14.1 5) (τ14.1 5) ∧ y_Un τ18 (τ14.1 5) (τ18.1 48) (τ18.2.1 84) := q16_2
          replace q16_3 : (τ14.1 51) ≤ (τ18.1 51) ∧ (τ18.1 51) ≤ (τ14.1 51) + 11700 := q16_3
          replace q16_4 : (τ14.1 52) ≤ (τ18.1 52) ∧ (τ18.1 52) ≤ (τ14.1 52) + 11700 := q16_4
          replace q16_5 : ∀ y : Int, y < (τ14.1 51) → (τ18.2.1 86 y = τ14.2.1 86 y ∧ τ18.2.1 87 y = τ14.2.1 87 y) ∧ τ18.2.1 88 y = τ14.2.1 88 y ∧ τ18.2.1 89 y = τ14.2.1 89 y ∧ τ18.2.1 90 y = τ14.2.1 90 y := q16_5
          replace q16_6 : ∀ e : Int, e < (τ14.1 52) → τ18.2.1 91 e = τ14.2.1 91 e := q16_6
          replace q16_7 : x17 = -1 → (τ18.1 51) = (τ14.1 51) ∧ (τ18.1 52) = (τ14.1 52) := q16_7
          replace q16_8 : ¬ x17 = -1 → x17 = (τ14.1 51) ∧ (τ14.1 51) < (τ18.1 51) := q16_8
          replace q16_9 : ¬ x17 = -1 → ∃ ρ : Int → Int → Int → Int, y_TC ρ τ18 := q16_9
          replace q16_10 : ¬ x17 = -1 → ∀ y : Int, (τ14.1 51) ≤ y → y < (τ18.1 51) → y_c0 τ18 (τ18.2.1 90 y) (τ18.2.1 88 y) (τ18.2.1 89 y) := q16_10
          replace q16_11 : ¬ x17 = -1 → ∀ y : Int, (τ14.1 51) ≤ y → y < (τ18.1 51) → y_nd τ18 (τ18.2.1 86) (τ18.2.1 87) (τ18.2.1 91) (τ18.2.1 88) (τ18.2.1 89) (τ18.2.1 90) y (y + 1) (τ18.1 51) (τ18.1 52) := q16_11
          replace q16_12 : ¬ x17 = -1 → τ18.2.1 90 (τ14.1 51) = τ18.2.1 71 (y_rt τ14 n1) ∧ τ18.2.1 88 (τ14.1 51) = 0 ∧ τ18.2.1 89 (τ14.1 51) = τ14.2.1 15 n1 - 1 := q16_12
          replace q16_13 : ¬ x17 = -1 → 0 ≤ y_rt τ14 n1 ∧ y_rt τ14 n1 < (τ14.1 3) := q16_13
          replace q16_14 : ¬ x17 = -1 → (τ18.1 50) = n1 ∧ (τ18.1 45) = τ14.2.1 15 n1 - 1 ∧ 1 < τ14.2.1 15 n1 := q16_14
          replace q16_15 : ¬ x17 = -1 → ∀ k : Int, 0 ≤ k → k < (τ14.2.1 15 n1 - 1) → τ18.2.1 72 k = τ14.2.1 16 (τ14.2.1 14 n1 + 1 + k) ∧ τ18.2.1 74 k = τ14.2.1 17 (τ14.2.1 14 n1 + 1 + k) ∧ ((τ14.2.1 17 (τ14.2.1 14 n1 + 1 + k) = -1 ∧ τ18.2.1 73 k = -1) ∨ (¬ τ14.2.1 17 (τ14.2.1 14 n1 + 1 + k) = -1 ∧ τ18.2.1 73 k = τ18.2.1 71 (τ14.2.1 16 (τ14.2.1 14 (τ14.2.1 17 (τ14.2.1 14 n1 + 1 + k)))))) := q16_15
          have w3_τ18 : τ18.1 3 = τ14.1 3 := hf_τ18.1 3 (by decide)
          have w4_τ18 : τ18.1 4 = τ14.1 4 := hf_τ18.1 4 (by decide)
          have w5_τ18 : τ18.1 5 = τ14.1 5 := hf_τ18.1 5 (by decide)
          have w10_τ18 : τ18.1 10 = τ14.1 10 := hf_τ18.1 10 (by decide)
          have w11_τ18 : τ18.1 11 = τ14.1 11 := hf_τ18.1 11 (by decide)
          have g8_τ18 : τ18.2.1 8 = τ14.2.1 8 := hf_τ18.2.1 8 (by decide)
          have g10_τ18 : τ18.2.1 10 = τ14.2.1 10 := hf_τ18.2.1 10 (by decide)
          have g12_τ18 : τ18.2.1 12 = τ14.2.1 12 := hf_τ18.2.1 12 (by decide)
          have g13_τ18 : τ18.2.1 13 = τ14.2.1 13 := hf_τ18.2.1 13 (by decide)
          have g14_τ18 : τ18.2.1 14 = τ14.2.1 14 := hf_τ18.2.1 14 (by decide)
          have g15_τ18 : τ18.2.1 15 = τ14.2.1 15 := hf_τ18.2.1 15 (by decide)
          have g16_τ18 : τ18.2.1 16 = τ14.2.1 16 := hf_τ18.2.1 16 (by decide)
          have g17_τ18 : τ18.2.1 17 = τ14.2.1 17 := hf_τ18.2.1 17 (by decide)
          have g18_τ18 : τ18.2.1 18 = τ14.2.1 18 := hf_τ18.2.1 18 (by decide)
          have g19_τ18 : τ18.2.1 19 = τ14.2.1 19 := hf_τ18.2.1 19 (by decide)
          have g20_τ18 : τ18.2.1 20 = τ14.2.1 20 := hf_τ18.2.1 20 (by decide)
          have g95_τ18 : τ18.2.1 95 = τ14.2.1 95 := hf_τ18.2.1 95 (by decide)
          have g96_τ18 : τ18.2.1 96 = τ14.2.1 96 := hf_τ18.2.1 96 (by decide)
          have W3 : τ18.1 3 = σ.1 3 := by first | exact w3_τ18.trans W3 | omega
          have W4 : τ18.1 4 = σ.1 4 := by first | exact w4_τ18.trans W4 | omega
          have W5 : τ18.1 5 = σ.1 5 := by first | exact w5_τ18.trans W5 | omega
          have W10 : τ18.1 10 = σ.1 10 := by first | exact w10_τ18.trans W10 | omega
          have W11 : τ18.1 11 = σ.1 11 := by first | exact w11_τ18.trans W11 | omega
          have G8 : τ18.2.1 8 = σ.2.1 8 := (g8_τ18).trans G8
          have G10 : τ18.2.1 10 = σ.2.1 10 := (g10_τ18).trans G10
          have G12 : τ18.2.1 12 = σ.2.1 12 := (g12_τ18).trans G12
          have G13 : τ18.2.1 13 = σ.2.1 13 := (g13_τ18).trans G13
          have G14 : τ18.2.1 14 = σ.2.1 14 := (g14_τ18).trans G14
          have G15 : τ18.2.1 15 = σ.2.1 15 := (g15_τ18).trans G15
          have G16 : τ18.2.1 16 = σ.2.1 16 := (g16_τ18).trans G16
          have G17 : τ18.2.1 17 = σ.2.1 17 := (g17_τ18).trans G17
          have G18 : τ18.2.1 18 = σ.2.1 18 := (g18_τ18).trans G18
          have G19 : τ18.2.1 19 = σ.2.1 19 := (g19_τ18).trans G19
          have G20 : τ18.2.1 20 = σ.2.1 20 := (g20_τ18).trans G20
          have G95 : τ18.2.1 95 = σ.2.1 95 := (g95_τ18).trans G95
          have G96 : τ18.2.1 96 = σ.2.1 96 := (g96_τ18).trans G96
          have Y20 : ca (τ18.2.1 12) ((τ18.1 3)) ≤ (τ18.1 4) := by rw [show (ca (τ18.2.1 12) ((τ18.1 3)) ≤ (τ18.1 4)) = (ca (τ14.2.1 12) ((τ14.1 3)) ≤ (τ14.1 4)) from by rw [w3_τ18, w4_τ18, g12_τ18]]; exact Y20
          have A8 : ∀ j, 0 ≤ τ18.2.1 8 j ∧ τ18.2.1 8 j ≤ 1 := fun j => hT.2 8 j
          have A10 : ∀ j, (-1) ≤ τ18.2.1 10 j ∧ τ18.2.1 10 j ≤ 999 := fun j => hT.2 10 j
          have A12 : ∀ j, 0 ≤ τ18.2.1 12 j ∧ τ18.2.1 12 j ≤ 1 := fun j => hT.2 12 j
          have A13 : ∀ j, 0 ≤ τ18.2.1 13 j ∧ τ18.2.1 13 j ≤ 4 := fun j => hT.2 13 j
          have A14 : ∀ j, 0 ≤ τ18.2.1 14 j ∧ τ18.2.1 14 j ≤ 30000 := fun j => hT.2 14 j
          have A15 : ∀ j, 0 ≤ τ18.2.1 15 j ∧ τ18.2.1 15 j ≤ 300 := fun j => hT.2 15 j
          have A16 : ∀ j, 0 ≤ τ18.2.1 16 j ∧ τ18.2.1 16 j ≤ 999 := fun j => hT.2 16 j
          have A17 : ∀ j, (-1) ≤ τ18.2.1 17 j ∧ τ18.2.1 17 j ≤ 1499 := fun j => hT.2 17 j
          have A18 : ∀ j, 0 ≤ τ18.2.1 18 j ∧ τ18.2.1 18 j ≤ 90000 := fun j => hT.2 18 j
          have A19 : ∀ j, 0 ≤ τ18.2.1 19 j ∧ τ18.2.1 19 j ≤ 60 := fun j => hT.2 19 j
          have A20 : ∀ j, 0 ≤ τ18.2.1 20 j ∧ τ18.2.1 20 j ≤ 1499 := fun j => hT.2 20 j
          have A86 : ∀ j, (-1500) ≤ τ18.2.1 86 j ∧ τ18.2.1 86 j ≤ 1499 := fun j => hT.2 86 j
          have A87 : ∀ j, 0 ≤ τ18.2.1 87 j ∧ τ18.2.1 87 j ≤ 120000 := fun j => hT.2 87 j
          have A88 : ∀ j, 0 ≤ τ18.2.1 88 j ∧ τ18.2.1 88 j ≤ 59 := fun j => hT.2 88 j
          have A89 : ∀ j, 0 ≤ τ18.2.1 89 j ∧ τ18.2.1 89 j ≤ 59 := fun j => hT.2 89 j
          have A90 : ∀ j, (-1) ≤ τ18.2.1 90 j ∧ τ18.2.1 90 j ≤ 99 := fun j => hT.2 90 j
          have A91 : ∀ j, 0 ≤ τ18.2.1 91 j ∧ τ18.2.1 91 j ≤ 60000 := fun j => hT.2 91 j
          have A94 : ∀ j, (-1) ≤ τ18.2.1 94 j ∧ τ18.2.1 94 j ≤ 2 := fun j => hT.2 94 j
          have A95 : ∀ j, (-9) ≤ τ18.2.1 95 j ∧ τ18.2.1 95 j ≤ 1499 := fun j => hT.2 95 j
          have A96 : ∀ j, 0 ≤ τ18.2.1 96 j ∧ τ18.2.1 96 j ≤ 1 := fun j => hT.2 96 j
          have v3 : 0 ≤ τ18.1 3 ∧ τ18.1 3 ≤ 1000 := hT.1 3
          have v4 : 0 ≤ τ18.1 4 ∧ τ18.1 4 ≤ 100 := hT.1 4
          have v5 : 0 ≤ τ18.1 5 ∧ τ18.1 5 ≤ 1500 := hT.1 5
          have v10 : (-1) ≤ τ18.1 10 ∧ τ18.1 10 ≤ 999 := hT.1 10
          have v11 : (-1) ≤ τ18.1 11 ∧ τ18.1 11 ≤ 999 := hT.1 11
          have v45 : 0 ≤ τ18.1 45 ∧ τ18.1 45 ≤ 59 := hT.1 45
          have v48 : 0 ≤ τ18.1 48 ∧ τ18.1 48 ≤ 1500 := hT.1 48
          have v49 : 0 ≤ τ18.1 49 ∧ τ18.1 49 ≤ 1 := hT.1 49
          have v50 : 0 ≤ τ18.1 50 ∧ τ18.1 50 ≤ 1500 := hT.1 50
          have v51 : 0 ≤ τ18.1 51 ∧ τ18.1 51 ≤ 60000 := hT.1 51
          have v52 : 0 ≤ τ18.1 52 ∧ τ18.1 52 ≤ 120000 := hT.1 52
          have TO18 : y_TO τ14 τ18 n1 x17 := ⟨q16_1, q16_2, q16_3, q16_4, q16_5, q16_6, fun z => ⟨q16_8 z, q16_9 z, q16_10 z, q16_11 z, q16_12 z, q16_13 z, q16_14 z, q16_15 z⟩⟩
          have b718 : τ18.2.2 7 = τ14.2.2 7 := hf_τ18.2.2 7 (by decide)
          obtain ⟨nx, KC18, E94⟩ := y_TO_1 q12_1 TO18 p1 (by omega) (by omega) b718
          have SFb := y_SF_h hf_τ18 rfl rfl
          obtain ⟨ex17, TR18⟩ := y_TR_o TO18 SFb nx
          have J18 := n_J_hh J14 hf_τ18 rfl rfl
          have M18 := m_J_f M14 hf_τ18 rfl rfl
          have SF18 := SFb
          have SF1 := y_SF_t SF14 SFb
          have KC1 := y_KC_t KC14 KC18
          have CT18 := y_CT_e SFb.1 SFb.2.2.1 SFb.2.2.2.1 SFb.2.2.2.2.2 E94 b718 q12_1
          obtain ⟨wt, TW⟩ := y_TW_o TO18 hT nx
          have l17 : x17 < τ18.1 51 := TR18.2.2.2.2.1.1
          have l51 : τ18.1 51 ≤ 60000 := (hT.1 51).2
          have l52 : τ18.1 52 ≤ 120000 := (hT.1 52).2
          obtain ⟨lo, elo⟩ : ∃ z : Int, z = x17 := ⟨_, rfl⟩
          obtain ⟨hi, ehi⟩ : ∃ z : Int, z = τ18.1 51 := ⟨_, rfl⟩
          rw [← elo, ← ehi] at TW
          have TRD18 : τ18.1 49 = 0 ∨ (y_TT τ18 τ18 (σ.1 5) (σ.1 5) ∧ y_Un τ18 (σ.1 5) (τ18.1 48) (τ18.2.1 84)) := Or.inr (by (have w := q16_2.2; rw [SF14.2.2.1] at w; exact w))
          have RN := (y_TR_n J14 hT14 hT p1 (by omega) TR18 (Int.le_refl _) l17).2
          clear q16_1 q16_2 q16_7 q16_8 q16_9 q16_10 q16_11 q16_12 q16_13 q16_14 q16_15 q12_7 q12_8 q12_9
          refine ⟨(show 0 ≤ x17 ∧ x17 < 60000 from by (first | omega | (simp only [st_s] <;> omega) | assumption | omega | fail)), ?_⟩
          intro x20 r_x20 e_x20
          have b_x20 : (-1500) ≤ x20 ∧ x20 ≤ 1499 := by rw [e_x20]; exact hT.2 86 _
          have RN20 : 0 ≤ x20 → (0 ≤ x20 ∧ x20 < n1) ∧ y_In σ x20 := by (intro z; obtain ⟨t, _, _, _, n⟩ := RN; unfold y_tn at n; rw [← e_x20] at n; rcases n with ⟨_, _, _, w⟩ | ⟨w, _⟩; (exfalso; omega); (exact ⟨w.1, by rw [← (y_SD_e SF14.1).2.1]; exact w.2.1⟩))
          refine ⟨fun c21 => ?_, fun c21 => ?_⟩
          ·
            refine ⟨(⟨by (first | omega | (simp only [st_s] <;> omega) | assumption | omega | fail), by (first | omega | (simp only [st_s] <;> omega) | assumption | omega | fail)⟩ : rg (τ14.1 51)), ?_⟩
            refine ⟨(⟨by (first | omega | (simp only [st_s] <;> omega) | assumption | omega | fail), by (first | omega | (simp only [st_s] <;> omega) | assumption | omega | fail)⟩ : rg (τ14.1 52)), ?_⟩
            exact l_216 _ _ _ _ hT (show τ18.1 3 = σ.1 3 from by first | exact W3 | omega) (show τ18.1 4 = σ.1 4 from by first | exact W4 | omega) (show τ18.1 5 = σ.1 5 from by first | exact W5 | omega) (show τ18.1 10 = σ.1 10 from by first | exact W10 | omega) (show τ18.1 11 = σ.1 11 from by first | exact W11 | omega) G8 G10 G12 G13 G14 G15 G16 G17 G18 G19 G20 G95 G96 (show (τ14.1 51) = (σ.1 51) ∧ (τ14.1 52) = (σ.1 52) from by (first | omega | (simp only [st_s] <;> omega) | assumption | omega | fail)) (show y_CT τ18 from by (first | exact CT18 | exact CT56 | fail)) (show ((τ18.1 49) = 0 ∨ (y_TT τ18 τ18 (σ.1 5) (σ.1 5) ∧ y_Un τ18 (σ.1 5) (τ18.1 48) (τ18.2.1 84))) from by (first | exact TRD18 | exact TRD56 | fail)) (show y_KC σ τ18 from by (first | exact KC1 | exact KC56 | fail)) (show y_SF σ τ18 from by (first | exact SF1 | exact SF2 | fail)) (show τ18.2.1 94 n1 = 1 ∧ σ.2.1 16 (σ.2.1 14 n1) = (σ.1 11) from by (first | exact ⟨by (rw [E94, q12_2.1]; omega), i27_3⟩ | exact ⟨by (rw [E9456, E94, q12_2.1]; omega), i27_3⟩ | fail)) (show (-1) = -1 ∨ y_Df σ n1 (-1) from by (first | exact Or.inl rfl | exact Or.inr (DFm (by omega)) | fail)) (show n_J τ18 from by (first | exact J18 | exact J56 | fail)) (show m_J τ18 from by (first | exact M18 | exact M56 | fail))
          ·
            refine ⟨(show 0 ≤ x20 ∧ x20 < 1501 from by (first | omega | (simp only [st_s] <;> omega) | assumption | omega | fail)), ?_⟩
            intro x25 r_x25 e_x25
            have b_x25 : 0 ≤ x25 ∧ x25 ≤ 1 := by rw [e_x25]; exact hT.2 96 _
            have f25 : x25 = σ.2.1 96 x20 := by rw [e_x25, G96]
            refine ⟨fun c26 => ?_, fun c26 => ?_⟩
            ·
              refine ⟨(⟨by (first | omega | (simp only [st_s] <;> omega) | assumption | omega | fail), by (first | omega | (simp only [st_s] <;> omega) | assumption | omega | fail)⟩ : rg (τ14.1 51)), ?_⟩
              refine ⟨(⟨by (first | omega | (simp only [st_s] <;> omega) | assumption | omega | fail), by (first | omega | (simp only [st_s] <;> omega) | assumption | omega | fail)⟩ : rg (τ14.1 52)), ?_⟩
              exact l_216 _ _ _ _ hT (show τ18.1 3 = σ.1 3 from by first | exact W3 | omega) (show τ18.1 4 = σ.1 4 from by first | exact W4 | omega) (show τ18.1 5 = σ.1 5 from by first | exact W5 | omega) (show τ18.1 10 = σ.1 10 from by first | exact W10 | omega) (show τ18.1 11 = σ.1 11 from by first | exact W11 | omega) G8 G10 G12 G13 G14 G15 G16 G17 G18 G19 G20 G95 G96 (show (τ14.1 51) = (σ.1 51) ∧ (τ14.1 52) = (σ.1 52) from by (first | omega | (simp only [st_s] <;> omega) | assumption | omega | fail)) (show y_CT τ18 from by (first | exact CT18 | exact CT56 | fail)) (show ((τ18.1 49) = 0 ∨ (y_TT τ18 τ18 (σ.1 5) (σ.1 5) ∧ y_Un τ18 (σ.1 5) (τ18.1 48) (τ18.2.1 84))) from by (first | exact TRD18 | exact TRD56 | fail)) (show y_KC σ τ18 from by (first | exact KC1 | exact KC56 | fail)) (show y_SF σ τ18 from by (first | exact SF1 | exact SF2 | fail)) (show τ18.2.1 94 n1 = 1 ∧ σ.2.1 16 (σ.2.1 14 n1) = (σ.1 11) from by (first | exact ⟨by (rw [E94, q12_2.1]; omega), i27_3⟩ | exact ⟨by (rw [E9456, E94, q12_2.1]; omega), i27_3⟩ | fail)) (show (-1) = -1 ∨ y_Df σ n1 (-1) from by (first | exact Or.inl rfl | exact Or.inr (DFm (by omega)) | fail)) (show n_J τ18 from by (first | exact J18 | exact J56 | fail)) (show m_J τ18 from by (first | exact M18 | exact M56 | fail))
            ·
              have I20 := RN20 (by omega)
              have l20 : x20 < σ.1 5 := by (have w := I20.1; omega)
              have EQ := p12 x20 (by omega) l20 (by omega)
              have H2 := y_h2_2 p5 hTσ (by omega) l20 I20.2 EQ.2
              have SD18 := SF18.1
              have I18 : y_In τ18 x20 := by (rw [(y_SD_e SD18).2.1, (y_SD_e SF14.1).2.1]; exact I20.2)
              refine ⟨_, K3_X13_firstSide hT (show 0 ≤ x20 from by (first | omega | (simp only [st_s] <;> omega) | assumption | omega | fail)) (show x20 < (τ18.1 5) from by (first | omega | (simp only [st_s] <;> omega) | assumption | omega | fail)) (show n_J τ18 from by exact J18) (show y_In τ18 x20 from by exact I18) (show ∃ m : Int, (0 ≤ m ∧ m < y_nn τ18 x20) ∧ y_f τ18 x20 (m + 1) < 0 from by (obtain ⟨m, a, b⟩ := H2.2; exact ⟨m, by (rw [(y_SD_e SD18).2.2.2.1, (y_SD_e SF14.1).2.2.2.1]; exact a), by (rw [(y_SD_e SD18).2.2.2.2.1, (y_SD_e SF14.1).2.2.2.2.1]; exact b)⟩)), ?_⟩
              intro x30 r_x30 hq
              obtain ⟨q29_1, q29_2⟩ := hq
              replace q29_1 : 0 ≤ x30 ∧ x30 < τ18.2.1 19 x20 := q29_1
              replace q29_2 : y_FS τ18 x20 x30 := q29_2
              rw [G19, H2.1] at q29_1
              have tw17 := (TW x17 (by omega) (by omega)).2 (by rw [← e_x20]; omega)
              rw [← e_x20, G19, H2.1] at tw17
              intro x32 r_x32 e_x32
              have b_x32 : 0 ≤ x32 ∧ x32 ≤ 120000 := by rw [e_x32]; exact hT.2 87 _
              have e32 := e_x32
              refine ⟨(show 0 ≤ (x32 + x30) ∧ (x32 + x30) < 120000 from by (first | omega | (simp only [st_s] <;> omega) | assumption | omega | fail)), ?_⟩
              intro x34 r_x34 e_x34
              have b_x34 : 0 ≤ x34 ∧ x34 ≤ 60000 := by rw [e_x34]; exact hT.2 91 _
              have K34 := tw17.2.1 x30 (by omega) (by omega)
              rw [← e_x32, ← e_x34] at K34
              intro x35 r_x35 e_x35
              have b_x35 : 0 ≤ x35 ∧ x35 ≤ 120000 := by rw [e_x35]; exact hT.2 87 _
              refine ⟨(show 0 ≤ ((x35 + 1) - x30) ∧ ((x35 + 1) - x30) < 120000 from by (first | omega | (simp only [st_s] <;> omega) | assumption | omega | fail)), ?_⟩
              intro x37 r_x37 e_x37
              have b_x37 : 0 ≤ x37 ∧ x37 ≤ 60000 := by rw [e_x37]; exact hT.2 91 _
              have K37 := tw17.2.1 (1 - x30) (by omega) (by omega)
              have f37 : x37 = τ18.2.1 91 (τ18.2.1 87 x17 + (1 - x30)) := by (rw [e_x37, e_x35]; exact congrArg (τ18.2.1 91) (by omega))
              rw [← f37] at K37
              refine ⟨(show 0 ≤ x34 ∧ x34 < 60000 from by (first | omega | (simp only [st_s] <;> omega) | assumption | omega | fail)), ?_⟩
              intro x39 r_x39 e_x39
              have b_x39 : (-1500) ≤ x39 ∧ x39 ≤ 1499 := by rw [e_x39]; exact hT.2 86 _
              refine ⟨fun c40 => ?_, fun c40 => ?_⟩
              ·
                refine ⟨(⟨by (first | omega | (simp only [st_s] <;> omega) | assumption | omega | fail), by (first | omega | (simp only [st_s] <;> omega) | assumption | omega | fail)⟩ : rg (τ14.1 51)), ?_⟩
                refine ⟨(⟨by (first | omega | (simp only [st_s] <;> omega) | assumption | omega | fail), by (first | omega | (simp only [st_s] <;> omega) | assumption | omega | fail)⟩ : rg (τ14.1 52)), ?_⟩
                exact l_216 _ _ _ _ hT (show τ18.1 3 = σ.1 3 from by first | exact W3 | omega) (show τ18.1 4 = σ.1 4 from by first | exact W4 | omega) (show τ18.1 5 = σ.1 5 from by first | exact W5 | omega) (show τ18.1 10 = σ.1 10 from by first | exact W10 | omega) (show τ18.1 11 = σ.1 11 from by first | exact W11 | omega) G8 G10 G12 G13 G14 G15 G16 G17 G18 G19 G20 G95 G96 (show (τ14.1 51) = (σ.1 51) ∧ (τ14.1 52) = (σ.1 52) from by (first | omega | (simp only [st_s] <;> omega) | assumption | omega | fail)) (show y_CT τ18 from by (first | exact CT18 | exact CT56 | fail)) (show ((τ18.1 49) = 0 ∨ (y_TT τ18 τ18 (σ.1 5) (σ.1 5) ∧ y_Un τ18 (σ.1 5) (τ18.1 48) (τ18.2.1 84))) from by (first | exact TRD18 | exact TRD56 | fail)) (show y_KC σ τ18 from by (first | exact KC1 | exact KC56 | fail)) (show y_SF σ τ18 from by (first | exact SF1 | exact SF2 | fail)) (show τ18.2.1 94 n1 = 1 ∧ σ.2.1 16 (σ.2.1 14 n1) = (σ.1 11) from by (first | exact ⟨by (rw [E94, q12_2.1]; omega), i27_3⟩ | exact ⟨by (rw [E9456, E94, q12_2.1]; omega), i27_3⟩ | fail)) (show (-1) = -1 ∨ y_Df σ n1 (-1) from by (first | exact Or.inl rfl | exact Or.inr (DFm (by omega)) | fail)) (show n_J τ18 from by (first | exact J18 | exact J56 | fail)) (show m_J τ18 from by (first | exact M18 | exact M56 | fail))
              ·
                refine ⟨(show 0 ≤ x39 ∧ x39 < 1501 from by (first | omega | (simp only [st_s] <;> omega) | assumption | omega | fail)), ?_⟩
                intro x44 r_x44 e_x44
                have b_x44 : 0 ≤ x44 ∧ x44 ≤ 1 := by rw [e_x44]; exact hT.2 96 _
                refine ⟨fun c45 => ?_, fun c45 => ?_⟩
                ·
                  refine ⟨(⟨by (first | omega | (simp only [st_s] <;> omega) | assumption | omega | fail), by (first | omega | (simp only [st_s] <;> omega) | assumption | omega | fail)⟩ : rg (τ14.1 51)), ?_⟩
                  refine ⟨(⟨by (first | omega | (simp only [st_s] <;> omega) | assumption | omega | fail), by (first | omega | (simp only [st_s] <;> omega) | assumption | omega | fail)⟩ : rg (τ14.1 52)), ?_⟩
                  exact l_216 _ _ _ _ hT (show τ18.1 3 = σ.1 3 from by first | exact W3 | omega) (show τ18.1 4 = σ.1 4 from by first | exact W4 | omega) (show τ18.1 5 = σ.1 5 from by first | exact W5 | omega) (show τ18.1 10 = σ.1 10 from by first | exact W10 | omega) (show τ18.1 11 = σ.1 11 from by first | exact W11 | omega) G8 G10 G12 G13 G14 G15 G16 G17 G18 G19 G20 G95 G96 (show (τ14.1 51) = (σ.1 51) ∧ (τ14.1 52) = (σ.1 52) from by (first | omega | (simp only [st_s] <;> omega) | assumption | omega | fail)) (show y_CT τ18 from by (first | exact CT18 | exact CT56 | fail)) (show ((τ18.1 49) = 0 ∨ (y_TT τ18 τ18 (σ.1 5) (σ.1 5) ∧ y_Un τ18 (σ.1 5) (τ18.1 48) (τ18.2.1 84))) from by (first | exact TRD18 | exact TRD56 | fail)) (show y_KC σ τ18 from by (first | exact KC1 | exact KC56 | fail)) (show y_SF σ τ18 from by (first | exact SF1 | exact SF2 | fail)) (show τ18.2.1 94 n1 = 1 ∧ σ.2.1 16 (σ.2.1 14 n1) = (σ.1 11) from by (first | exact ⟨by (rw [E94, q12_2.1]; omega), i27_3⟩ | exact ⟨by (rw [E9456, E94, q12_2.1]; omega), i27_3⟩ | fail)) (show (-1) = -1 ∨ y_Df σ n1 (-1) from by (first | exact Or.inl rfl | exact Or.inr (DFm (by omega)) | fail)) (show n_J τ18 from by (first | exact J18 | exact J56 | fail)) (show m_J τ18 from by (first | exact M18 | exact M56 | fail))
                ·
                  have tw34 := K34
                  refine ⟨_, K_X13_isFlat hT (show y_TW τ18 wt lo hi from by exact TW) (show lo ≤ x34 ∧ x34 < hi from by exact ⟨by omega, K34.2⟩) (show 0 ≤ lo ∧ hi ≤ 60000 from by (first | omega | (simp only [st_s] <;> omega) | assumption | omega | fail)) (show 0 ≤ τ18.2.1 86 x34 from by (first | omega | (simp only [st_s] <;> omega) | assumption | omega | fail)), ?_⟩
                  intro x49 r_x49 hq
                  obtain ⟨q48_1, q48_2⟩ := hq
                  replace q48_1 : x49 = 0 ∨ x49 = 1 := q48_1
                  replace q48_2 : x49 = 1 → ∀ k : Int, 0 ≤ k → k < τ18.2.1 19 (τ18.2.1 86 x34) → τ18.2.1 86 (τ18.2.1 91 (τ18.2.1 87 x34 + k)) < 0 ∧ ∀ j : Int, 0 ≤ j → j < k → ¬ τ18.2.1 86 (τ18.2.1 91 (τ18.2.1 87 x34 + j)) = τ18.2.1 86 (τ18.2.1 91 (τ18.2.1 87 x34 + k)) := q48_2
                  have hT18 := hT
                  refine ⟨fun c51 => ?_, fun c51 => ?_⟩
                  ·
                    refine ⟨(⟨by (first | omega | (simp only [st_s] <;> omega) | assumption | omega | fail), by (first | omega | (simp only [st_s] <;> omega) | assumption | omega | fail)⟩ : rg (τ14.1 51)), ?_⟩
                    refine ⟨(⟨by (first | omega | (simp only [st_s] <;> omega) | assumption | omega | fail), by (first | omega | (simp only [st_s] <;> omega) | assumption | omega | fail)⟩ : rg (τ14.1 52)), ?_⟩
                    exact l_216 _ _ _ _ hT (show τ18.1 3 = σ.1 3 from by first | exact W3 | omega) (show τ18.1 4 = σ.1 4 from by first | exact W4 | omega) (show τ18.1 5 = σ.1 5 from by first | exact W5 | omega) (show τ18.1 10 = σ.1 10 from by first | exact W10 | omega) (show τ18.1 11 = σ.1 11 from by first | exact W11 | omega) G8 G10 G12 G13 G14 G15 G16 G17 G18 G19 G20 G95 G96 (show (τ14.1 51) = (σ.1 51) ∧ (τ14.1 52) = (σ.1 52) from by (first | omega | (simp only [st_s] <;> omega) | assumption | omega | fail)) (show y_CT τ18 from by (first | exact CT18 | exact CT56 | fail)) (show ((τ18.1 49) = 0 ∨ (y_TT τ18 τ18 (σ.1 5) (σ.1 5) ∧ y_Un τ18 (σ.1 5) (τ18.1 48) (τ18.2.1 84))) from by (first | exact TRD18 | exact TRD56 | fail)) (show y_KC σ τ18 from by (first | exact KC1 | exact KC56 | fail)) (show y_SF σ τ18 from by (first | exact SF1 | exact SF2 | fail)) (show τ18.2.1 94 n1 = 1 ∧ σ.2.1 16 (σ.2.1 14 n1) = (σ.1 11) from by (first | exact ⟨by (rw [E94, q12_2.1]; omega), i27_3⟩ | exact ⟨by (rw [E9456, E94, q12_2.1]; omega), i27_3⟩ | fail)) (show (-1) = -1 ∨ y_Df σ n1 (-1) from by (first | exact Or.inl rfl | exact Or.inr (DFm (by omega)) | fail)) (show n_J τ18 from by (first | exact J18 | exact J56 | fail)) (show m_J τ18 from by (first | exact M18 | exact M56 | fail))
                  ·
                    refine ⟨_, K_X13_isPlain hT (show y_TW τ18 wt lo hi from by exact TW) (show lo ≤ x37 ∧ x37 < hi from by exact ⟨by omega, K37.2⟩) (show 0 ≤ lo ∧ hi ≤ 60000 from by (first | omega | (simp only [st_s] <;> omega) | assumption | omega | fail)) (show lo ≤ x34 ∧ x34 < hi from by exact ⟨by omega, K34.2⟩) (show 0 ≤ τ18.2.1 86 x34 from by (first | omega | (simp only [st_s] <;> omega) | assumption | omega | fail)), ?_⟩
                    intro x55 τ56 r_x55 hn_τ56 hf_τ56 hq
                    obtain ⟨hT, q54_1, q54_2⟩ := hq
                    replace q54_1 : x55 = 0 ∨ x55 = 1 := q54_1
                    replace q54_2 : x55 = 1 → ∃ Z : Int → Prop, y_PZ τ18 lo hi x39 (fun v => ∃ k : Int, (0 ≤ k ∧ k < τ18.2.1 19 (τ18.2.1 86 x34)) ∧ τ18.2.1 86 (τ18.2.1 91 (τ18.2.1 87 x34 + k)) = v) Z (fun _ => False) ∧ Z x37 := q54_2
                    have w3_τ56 : τ56.1 3 = τ18.1 3 := hf_τ56.1 3 (by decide)
                    have w4_τ56 : τ56.1 4 = τ18.1 4 := hf_τ56.1 4 (by decide)
                    have w5_τ56 : τ56.1 5 = τ18.1 5 := hf_τ56.1 5 (by decide)
                    have w10_τ56 : τ56.1 10 = τ18.1 10 := hf_τ56.1 10 (by decide)
                    have w11_τ56 : τ56.1 11 = τ18.1 11 := hf_τ56.1 11 (by decide)
                    have w45_τ56 : τ56.1 45 = τ18.1 45 := hf_τ56.1 45 (by decide)
                    have w48_τ56 : τ56.1 48 = τ18.1 48 := hf_τ56.1 48 (by decide)
                    have w49_τ56 : τ56.1 49 = τ18.1 49 := hf_τ56.1 49 (by decide)
                    have w50_τ56 : τ56.1 50 = τ18.1 50 := hf_τ56.1 50 (by decide)
                    have w51_τ56 : τ56.1 51 = τ18.1 51 := hf_τ56.1 51 (by decide)
                    have w52_τ56 : τ56.1 52 = τ18.1 52 := hf_τ56.1 52 (by decide)
                    have g8_τ56 : τ56.2.1 8 = τ18.2.1 8 := hf_τ56.2.1 8 (by decide)
                    have g10_τ56 : τ56.2.1 10 = τ18.2.1 10 := hf_τ56.2.1 10 (by decide)
                    have g12_τ56 : τ56.2.1 12 = τ18.2.1 12 := hf_τ56.2.1 12 (by decide)
                    have g13_τ56 : τ56.2.1 13 = τ18.2.1 13 := hf_τ56.2.1 13 (by decide)
                    have g14_τ56 : τ56.2.1 14 = τ18.2.1 14 := hf_τ56.2.1 14 (by decide)
                    have g15_τ56 : τ56.2.1 15 = τ18.2.1 15 := hf_τ56.2.1 15 (by decide)
                    have g16_τ56 : τ56.2.1 16 = τ18.2.1 16 := hf_τ56.2.1 16 (by decide)
                    have g17_τ56 : τ56.2.1 17 = τ18.2.1 17 := hf_τ56.2.1 17 (by decide)
                    have g18_τ56 : τ56.2.1 18 = τ18.2.1 18 := hf_τ56.2.1 18 (by decide)
                    have g19_τ56 : τ56.2.1 19 = τ18.2.1 19 := hf_τ56.2.1 19 (by decide)
                    have g20_τ56 : τ56.2.1 20 = τ18.2.1 20 := hf_τ56.2.1 20 (by decide)
                    have g86_τ56 : τ56.2.1 86 = τ18.2.1 86 := hf_τ56.2.1 86 (by decide)
                    have g87_τ56 : τ56.2.1 87 = τ18.2.1 87 := hf_τ56.2.1 87 (by decide)
                    have g88_τ56 : τ56.2.1 88 = τ18.2.1 88 := hf_τ56.2.1 88 (by decide)
                    have g89_τ56 : τ56.2.1 89 = τ18.2.1 89 := hf_τ56.2.1 89 (by decide)
                    have g90_τ56 : τ56.2.1 90 = τ18.2.1 90 := hf_τ56.2.1 90 (by decide)
                    have g91_τ56 : τ56.2.1 91 = τ18.2.1 91 := hf_τ56.2.1 91 (by decide)
                    have g94_τ56 : τ56.2.1 94 = τ18.2.1 94 := hf_τ56.2.1 94 (by decide)
                    have g95_τ56 : τ56.2.1 95 = τ18.2.1 95 := hf_τ56.2.1 95 (by decide)
                    have g96_τ56 : τ56.2.1 96 = τ18.2.1 96 := hf_τ56.2.1 96 (by decide)
                    have W3 : τ56.1 3 = σ.1 3 := by first | exact w3_τ56.trans W3 | omega
                    have W4 : τ56.1 4 = σ.1 4 := by first | exact w4_τ56.trans W4 | omega
                    have W5 : τ56.1 5 = σ.1 5 := by first | exact w5_τ56.trans W5 | omega
                    have W10 : τ56.1 10 = σ.1 10 := by first | exact w10_τ56.trans W10 | omega
                    have W11 : τ56.1 11 = σ.1 11 := by first | exact w11_τ56.trans W11 | omega
                    have G8 : τ56.2.1 8 = σ.2.1 8 := (g8_τ56).trans G8
                    have G10 : τ56.2.1 10 = σ.2.1 10 := (g10_τ56).trans G10
                    have G12 : τ56.2.1 12 = σ.2.1 12 := (g12_τ56).trans G12
                    have G13 : τ56.2.1 13 = σ.2.1 13 := (g13_τ56).trans G13
                    have G14 : τ56.2.1 14 = σ.2.1 14 := (g14_τ56).trans G14
                    have G15 : τ56.2.1 15 = σ.2.1 15 := (g15_τ56).trans G15
                    have G16 : τ56.2.1 16 = σ.2.1 16 := (g16_τ56).trans G16
                    have G17 : τ56.2.1 17 = σ.2.1 17 := (g17_τ56).trans G17
                    have G18 : τ56.2.1 18 = σ.2.1 18 := (g18_τ56).trans G18
                    have G19 : τ56.2.1 19 = σ.2.1 19 := (g19_τ56).trans G19
                    have G20 : τ56.2.1 20 = σ.2.1 20 := (g20_τ56).trans G20
                    have G95 : τ56.2.1 95 = σ.2.1 95 := (g95_τ56).trans G95
                    have G96 : τ56.2.1 96 = σ.2.1 96 := (g96_τ56).trans G96
                    have Y20 : ca (τ56.2.1 12) ((τ56.1 3)) ≤ (τ56.1 4) := by rw [show (ca (τ56.2.1 12) ((τ56.1 3)) ≤ (τ56.1 4)) = (ca (τ18.2.1 12) ((τ18.1 3)) ≤ (τ18.1 4)) from by rw [w3_τ56, w4_τ56, g12_τ56]]; exact Y20
                    have A8 : ∀ j, 0 ≤ τ56.2.1 8 j ∧ τ56.2.1 8 j ≤ 1 := fun j => hT.2 8 j
                    have A10 : ∀ j, (-1) ≤ τ56.2.1 10 j ∧ τ56.2.1 10 j ≤ 999 := fun j => hT.2 10 j
                    have A12 : ∀ j, 0 ≤ τ56.2.1 12 j ∧ τ56.2.1 12 j ≤ 1 := fun j => hT.2 12 j
                    have A13 : ∀ j, 0 ≤ τ56.2.1 13 j ∧ τ56.2.1 13 j ≤ 4 := fun j => hT.2 13 j
                    have A14 : ∀ j, 0 ≤ τ56.2.1 14 j ∧ τ56.2.1 14 j ≤ 30000 := fun j => hT.2 14 j
                    have A15 : ∀ j, 0 ≤ τ56.2.1 15 j ∧ τ56.2.1 15 j ≤ 300 := fun j => hT.2 15 j
                    have A16 : ∀ j, 0 ≤ τ56.2.1 16 j ∧ τ56.2.1 16 j ≤ 999 := fun j => hT.2 16 j
                    have A17 : ∀ j, (-1) ≤ τ56.2.1 17 j ∧ τ56.2.1 17 j ≤ 1499 := fun j => hT.2 17 j
                    have A18 : ∀ j, 0 ≤ τ56.2.1 18 j ∧ τ56.2.1 18 j ≤ 90000 := fun j => hT.2 18 j
                    have A19 : ∀ j, 0 ≤ τ56.2.1 19 j ∧ τ56.2.1 19 j ≤ 60 := fun j => hT.2 19 j
                    have A20 : ∀ j, 0 ≤ τ56.2.1 20 j ∧ τ56.2.1 20 j ≤ 1499 := fun j => hT.2 20 j
                    have A86 : ∀ j, (-1500) ≤ τ56.2.1 86 j ∧ τ56.2.1 86 j ≤ 1499 := fun j => hT.2 86 j
                    have A87 : ∀ j, 0 ≤ τ56.2.1 87 j ∧ τ56.2.1 87 j ≤ 120000 := fun j => hT.2 87 j
                    have A88 : ∀ j, 0 ≤ τ56.2.1 88 j ∧ τ56.2.1 88 j ≤ 59 := fun j => hT.2 88 j
                    have A89 : ∀ j, 0 ≤ τ56.2.1 89 j ∧ τ56.2.1 89 j ≤ 59 := fun j => hT.2 89 j
                    have A90 : ∀ j, (-1) ≤ τ56.2.1 90 j ∧ τ56.2.1 90 j ≤ 99 := fun j => hT.2 90 j
                    have A91 : ∀ j, 0 ≤ τ56.2.1 91 j ∧ τ56.2.1 91 j ≤ 60000 := fun j => hT.2 91 j
                    have A94 : ∀ j, (-1) ≤ τ56.2.1 94 j ∧ τ56.2.1 94 j ≤ 2 := fun j => hT.2 94 j
                    have A95 : ∀ j, (-9) ≤ τ56.2.1 95 j ∧ τ56.2.1 95 j ≤ 1499 := fun j => hT.2 95 j
                    have A96 : ∀ j, 0 ≤ τ56.2.1 96 j ∧ τ56.2.1 96 j ≤ 1 := fun j => hT.2 96 j
                    have v3 : 0 ≤ τ56.1 3 ∧ τ56.1 3 ≤ 1000 := hT.1 3
                    have v4 : 0 ≤ τ56.1 4 ∧ τ56.1 4 ≤ 100 := hT.1 4
                    have v5 : 0 ≤ τ56.1 5 ∧ τ56.1 5 ≤ 1500 := hT.1 5
                    have v10 : (-1) ≤ τ56.1 10 ∧ τ56.1 10 ≤ 999 := hT.1 10
                    have v11 : (-1) ≤ τ56.1 11 ∧ τ56.1 11 ≤ 999 := hT.1 11
                    have v45 : 0 ≤ τ56.1 45 ∧ τ56.1 45 ≤ 59 := hT.1 45
                    have v48 : 0 ≤ τ56.1 48 ∧ τ56.1 48 ≤ 1500 := hT.1 48
                    have v49 : 0 ≤ τ56.1 49 ∧ τ56.1 49 ≤ 1 := hT.1 49
                    have v50 : 0 ≤ τ56.1 50 ∧ τ56.1 50 ≤ 1500 := hT.1 50
                    have v51 : 0 ≤ τ56.1 51 ∧ τ56.1 51 ≤ 60000 := hT.1 51
                    have v52 : 0 ≤ τ56.1 52 ∧ τ56.1 52 ≤ 120000 := hT.1 52
                    have SF56 := y_SF_h hf_τ56 rfl rfl
                    have J56 := n_J_hh J18 hf_τ56 rfl rfl
                    have M56 := m_J_f M18 hf_τ56 rfl rfl
                    have E9456 : τ56.2.1 94 = τ18.2.1 94 := hf_τ56.2.1 94 (by decide)
                    have b756 : τ56.2.2 7 = τ18.2.2 7 := hf_τ56.2.2 7 (by decide)
                    have CT56 := y_CT_e SF56.1 SF56.2.2.1 SF56.2.2.2.1 SF56.2.2.2.2.2 E9456 b756 CT18
                    have KC56 := y_KC_t KC1 (y_KC_e E9456 b756)
                    have SF2 := y_SF_t SF1 SF56
                    have TRD56 : τ56.1 49 = 0 ∨ (y_TT τ56 τ56 (σ.1 5) (σ.1 5) ∧ y_Un τ56 (σ.1 5) (τ56.1 48) (τ56.2.1 84)) := by (rcases TRD18 with z | z; (exact Or.inl ((hf_τ56.1 49 (by decide)).trans z)); (exact Or.inr (y_tr_h SF56.1 hf_τ56 rfl rfl z)))
                    have e34 : τ18.2.1 91 (τ18.2.1 87 x17 + x30) = x34 := by rw [e_x34, e_x32]
                    have FS30 : y_FS τ14 x20 x30 := by (rw [← y_FS_e SF18.1]; exact q29_2)
                    have DFm : x55 = 1 → y_Df σ n1 x39 := by (intro z; obtain ⟨Z, z1, z2⟩ := q54_2 z; rw [← e_x39] at z1; have DN : y_DN τ14 τ18 x17 (τ18.1 51) x39 := (by rw [elo, ehi] at z1; unfold y_DN; rw [← e_x20]; refine ⟨⟨⟨by omega, by (rw [SF14.2.2.1]; exact l20)⟩, by (rw [(y_SD_e SF14.1).2.1]; exact I20.2), by (rw [SF14.1.2.2.2.2.2.2.2.2.1]; exact H2.1)⟩, x30, FS30, ?_⟩; rw [e34, ← f37]; exact ⟨e_x39.symm, Z, z1, z2⟩); rw [← y_Df_e SF14]; exact y_Df_mk J14 hT14 hT18 p1 (by omega) TR18 DN (by omega))
                    refine ⟨fun c57 => ?_, fun c57 => ?_⟩
                    ·
                      refine ⟨(⟨by (first | omega | (simp only [st_s] <;> omega) | assumption | omega | fail), by (first | omega | (simp only [st_s] <;> omega) | assumption | omega | fail)⟩ : rg (τ14.1 51)), ?_⟩
                      refine ⟨(⟨by (first | omega | (simp only [st_s] <;> omega) | assumption | omega | fail), by (first | omega | (simp only [st_s] <;> omega) | assumption | omega | fail)⟩ : rg (τ14.1 52)), ?_⟩
                      exact l_216 _ _ _ _ hT (show τ56.1 3 = σ.1 3 from by first | exact W3 | omega) (show τ56.1 4 = σ.1 4 from by first | exact W4 | omega) (show τ56.1 5 = σ.1 5 from by first | exact W5 | omega) (show τ56.1 10 = σ.1 10 from by first | exact W10 | omega) (show τ56.1 11 = σ.1 11 from by first | exact W11 | omega) G8 G10 G12 G13 G14 G15 G16 G17 G18 G19 G20 G95 G96 (show (τ14.1 51) = (σ.1 51) ∧ (τ14.1 52) = (σ.1 52) from by (first | omega | (simp only [st_s] <;> omega) | assumption | omega | fail)) (show y_CT τ56 from by (first | exact CT18 | exact CT56 | fail)) (show ((τ56.1 49) = 0 ∨ (y_TT τ56 τ56 (σ.1 5) (σ.1 5) ∧ y_Un τ56 (σ.1 5) (τ56.1 48) (τ56.2.1 84))) from by (first | exact TRD18 | exact TRD56 | fail)) (show y_KC σ τ56 from by (first | exact KC1 | exact KC56 | fail)) (show y_SF σ τ56 from by (first | exact SF1 | exact SF2 | fail)) (show τ56.2.1 94 n1 = 1 ∧ σ.2.1 16 (σ.2.1 14 n1) = (σ.1 11) from by (first | exact ⟨by (rw [E94, q12_2.1]; omega), i27_3⟩ | exact ⟨by (rw [E9456, E94, q12_2.1]; omega), i27_3⟩ | fail)) (show (-1) = -1 ∨ y_Df σ n1 (-1) from by (first | exact Or.inl rfl | exact Or.inr (DFm (by omega)) | fail)) (show n_J τ56 from by (first | exact J18 | exact J56 | fail)) (show m_J τ56 from by (first | exact M18 | exact M56 | fail))
                    ·
                      refine ⟨(⟨by (first | omega | (simp only [st_s] <;> omega) | assumption | omega | fail), by (first | omega | (simp only [st_s] <;> omega) | assumption | omega | fail)⟩ : rg (τ14.1 51)), ?_⟩
                      refine ⟨(⟨by (first | omega | (simp only [st_s] <;> omega) | assumption | omega | fail), by (first | omega | (simp only [st_s] <;> omega) | assumption | omega | fail)⟩ : rg (τ14.1 52)), ?_⟩
                      exact l_216 _ _ _ _ hT (show τ56.1 3 = σ.1 3 from by first | exact W3 | omega) (show τ56.1 4 = σ.1 4 from by first | exact W4 | omega) (show τ56.1 5 = σ.1 5 from by first | exact W5 | omega) (show τ56.1 10 = σ.1 10 from by first | exact W10 | omega) (show τ56.1 11 = σ.1 11 from by first | exact W11 | omega) G8 G10 G12 G13 G14 G15 G16 G17 G18 G19 G20 G95 G96 (show (τ14.1 51) = (σ.1 51) ∧ (τ14.1 52) = (σ.1 52) from by (first | omega | (simp only [st_s] <;> omega) | assumption | omega | fail)) (show y_CT τ56 from by (first | exact CT18 | exact CT56 | fail)) (show ((τ56.1 49) = 0 ∨ (y_TT τ56 τ56 (σ.1 5) (σ.1 5) ∧ y_Un τ56 (σ.1 5) (τ56.1 48) (τ56.2.1 84))) from by (first | exact TRD18 | exact TRD56 | fail)) (show y_KC σ τ56 from by (first | exact KC1 | exact KC56 | fail)) (show y_SF σ τ56 from by (first | exact SF1 | exact SF2 | fail)) (show τ56.2.1 94 n1 = 1 ∧ σ.2.1 16 (σ.2.1 14 n1) = (σ.1 11) from by (first | exact ⟨by (rw [E94, q12_2.1]; omega), i27_3⟩ | exact ⟨by (rw [E9456, E94, q12_2.1]; omega), i27_3⟩ | fail)) (show x39 = -1 ∨ y_Df σ n1 x39 from by (first | exact Or.inl rfl | exact Or.inr (DFm (by omega)) | fail)) (show n_J τ56 from by (first | exact J18 | exact J56 | fail)) (show m_J τ56 from by (first | exact M18 | exact M56 | fail))
        ·
          exact ⟨hT, (show y_CT τ14 from by (first | exact p11 | exact q12_1 | (rw [i27_1]; exact p11) | exact q69_1 | exact y_CT_e ⟨rfl, rfl, rfl, rfl, rfl, rfl, rfl, rfl, rfl, rfl⟩ rfl rfl rfl rfl rfl i216_2 | fail)), (show ((τ14.1 49) = 0 ∨ (y_TT τ14 τ14 (σ.1 5) (σ.1 5) ∧ y_Un τ14 (σ.1 5) (τ14.1 48) (τ14.2.1 84))) from by (first | exact p8 | exact TRD14 | (rw [i27_1]; exact p8) | (have w := q69_2; rw [W5] at w; exact w) | (have w := q69_2; rw [← w5_τ71, W5] at w; exact w) | exact q69_2 | exact i216_3 | fail)), (show (τ14.1 51) = (σ.1 51) ∧ (τ14.1 52) = (σ.1 52) from by (first | omega | (simp only [st_s] <;> omega) | assumption | omega | fail)), (show y_KC σ τ14 from by (first | exact y_KC_0 σ | exact KC14 | (rw [i27_1]; exact y_KC_0 σ) | exact KCz | exact y_KC_t i216_4 (y_KC_e rfl rfl) | fail)), (show (-1) = -1 ∨ y_DE τ14 n1 (-1) from by (first | exact Or.inl rfl | exact DEz (by omega) | fail))⟩
      ·
        refine ⟨(show 0 ≤ u2_27 ∧ u2_27 < 90100 from by (first | omega | (simp only [st_s] <;> omega) | assumption | omega | fail)), ?_⟩
        intro x63 r_x63 e_x63
        have b_x63 : 0 ≤ x63 ∧ x63 ≤ 1499 := by rw [e_x63]; exact hT.2 20 _
        refine ⟨(show 0 ≤ x63 ∧ x63 < 1501 from by (first | omega | (simp only [st_s] <;> omega) | assumption | omega | fail)), ?_⟩
        intro x65 r_x65 e_x65
        have b_x65 : 0 ≤ x65 ∧ x65 ≤ 4 := by rw [e_x65]; exact hT.2 13 _
        refine ⟨fun c66 => ?_, fun c66 => ?_⟩
        ·
          refine ⟨(⟨by (first | omega | (simp only [st_s] <;> omega) | assumption | omega | fail), by (first | omega | (simp only [st_s] <;> omega) | assumption | omega | fail)⟩ : rg (u2_27 + 1)), ?_⟩
          exact ih_27 _ _ (show (σ.2.1 18 n1 + σ.2.1 19 n1 + 1 - (u2_27 + 1) : Int) < ((m_27 : Nat) : Int) from by ((first | omega | (simp only [st_s] <;> omega) | assumption | omega | fail))) hT (show τ_27.1 3 = σ.1 3 from by first | exact W3 | omega) (show τ_27.1 4 = σ.1 4 from by first | exact W4 | omega) (show τ_27.1 5 = σ.1 5 from by first | exact W5 | omega) (show τ_27.1 10 = σ.1 10 from by first | exact W10 | omega) (show τ_27.1 11 = σ.1 11 from by first | exact W11 | omega) G8 G10 G12 G13 G14 G15 G16 G17 G18 G19 G20 G95 G96 (show τ_27 = σ from by (first | rfl | exact i27_1 | fail)) (show σ.2.1 18 n1 ≤ (u2_27 + 1) ∧ (u2_27 + 1) ≤ σ.2.1 18 n1 + σ.2.1 19 n1 from by (first | omega | (simp only [st_s] <;> omega) | assumption | omega | fail)) (show σ.2.1 16 (σ.2.1 14 n1) = (σ.1 11) from by (first | exact i27_3 | (rw [← e_x2, ← e_x4]; assumption) | assumption | fail))
        ·
          exact ⟨hT, (show y_CT τ_27 from by (first | exact p11 | exact q12_1 | (rw [i27_1]; exact p11) | exact q69_1 | exact y_CT_e ⟨rfl, rfl, rfl, rfl, rfl, rfl, rfl, rfl, rfl, rfl⟩ rfl rfl rfl rfl rfl i216_2 | fail)), (show ((τ_27.1 49) = 0 ∨ (y_TT τ_27 τ_27 (σ.1 5) (σ.1 5) ∧ y_Un τ_27 (σ.1 5) (τ_27.1 48) (τ_27.2.1 84))) from by (first | exact p8 | exact TRD14 | (rw [i27_1]; exact p8) | (have w := q69_2; rw [W5] at w; exact w) | (have w := q69_2; rw [← w5_τ71, W5] at w; exact w) | exact q69_2 | exact i216_3 | fail)), (show (τ_27.1 51) = (σ.1 51) ∧ (τ_27.1 52) = (σ.1 52) from by (first | omega | (simp only [st_s] <;> omega) | assumption | omega | fail)), (show y_KC σ τ_27 from by (first | exact y_KC_0 σ | exact KC14 | (rw [i27_1]; exact y_KC_0 σ) | exact KCz | exact y_KC_t i216_4 (y_KC_e rfl rfl) | fail)), (show (-1) = -1 ∨ y_DE τ_27 n1 (-1) from by (first | exact Or.inl rfl | exact DEz (by omega) | fail))⟩
  refine ⟨(show 0 ≤ n1 ∧ n1 < 1501 from by (first | omega | (simp only [st_s] <;> omega) | assumption | omega | fail)), ?_⟩
  intro x2 r_x2 e_x2
  have b_x2 : 0 ≤ x2 ∧ x2 ≤ 30000 := by rw [e_x2]; exact hT.2 14 _
  refine ⟨(show 0 ≤ x2 ∧ x2 < 30400 from by (first | omega | (simp only [st_s] <;> omega) | assumption | omega | fail)), ?_⟩
  intro x4 r_x4 e_x4
  have b_x4 : 0 ≤ x4 ∧ x4 ≤ 999 := by rw [e_x4]; exact hT.2 16 _
  refine ⟨fun c5 => ?_, fun c5 => ?_⟩
  ·
    intro x6 r_x6 e_x6
    have b_x6 : 0 ≤ x6 ∧ x6 ≤ 90000 := by rw [e_x6]; exact hT.2 18 _
    exact l_27 ((σ.2.1 18 n1 + σ.2.1 19 n1 + 1 - x6 : Int).toNat + 1) _ _ (show (σ.2.1 18 n1 + σ.2.1 19 n1 + 1 - x6 : Int) < (((σ.2.1 18 n1 + σ.2.1 19 n1 + 1 - x6 : Int).toNat + 1 : Nat) : Int) from by ((first | omega | (simp only [st_s] <;> omega) | assumption | omega | fail))) hT (show σ.1 3 = σ.1 3 from by first | exact W3 | omega) (show σ.1 4 = σ.1 4 from by first | exact W4 | omega) (show σ.1 5 = σ.1 5 from by first | exact W5 | omega) (show σ.1 10 = σ.1 10 from by first | exact W10 | omega) (show σ.1 11 = σ.1 11 from by first | exact W11 | omega) G8 G10 G12 G13 G14 G15 G16 G17 G18 G19 G20 G95 G96 (show σ = σ from by (first | rfl | exact i27_1 | fail)) (show σ.2.1 18 n1 ≤ x6 ∧ x6 ≤ σ.2.1 18 n1 + σ.2.1 19 n1 from by (first | omega | (simp only [st_s] <;> omega) | assumption | omega | fail)) (show σ.2.1 16 (σ.2.1 14 n1) = (σ.1 11) from by (first | exact i27_3 | (rw [← e_x2, ← e_x4]; assumption) | assumption | fail))
  ·
    exact ⟨hT, (show y_CT σ from by (first | exact p11 | exact q12_1 | (rw [i27_1]; exact p11) | exact q69_1 | exact y_CT_e ⟨rfl, rfl, rfl, rfl, rfl, rfl, rfl, rfl, rfl, rfl⟩ rfl rfl rfl rfl rfl i216_2 | fail)), (show ((σ.1 49) = 0 ∨ (y_TT σ σ (σ.1 5) (σ.1 5) ∧ y_Un σ (σ.1 5) (σ.1 48) (σ.2.1 84))) from by (first | exact p8 | exact TRD14 | (rw [i27_1]; exact p8) | (have w := q69_2; rw [W5] at w; exact w) | (have w := q69_2; rw [← w5_τ71, W5] at w; exact w) | exact q69_2 | exact i216_3 | fail)), (show (σ.1 51) = (σ.1 51) ∧ (σ.1 52) = (σ.1 52) from by (first | omega | (simp only [st_s] <;> omega) | assumption | omega | fail)), (show y_KC σ σ from by (first | exact y_KC_0 σ | exact KC14 | (rw [i27_1]; exact y_KC_0 σ) | exact KCz | exact y_KC_t i216_4 (y_KC_e rfl rfl) | fail)), (show (-1) = -1 ∨ y_DE σ n1 (-1) from by (first | exact Or.inl rfl | exact DEz (by omega) | fail))⟩
