-- pure: the model reads proofs, steps
set_option maxHeartbeats 1000000 in
theorem K3_X13_readPlain {σ : S0} (hT : m_T σ) (p1 : (σ.1 16) ≤ (σ.1 0)) (p2 : (σ.1 17) + (σ.1 18) ≤ (σ.1 0)) (p3 : oc (σ.2.1 6) < 4096) (p4 : oc (σ.2.1 7) < 4096) (p5 : (σ.1 22) = (σ.1 5)) (p6 : σ.2.1 25 (σ.1 22) + σ.2.1 26 (σ.1 22) = (σ.1 9)) (p7 : n_sp2 (σ.2.1 25 (σ.1 22)) (σ.1 9) (σ.1 22) (σ.2.1 27) (σ.2.1 28)) : W_X13_readPlain σ (fun (τ : S0) => (m_T τ) ∧ ((τ.1 16) ≤ (τ.1 0)) ∧ ((τ.1 17) + (τ.1 18) ≤ (τ.1 0)) ∧ (¬ (σ.1 20) = 0 → (τ.1 20) = (σ.1 20)) ∧ (τ.2.1 25 (τ.1 22) + τ.2.1 26 (τ.1 22) = (τ.1 9)) ∧ (j_eq ((σ.1 9)) (σ.2.1 28) (τ.2.1 28)) ∧ (ca (τ.2.1 28) ((τ.1 9)) = ca (σ.2.1 28) ((σ.1 9))) ∧ ((σ.1 16) ≤ (τ.1 16)) ∧ (m_ag σ τ) ∧ (n_sp2 (τ.2.1 25 (τ.1 22)) (τ.1 9) (τ.1 22) (τ.2.1 27) (τ.2.1 28))) := by
  have A0 : ∀ j, 0 ≤ σ.2.1 0 j ∧ σ.2.1 0 j ≤ 255 := fun j => hT.2 0 j
  have A6 : ∀ j, (-1) ≤ σ.2.1 6 j ∧ σ.2.1 6 j ≤ 999 := fun j => hT.2 6 j
  have A7 : ∀ j, (-1) ≤ σ.2.1 7 j ∧ σ.2.1 7 j ≤ 1499 := fun j => hT.2 7 j
  have A25 : ∀ j, 0 ≤ σ.2.1 25 j ∧ σ.2.1 25 j ≤ 20000 := fun j => hT.2 25 j
  have A26 : ∀ j, 0 ≤ σ.2.1 26 j ∧ σ.2.1 26 j ≤ 20000 := fun j => hT.2 26 j
  have A27 : ∀ j, (-300) ≤ σ.2.1 27 j ∧ σ.2.1 27 j ≤ 1499 := fun j => hT.2 27 j
  have A28 : ∀ j, 0 ≤ σ.2.1 28 j ∧ σ.2.1 28 j ≤ 1 := fun j => hT.2 28 j
  have v0 : 0 ≤ σ.1 0 ∧ σ.1 0 ≤ 60000 := hT.1 0
  have v3 : 0 ≤ σ.1 3 ∧ σ.1 3 ≤ 1000 := hT.1 3
  have v5 : 0 ≤ σ.1 5 ∧ σ.1 5 ≤ 1500 := hT.1 5
  have v6 : 0 ≤ σ.1 6 ∧ σ.1 6 ≤ 30000 := hT.1 6
  have v7 : 0 ≤ σ.1 7 ∧ σ.1 7 ≤ 90000 := hT.1 7
  have v8 : 0 ≤ σ.1 8 ∧ σ.1 8 ≤ 20000 := hT.1 8
  have v9 : 0 ≤ σ.1 9 ∧ σ.1 9 ≤ 20000 := hT.1 9
  have v16 : 0 ≤ σ.1 16 ∧ σ.1 16 ≤ 60000 := hT.1 16
  have v17 : 0 ≤ σ.1 17 ∧ σ.1 17 ≤ 60000 := hT.1 17
  have v18 : 0 ≤ σ.1 18 ∧ σ.1 18 ≤ 60000 := hT.1 18
  have v19 : (-1) ≤ σ.1 19 ∧ σ.1 19 ≤ 125 := hT.1 19
  have v20 : 0 ≤ σ.1 20 ∧ σ.1 20 ≤ 19 := hT.1 20
  have v22 : 0 ≤ σ.1 22 ∧ σ.1 22 ≤ 1499 := hT.1 22
  have a0_17 : 0 ≤ σ.2.1 0 (σ.1 17) ∧ σ.2.1 0 (σ.1 17) ≤ 255 := hT.2 0 _
  have a25_22 : 0 ≤ σ.2.1 25 (σ.1 22) ∧ σ.2.1 25 (σ.1 22) ≤ 20000 := hT.2 25 _
  have a26_22 : 0 ≤ σ.2.1 26 (σ.1 22) ∧ σ.2.1 26 (σ.1 22) ≤ 20000 := hT.2 26 _
  have a28_9 : 0 ≤ σ.2.1 28 (σ.1 9) ∧ σ.2.1 28 (σ.1 9) ≤ 1 := hT.2 28 _
  have W0 : σ.1 0 = σ.1 0 := rfl
  have W3 : σ.1 3 = σ.1 3 := rfl
  have W5 : σ.1 5 = σ.1 5 := rfl
  have W6 : σ.1 6 = σ.1 6 := rfl
  have W7 : σ.1 7 = σ.1 7 := rfl
  have W8 : σ.1 8 = σ.1 8 := rfl
  have W22 : σ.1 22 = σ.1 22 := rfl
  have G0 : σ.2.1 0 = σ.2.1 0 := rfl
  have G6 : σ.2.1 6 = σ.2.1 6 := rfl
  have G7 : σ.2.1 7 = σ.2.1 7 := rfl
  have G25 : σ.2.1 25 = σ.2.1 25 := rfl
  have ag : m_ag σ σ := ag_0 σ
  intro P0 P60 P88 P111 h0 h60 h88 h111
  have Y8 := j_eq0 (σ.1 9) (σ.2.1 28)
  have Y9 : ca (σ.2.1 28) (σ.1 9) = ca (σ.2.1 28) (σ.1 9) := rfl
  have Z4 : σ.2.1 25 (σ.1 22) + σ.2.1 26 (σ.1 22) = (σ.1 9) := p6
  have NSP : n_sp2 (σ.2.1 25 (σ.1 22)) (σ.1 9) (σ.1 22) (σ.2.1 27) (σ.2.1 28) := p7
  have NSP_0 := NSP
  have Y8_0 := Y8
  have Y9_0 := Y9
  have Z4_0 := Z4
  have l_0 : ∀ (m_0 : Nat) (τ_0 : S0), 3 * ((τ_0.1 0) - (τ_0.1 16)) + z_0 ((τ_0.1 20)) + 1 - z_0 ((τ_0.1 19)) < (m_0 : Int) → (m_T τ_0) → (m_ag σ τ_0) → (τ_0.1 0 = σ.1 0) → (τ_0.1 3 = σ.1 3) → (τ_0.1 5 = σ.1 5) → (τ_0.1 6 = σ.1 6) → (τ_0.1 7 = σ.1 7) → (τ_0.1 8 = σ.1 8) → (τ_0.1 22 = σ.1 22) → (τ_0.2.1 0 = σ.2.1 0) → (τ_0.2.1 6 = σ.2.1 6) → (τ_0.2.1 7 = σ.2.1 7) → (τ_0.2.1 25 = σ.2.1 25) → ((τ_0.1 16) ≤ (τ_0.1 0)) → ((τ_0.1 17) + (τ_0.1 18) ≤ (τ_0.1 0)) → (oc (τ_0.2.1 6) < 4096) → (oc (τ_0.2.1 7) < 4096) → (τ_0.2.1 25 (τ_0.1 22) + τ_0.2.1 26 (τ_0.1 22) = (τ_0.1 9)) → (¬ (σ.1 20) = 0 → (τ_0.1 20) = (σ.1 20)) → (j_eq ((σ.1 9)) (σ.2.1 28) (τ_0.2.1 28)) → (ca (τ_0.2.1 28) ((τ_0.1 9)) = ca (σ.2.1 28) ((σ.1 9))) → ((σ.1 16) ≤ (τ_0.1 16)) → (n_sp2 (τ_0.2.1 25 (τ_0.1 22)) (τ_0.1 9) (τ_0.1 22) (τ_0.2.1 27) (τ_0.2.1 28)) → P0 τ_0 := by
    intro m_0
    induction m_0 with
    | zero =>
      intro τ_0 hm hT ag W0 W3 W5 W6 W7 W8 W22 G0 G6 G7 G25 i0_1 i0_2 i0_3 i0_4 i0_5 i0_6 i0_7 i0_8 i0_9 i0_10
      have A0 : ∀ j, 0 ≤ τ_0.2.1 0 j ∧ τ_0.2.1 0 j ≤ 255 := fun j => hT.2 0 j
      have A6 : ∀ j, (-1) ≤ τ_0.2.1 6 j ∧ τ_0.2.1 6 j ≤ 999 := fun j => hT.2 6 j
      have A7 : ∀ j, (-1) ≤ τ_0.2.1 7 j ∧ τ_0.2.1 7 j ≤ 1499 := fun j => hT.2 7 j
      have A25 : ∀ j, 0 ≤ τ_0.2.1 25 j ∧ τ_0.2.1 25 j ≤ 20000 := fun j => hT.2 25 j
      have A26 : ∀ j, 0 ≤ τ_0.2.1 26 j ∧ τ_0.2.1 26 j ≤ 20000 := fun j => hT.2 26 j
      have A27 : ∀ j, (-300) ≤ τ_0.2.1 27 j ∧ τ_0.2.1 27 j ≤ 1499 := fun j => hT.2 27 j
      have A28 : ∀ j, 0 ≤ τ_0.2.1 28 j ∧ τ_0.2.1 28 j ≤ 1 := fun j => hT.2 28 j
      have v0 : 0 ≤ τ_0.1 0 ∧ τ_0.1 0 ≤ 60000 := hT.1 0
      have v3 : 0 ≤ τ_0.1 3 ∧ τ_0.1 3 ≤ 1000 := hT.1 3
      have v5 : 0 ≤ τ_0.1 5 ∧ τ_0.1 5 ≤ 1500 := hT.1 5
      have v6 : 0 ≤ τ_0.1 6 ∧ τ_0.1 6 ≤ 30000 := hT.1 6
      have v7 : 0 ≤ τ_0.1 7 ∧ τ_0.1 7 ≤ 90000 := hT.1 7
      have v8 : 0 ≤ τ_0.1 8 ∧ τ_0.1 8 ≤ 20000 := hT.1 8
      have v9 : 0 ≤ τ_0.1 9 ∧ τ_0.1 9 ≤ 20000 := hT.1 9
      have v16 : 0 ≤ τ_0.1 16 ∧ τ_0.1 16 ≤ 60000 := hT.1 16
      have v17 : 0 ≤ τ_0.1 17 ∧ τ_0.1 17 ≤ 60000 := hT.1 17
      have v18 : 0 ≤ τ_0.1 18 ∧ τ_0.1 18 ≤ 60000 := hT.1 18
      have v19 : (-1) ≤ τ_0.1 19 ∧ τ_0.1 19 ≤ 125 := hT.1 19
      have v20 : 0 ≤ τ_0.1 20 ∧ τ_0.1 20 ≤ 19 := hT.1 20
      have v22 : 0 ≤ τ_0.1 22 ∧ τ_0.1 22 ≤ 1499 := hT.1 22
      have a0_17 : 0 ≤ τ_0.2.1 0 (τ_0.1 17) ∧ τ_0.2.1 0 (τ_0.1 17) ≤ 255 := hT.2 0 _
      have a25_22 : 0 ≤ τ_0.2.1 25 (τ_0.1 22) ∧ τ_0.2.1 25 (τ_0.1 22) ≤ 20000 := hT.2 25 _
      have a26_22 : 0 ≤ τ_0.2.1 26 (τ_0.1 22) ∧ τ_0.2.1 26 (τ_0.1 22) ≤ 20000 := hT.2 26 _
      have a28_9 : 0 ≤ τ_0.2.1 28 (τ_0.1 9) ∧ τ_0.2.1 28 (τ_0.1 9) ≤ 1 := hT.2 28 _
      have av9 : σ.1 9 ≤ τ_0.1 9 := ag.1 9 (by decide)
      have zz0 := z_e ((τ_0.1 20))
      have zz1 := z_e ((τ_0.1 19))
      exfalso; (first | omega | (simp only [st_s] <;> omega) | assumption | omega | fail)
    | succ m_0 ih_0 =>
      intro τ_0 hm_0 hT ag W0 W3 W5 W6 W7 W8 W22 G0 G6 G7 G25 i0_1 i0_2 i0_3 i0_4 i0_5 i0_6 i0_7 i0_8 i0_9 i0_10
      have A0 : ∀ j, 0 ≤ τ_0.2.1 0 j ∧ τ_0.2.1 0 j ≤ 255 := fun j => hT.2 0 j
      have A6 : ∀ j, (-1) ≤ τ_0.2.1 6 j ∧ τ_0.2.1 6 j ≤ 999 := fun j => hT.2 6 j
      have A7 : ∀ j, (-1) ≤ τ_0.2.1 7 j ∧ τ_0.2.1 7 j ≤ 1499 := fun j => hT.2 7 j
      have A25 : ∀ j, 0 ≤ τ_0.2.1 25 j ∧ τ_0.2.1 25 j ≤ 20000 := fun j => hT.2 25 j
      have A26 : ∀ j, 0 ≤ τ_0.2.1 26 j ∧ τ_0.2.1 26 j ≤ 20000 := fun j => hT.2 26 j
      have A27 : ∀ j, (-300) ≤ τ_0.2.1 27 j ∧ τ_0.2.1 27 j ≤ 1499 := fun j => hT.2 27 j
      have A28 : ∀ j, 0 ≤ τ_0.2.1 28 j ∧ τ_0.2.1 28 j ≤ 1 := fun j => hT.2 28 j
      have v0 : 0 ≤ τ_0.1 0 ∧ τ_0.1 0 ≤ 60000 := hT.1 0
      have v3 : 0 ≤ τ_0.1 3 ∧ τ_0.1 3 ≤ 1000 := hT.1 3
      have v5 : 0 ≤ τ_0.1 5 ∧ τ_0.1 5 ≤ 1500 := hT.1 5
      have v6 : 0 ≤ τ_0.1 6 ∧ τ_0.1 6 ≤ 30000 := hT.1 6
      have v7 : 0 ≤ τ_0.1 7 ∧ τ_0.1 7 ≤ 90000 := hT.1 7
      have v8 : 0 ≤ τ_0.1 8 ∧ τ_0.1 8 ≤ 20000 := hT.1 8
      have v9 : 0 ≤ τ_0.1 9 ∧ τ_0.1 9 ≤ 20000 := hT.1 9
      have v16 : 0 ≤ τ_0.1 16 ∧ τ_0.1 16 ≤ 60000 := hT.1 16
      have v17 : 0 ≤ τ_0.1 17 ∧ τ_0.1 17 ≤ 60000 := hT.1 17
      have v18 : 0 ≤ τ_0.1 18 ∧ τ_0.1 18 ≤ 60000 := hT.1 18
      have v19 : (-1) ≤ τ_0.1 19 ∧ τ_0.1 19 ≤ 125 := hT.1 19
      have v20 : 0 ≤ τ_0.1 20 ∧ τ_0.1 20 ≤ 19 := hT.1 20
      have v22 : 0 ≤ τ_0.1 22 ∧ τ_0.1 22 ≤ 1499 := hT.1 22
      have a0_17 : 0 ≤ τ_0.2.1 0 (τ_0.1 17) ∧ τ_0.2.1 0 (τ_0.1 17) ≤ 255 := hT.2 0 _
      have a25_22 : 0 ≤ τ_0.2.1 25 (τ_0.1 22) ∧ τ_0.2.1 25 (τ_0.1 22) ≤ 20000 := hT.2 25 _
      have a26_22 : 0 ≤ τ_0.2.1 26 (τ_0.1 22) ∧ τ_0.2.1 26 (τ_0.1 22) ≤ 20000 := hT.2 26 _
      have a28_9 : 0 ≤ τ_0.2.1 28 (τ_0.1 9) ∧ τ_0.2.1 28 (τ_0.1 9) ≤ 1 := hT.2 28 _
      have av9 : σ.1 9 ≤ τ_0.1 9 := ag.1 9 (by decide)
      have zy0_0 := z_e ((τ_0.1 20))
      have zy0_1 := z_e ((τ_0.1 19))
      have y25_22_τ_0 : τ_0.2.1 25 (τ_0.1 22) = σ.2.1 25 (σ.1 22) := by rw [G25, W22]
      have o6_τ_0 := congrArg oc G6
      have o7_τ_0 := congrArg oc G7
      have Z4 : τ_0.2.1 25 (τ_0.1 22) + τ_0.2.1 26 (τ_0.1 22) = (τ_0.1 9) := i0_5
      have Y8 : j_eq ((σ.1 9)) (σ.2.1 28) (τ_0.2.1 28) := i0_7
      have Y9 : ca (τ_0.2.1 28) ((τ_0.1 9)) = ca (σ.2.1 28) ((σ.1 9)) := i0_8
      have NSP : n_sp2 (τ_0.2.1 25 (τ_0.1 22)) (τ_0.1 9) (τ_0.1 22) (τ_0.2.1 27) (τ_0.2.1 28) := i0_10
      refine h0 τ_0 ?_
      refine ⟨fun c1 => ?_, fun c1 => ?_⟩
      ·
        exact ⟨hT, (show (τ_0.1 16) ≤ (τ_0.1 0) from by (first | omega | (simp only [st_s] <;> omega) | assumption | omega | fail)), (show (τ_0.1 17) + (τ_0.1 18) ≤ (τ_0.1 0) from by (first | omega | (simp only [st_s] <;> omega) | assumption | omega | fail)), (show ¬ (σ.1 20) = 0 → (τ_0.1 20) = (σ.1 20) from by (first | omega | (simp only [st_s] <;> omega) | assumption | omega | fail)), (show τ_0.2.1 25 (τ_0.1 22) + τ_0.2.1 26 (τ_0.1 22) = (τ_0.1 9) from Z4), (show j_eq ((σ.1 9)) (σ.2.1 28) (τ_0.2.1 28) from Y8), (show ca (τ_0.2.1 28) ((τ_0.1 9)) = ca (σ.2.1 28) ((σ.1 9)) from Y9), (show (σ.1 16) ≤ (τ_0.1 16) from by (first | omega | (simp only [st_s] <;> omega) | assumption | omega | fail)), ag, (show n_sp2 (τ_0.2.1 25 (τ_0.1 22)) (τ_0.1 9) (τ_0.1 22) (τ_0.2.1 27) (τ_0.2.1 28) from NSP)⟩
      ·
        refine ⟨fun c2 => ?_, fun c2 => ?_⟩
        ·
          exact ⟨hT, (show (τ_0.1 16) ≤ (τ_0.1 0) from by (first | omega | (simp only [st_s] <;> omega) | assumption | omega | fail)), (show (τ_0.1 17) + (τ_0.1 18) ≤ (τ_0.1 0) from by (first | omega | (simp only [st_s] <;> omega) | assumption | omega | fail)), (show ¬ (σ.1 20) = 0 → (τ_0.1 20) = (σ.1 20) from by (first | omega | (simp only [st_s] <;> omega) | assumption | omega | fail)), (show τ_0.2.1 25 (τ_0.1 22) + τ_0.2.1 26 (τ_0.1 22) = (τ_0.1 9) from Z4), (show j_eq ((σ.1 9)) (σ.2.1 28) (τ_0.2.1 28) from Y8), (show ca (τ_0.2.1 28) ((τ_0.1 9)) = ca (σ.2.1 28) ((σ.1 9)) from Y9), (show (σ.1 16) ≤ (τ_0.1 16) from by (first | omega | (simp only [st_s] <;> omega) | assumption | omega | fail)), ag, (show n_sp2 (τ_0.2.1 25 (τ_0.1 22)) (τ_0.1 9) (τ_0.1 22) (τ_0.2.1 27) (τ_0.2.1 28) from NSP)⟩
        ·
          refine ⟨fun c3 => ?_, fun c3 => ?_⟩
          ·
            refine ⟨fun c4 => ?_, fun c4 => ?_⟩
            ·
              refine h60 _ ?_
              refine ⟨_, K_X13_stepHere hT (show (τ_0.1 17) + (τ_0.1 18) ≤ (τ_0.1 0) from by (first | omega | (simp only [st_s] <;> omega) | assumption | omega | fail)) (show oc (τ_0.2.1 7) < 4096 from by (first | omega | (simp only [st_s] <;> omega) | assumption | omega | fail)), ?_⟩
              intro x12 r_x12 hq
              obtain ⟨q11_1, q11_2⟩ := hq
              replace q11_1 : -1 ≤ x12 ∧ x12 < (τ_0.1 22) ∨ x12 = -1 := q11_1
              replace q11_2 : -1 ≤ x12 ∧ x12 ≤ 1499 := q11_2
              refine ⟨fun c14 => ?_, fun c14 => ?_⟩
              ·
                refine h88 _ _ ?_
                refine ⟨fun c23 => ?_, fun c23 => ?_⟩
                ·
                  refine ⟨_, K_X13_addStep hT (show -300 ≤ x12 from by (first | omega | (simp only [st_s] <;> omega) | assumption | omega | fail)) (show x12 ≤ 1499 from by (first | omega | (simp only [st_s] <;> omega) | assumption | omega | fail)) (show 0 ≤ (τ_0.1 17) from by (first | omega | (simp only [st_s] <;> omega) | assumption | omega | fail)) (show (τ_0.1 17) ≤ 60000 from by (first | omega | (simp only [st_s] <;> omega) | assumption | omega | fail)) (show (τ_0.1 9) < 20000 from by (first | omega | (simp only [st_s] <;> omega) | assumption | omega | fail)) (show τ_0.2.1 26 (τ_0.1 22) < 20000 from by (first | omega | (simp only [st_s] <;> omega) | assumption | omega | fail)) (show (τ_0.1 22) = (τ_0.1 5) from by (first | omega | (simp only [st_s] <;> omega) | assumption | omega | fail)), ?_⟩
                  intro τ26 hn_τ26 hf_τ26 hq
                  obtain ⟨hT, q24_1, q24_2, q24_3, q24_4, q24_5, q24_6, q24_7⟩ := hq
                  replace q24_1 : (τ26.1 9) = (τ_0.1 9) + 1 := q24_1
                  replace q24_2 : τ26.2.1 26 (τ26.1 22) = τ_0.2.1 26 (τ_0.1 22) + 1 := q24_2
                  replace q24_3 : τ26.2.1 27 = st (τ_0.2.1 27) (τ_0.1 9) x12 := q24_3
                  replace q24_4 : j_eq ((τ_0.1 9)) (τ_0.2.1 28) (τ26.2.1 28) := q24_4
                  replace q24_5 : ca (τ26.2.1 28) ((τ26.1 9)) = ca (τ_0.2.1 28) ((τ_0.1 9)) := q24_5
                  replace q24_6 : τ26.2.1 28 (τ_0.1 9) = 0 := q24_6
                  replace q24_7 : m_ag τ_0 τ26 := q24_7
                  replace ag : m_ag σ τ26 := ag_t ag q24_7 rfl
                  have w0_τ26 : τ26.1 0 = τ_0.1 0 := hf_τ26.1 0 (by decide)
                  have w3_τ26 : τ26.1 3 = τ_0.1 3 := hf_τ26.1 3 (by decide)
                  have w5_τ26 : τ26.1 5 = τ_0.1 5 := hf_τ26.1 5 (by decide)
                  have w6_τ26 : τ26.1 6 = τ_0.1 6 := hf_τ26.1 6 (by decide)
                  have w7_τ26 : τ26.1 7 = τ_0.1 7 := hf_τ26.1 7 (by decide)
                  have w8_τ26 : τ26.1 8 = τ_0.1 8 := hf_τ26.1 8 (by decide)
                  have w16_τ26 : τ26.1 16 = τ_0.1 16 := hf_τ26.1 16 (by decide)
                  have w17_τ26 : τ26.1 17 = τ_0.1 17 := hf_τ26.1 17 (by decide)
                  have w18_τ26 : τ26.1 18 = τ_0.1 18 := hf_τ26.1 18 (by decide)
                  have w19_τ26 : τ26.1 19 = τ_0.1 19 := hf_τ26.1 19 (by decide)
                  have w20_τ26 : τ26.1 20 = τ_0.1 20 := hf_τ26.1 20 (by decide)
                  have w22_τ26 : τ26.1 22 = τ_0.1 22 := hf_τ26.1 22 (by decide)
                  have g0_τ26 : τ26.2.1 0 = τ_0.2.1 0 := hf_τ26.2.1 0 (by decide)
                  have g6_τ26 : τ26.2.1 6 = τ_0.2.1 6 := hf_τ26.2.1 6 (by decide)
                  have g7_τ26 : τ26.2.1 7 = τ_0.2.1 7 := hf_τ26.2.1 7 (by decide)
                  have g25_τ26 : τ26.2.1 25 = τ_0.2.1 25 := hf_τ26.2.1 25 (by decide)
                  first | (have o6_τ26 := congrArg oc g6_τ26) | skip
                  first | (have o7_τ26 := congrArg oc g7_τ26) | skip
                  have W0 : τ26.1 0 = σ.1 0 := by first | exact w0_τ26.trans W0 | omega
                  have W3 : τ26.1 3 = σ.1 3 := by first | exact w3_τ26.trans W3 | omega
                  have W5 : τ26.1 5 = σ.1 5 := by first | exact w5_τ26.trans W5 | omega
                  have W6 : τ26.1 6 = σ.1 6 := by first | exact w6_τ26.trans W6 | omega
                  have W7 : τ26.1 7 = σ.1 7 := by first | exact w7_τ26.trans W7 | omega
                  have W8 : τ26.1 8 = σ.1 8 := by first | exact w8_τ26.trans W8 | omega
                  have W22 : τ26.1 22 = σ.1 22 := by first | exact w22_τ26.trans W22 | omega
                  have G0 : τ26.2.1 0 = σ.2.1 0 := (g0_τ26).trans G0
                  have G6 : τ26.2.1 6 = σ.2.1 6 := (g6_τ26).trans G6
                  have G7 : τ26.2.1 7 = σ.2.1 7 := (g7_τ26).trans G7
                  have G25 : τ26.2.1 25 = σ.2.1 25 := (g25_τ26).trans G25
                  have y0_17_τ26 : τ26.2.1 0 (τ26.1 17) = (τ_0.2.1 0) (τ_0.1 17) := by rw [g0_τ26, w17_τ26]
                  have y25_22_τ26 : τ26.2.1 25 (τ26.1 22) = (τ_0.2.1 25) (τ_0.1 22) := by rw [g25_τ26, w22_τ26]
                  have A0 : ∀ j, 0 ≤ τ26.2.1 0 j ∧ τ26.2.1 0 j ≤ 255 := fun j => hT.2 0 j
                  have A6 : ∀ j, (-1) ≤ τ26.2.1 6 j ∧ τ26.2.1 6 j ≤ 999 := fun j => hT.2 6 j
                  have A7 : ∀ j, (-1) ≤ τ26.2.1 7 j ∧ τ26.2.1 7 j ≤ 1499 := fun j => hT.2 7 j
                  have A25 : ∀ j, 0 ≤ τ26.2.1 25 j ∧ τ26.2.1 25 j ≤ 20000 := fun j => hT.2 25 j
                  have A26 : ∀ j, 0 ≤ τ26.2.1 26 j ∧ τ26.2.1 26 j ≤ 20000 := fun j => hT.2 26 j
                  have A27 : ∀ j, (-300) ≤ τ26.2.1 27 j ∧ τ26.2.1 27 j ≤ 1499 := fun j => hT.2 27 j
                  have A28 : ∀ j, 0 ≤ τ26.2.1 28 j ∧ τ26.2.1 28 j ≤ 1 := fun j => hT.2 28 j
                  have v0 : 0 ≤ τ26.1 0 ∧ τ26.1 0 ≤ 60000 := hT.1 0
                  have v3 : 0 ≤ τ26.1 3 ∧ τ26.1 3 ≤ 1000 := hT.1 3
                  have v5 : 0 ≤ τ26.1 5 ∧ τ26.1 5 ≤ 1500 := hT.1 5
                  have v6 : 0 ≤ τ26.1 6 ∧ τ26.1 6 ≤ 30000 := hT.1 6
                  have v7 : 0 ≤ τ26.1 7 ∧ τ26.1 7 ≤ 90000 := hT.1 7
                  have v8 : 0 ≤ τ26.1 8 ∧ τ26.1 8 ≤ 20000 := hT.1 8
                  have v9 : 0 ≤ τ26.1 9 ∧ τ26.1 9 ≤ 20000 := hT.1 9
                  have v16 : 0 ≤ τ26.1 16 ∧ τ26.1 16 ≤ 60000 := hT.1 16
                  have v17 : 0 ≤ τ26.1 17 ∧ τ26.1 17 ≤ 60000 := hT.1 17
                  have v18 : 0 ≤ τ26.1 18 ∧ τ26.1 18 ≤ 60000 := hT.1 18
                  have v19 : (-1) ≤ τ26.1 19 ∧ τ26.1 19 ≤ 125 := hT.1 19
                  have v20 : 0 ≤ τ26.1 20 ∧ τ26.1 20 ≤ 19 := hT.1 20
                  have v22 : 0 ≤ τ26.1 22 ∧ τ26.1 22 ≤ 1499 := hT.1 22
                  have a0_17 : 0 ≤ τ26.2.1 0 (τ26.1 17) ∧ τ26.2.1 0 (τ26.1 17) ≤ 255 := hT.2 0 _
                  have a25_22 : 0 ≤ τ26.2.1 25 (τ26.1 22) ∧ τ26.2.1 25 (τ26.1 22) ≤ 20000 := hT.2 25 _
                  have a26_22 : 0 ≤ τ26.2.1 26 (τ26.1 22) ∧ τ26.2.1 26 (τ26.1 22) ≤ 20000 := hT.2 26 _
                  have a28_9 : 0 ≤ τ26.2.1 28 (τ26.1 9) ∧ τ26.2.1 28 (τ26.1 9) ≤ 1 := hT.2 28 _
                  have av9 : σ.1 9 ≤ τ26.1 9 := ag.1 9 (by decide)
                  have Z4 : τ26.2.1 25 (τ26.1 22) + τ26.2.1 26 (τ26.1 22) = τ26.1 9 := by omega
                  have Y8 := j_eqt Y8 (j_eqw q24_4 (show σ.1 9 ≤ τ_0.1 9 from by omega))
                  have Y9 := q24_5.trans Y9
                  have NSP : n_sp2 (τ26.2.1 25 (τ26.1 22)) (τ26.1 9) (τ26.1 22) (τ26.2.1 27) (τ26.2.1 28) := by (rw [show τ26.2.1 25 (τ26.1 22) = τ_0.2.1 25 (τ_0.1 22) from by omega, show τ26.1 9 = τ_0.1 9 + 1 from by omega, show τ26.1 22 = τ_0.1 22 from by omega]; exact n_sp2_a NSP q24_3 q24_4 (by omega) (by omega) (fun z => by omega) (fun _ => by omega))
                  refine h111 _ ?_
                  refine ⟨fun c19 => ?_, fun c19 => ?_⟩
                  ·
                    exact ih_0 _ (show (3 * ((τ26.1 0) - (τ26.1 16)) + z_0 ((τ26.1 20)) + 1 - z_0 ((τ26.1 19)) : Int) < ((m_0 : Nat) : Int) from by (have zz0 := z_e ((τ26.1 20)); have zz1 := z_e ((τ26.1 19)); (first | omega | (simp only [st_s] <;> omega) | assumption | omega | fail))) hT ag (show τ26.1 0 = σ.1 0 from by first | exact W0 | omega) (show τ26.1 3 = σ.1 3 from by first | exact W3 | omega) (show τ26.1 5 = σ.1 5 from by first | exact W5 | omega) (show τ26.1 6 = σ.1 6 from by first | exact W6 | omega) (show τ26.1 7 = σ.1 7 from by first | exact W7 | omega) (show τ26.1 8 = σ.1 8 from by first | exact W8 | omega) (show τ26.1 22 = σ.1 22 from by first | exact W22 | omega) G0 G6 G7 G25 (show (τ26.1 16) ≤ (τ26.1 0) from by (first | omega | (simp only [st_s] <;> omega) | assumption | omega | fail)) (show (τ26.1 17) + (τ26.1 18) ≤ (τ26.1 0) from by (first | omega | (simp only [st_s] <;> omega) | assumption | omega | fail)) (show oc (τ26.2.1 6) < 4096 from by (first | omega | (simp only [st_s] <;> omega) | assumption | omega | fail)) (show oc (τ26.2.1 7) < 4096 from by (first | omega | (simp only [st_s] <;> omega) | assumption | omega | fail)) (show τ26.2.1 25 (τ26.1 22) + τ26.2.1 26 (τ26.1 22) = (τ26.1 9) from Z4) (show ¬ (σ.1 20) = 0 → (τ26.1 20) = (σ.1 20) from by (first | omega | (simp only [st_s] <;> omega) | assumption | omega | fail)) (show j_eq ((σ.1 9)) (σ.2.1 28) (τ26.2.1 28) from Y8) (show ca (τ26.2.1 28) ((τ26.1 9)) = ca (σ.2.1 28) ((σ.1 9)) from Y9) (show (σ.1 16) ≤ (τ26.1 16) from by (first | omega | (simp only [st_s] <;> omega) | assumption | omega | fail)) (show n_sp2 (τ26.2.1 25 (τ26.1 22)) (τ26.1 9) (τ26.1 22) (τ26.2.1 27) (τ26.2.1 28) from NSP)
                  ·
                    refine ⟨_, K_X13_next hT (show (τ26.1 16) ≤ (τ26.1 0) from by (first | omega | (simp only [st_s] <;> omega) | assumption | omega | fail)), ?_⟩
                    intro τ22 hn_τ22 hf_τ22 hq
                    obtain ⟨hT, q20_1, q20_2, q20_3, q20_4, q20_5⟩ := hq
                    replace q20_1 : (τ22.1 16) ≤ (τ22.1 0) := q20_1
                    replace q20_2 : (τ22.1 17) + (τ22.1 18) ≤ (τ22.1 0) := q20_2
                    replace q20_3 : (τ26.1 16) ≤ (τ22.1 16) := q20_3
                    replace q20_4 : ¬ (τ26.1 20) = 0 → (τ22.1 20) = (τ26.1 20) := q20_4
                    replace q20_5 : (τ22.1 20) = 0 → ¬ (τ22.1 19) = 0 → (τ26.1 16) < (τ22.1 16) ∧ 0 < (τ22.1 18) := q20_5
                    replace ag : m_ag σ τ22 := ag_r ag hf_τ22 rfl rfl
                    have w0_τ22 : τ22.1 0 = τ26.1 0 := hf_τ22.1 0 (by decide)
                    have w3_τ22 : τ22.1 3 = τ26.1 3 := hf_τ22.1 3 (by decide)
                    have w5_τ22 : τ22.1 5 = τ26.1 5 := hf_τ22.1 5 (by decide)
                    have w6_τ22 : τ22.1 6 = τ26.1 6 := hf_τ22.1 6 (by decide)
                    have w7_τ22 : τ22.1 7 = τ26.1 7 := hf_τ22.1 7 (by decide)
                    have w8_τ22 : τ22.1 8 = τ26.1 8 := hf_τ22.1 8 (by decide)
                    have w9_τ22 : τ22.1 9 = τ26.1 9 := hf_τ22.1 9 (by decide)
                    have w22_τ22 : τ22.1 22 = τ26.1 22 := hf_τ22.1 22 (by decide)
                    have g0_τ22 : τ22.2.1 0 = τ26.2.1 0 := hf_τ22.2.1 0 (by decide)
                    have g6_τ22 : τ22.2.1 6 = τ26.2.1 6 := hf_τ22.2.1 6 (by decide)
                    have g7_τ22 : τ22.2.1 7 = τ26.2.1 7 := hf_τ22.2.1 7 (by decide)
                    have g25_τ22 : τ22.2.1 25 = τ26.2.1 25 := hf_τ22.2.1 25 (by decide)
                    have g26_τ22 : τ22.2.1 26 = τ26.2.1 26 := hf_τ22.2.1 26 (by decide)
                    have g27_τ22 : τ22.2.1 27 = τ26.2.1 27 := hf_τ22.2.1 27 (by decide)
                    have g28_τ22 : τ22.2.1 28 = τ26.2.1 28 := hf_τ22.2.1 28 (by decide)
                    first | (have o6_τ22 := congrArg oc g6_τ22) | skip
                    first | (have o7_τ22 := congrArg oc g7_τ22) | skip
                    have W0 : τ22.1 0 = σ.1 0 := by first | exact w0_τ22.trans W0 | omega
                    have W3 : τ22.1 3 = σ.1 3 := by first | exact w3_τ22.trans W3 | omega
                    have W5 : τ22.1 5 = σ.1 5 := by first | exact w5_τ22.trans W5 | omega
                    have W6 : τ22.1 6 = σ.1 6 := by first | exact w6_τ22.trans W6 | omega
                    have W7 : τ22.1 7 = σ.1 7 := by first | exact w7_τ22.trans W7 | omega
                    have W8 : τ22.1 8 = σ.1 8 := by first | exact w8_τ22.trans W8 | omega
                    have W22 : τ22.1 22 = σ.1 22 := by first | exact w22_τ22.trans W22 | omega
                    have G0 : τ22.2.1 0 = σ.2.1 0 := (g0_τ22).trans G0
                    have G6 : τ22.2.1 6 = σ.2.1 6 := (g6_τ22).trans G6
                    have G7 : τ22.2.1 7 = σ.2.1 7 := (g7_τ22).trans G7
                    have G25 : τ22.2.1 25 = σ.2.1 25 := (g25_τ22).trans G25
                    have y25_22_τ22 : τ22.2.1 25 (τ22.1 22) = (τ26.2.1 25) (τ26.1 22) := by rw [g25_τ22, w22_τ22]
                    have y26_22_τ22 : τ22.2.1 26 (τ22.1 22) = (τ26.2.1 26) (τ26.1 22) := by rw [g26_τ22, w22_τ22]
                    have y28_9_τ22 : τ22.2.1 28 (τ22.1 9) = (τ26.2.1 28) (τ26.1 9) := by rw [g28_τ22, w9_τ22]
                    have Z4 : τ22.2.1 25 (τ22.1 22) + τ22.2.1 26 (τ22.1 22) = (τ22.1 9) := by rw [show (τ22.2.1 25 (τ22.1 22) + τ22.2.1 26 (τ22.1 22) = (τ22.1 9)) = (τ26.2.1 25 (τ26.1 22) + τ26.2.1 26 (τ26.1 22) = (τ26.1 9)) from by rw [w9_τ22, w22_τ22, g25_τ22, g26_τ22]]; exact Z4
                    have Y8 : j_eq ((σ.1 9)) (σ.2.1 28) (τ22.2.1 28) := by rw [show (j_eq ((σ.1 9)) (σ.2.1 28) (τ22.2.1 28)) = (j_eq ((σ.1 9)) (σ.2.1 28) (τ26.2.1 28)) from by rw [g28_τ22]]; exact Y8
                    have Y9 : ca (τ22.2.1 28) ((τ22.1 9)) = ca (σ.2.1 28) ((σ.1 9)) := by rw [show (ca (τ22.2.1 28) ((τ22.1 9)) = ca (σ.2.1 28) ((σ.1 9))) = (ca (τ26.2.1 28) ((τ26.1 9)) = ca (σ.2.1 28) ((σ.1 9))) from by rw [w9_τ22, g28_τ22]]; exact Y9
                    have NSP : n_sp2 (τ22.2.1 25 (τ22.1 22)) (τ22.1 9) (τ22.1 22) (τ22.2.1 27) (τ22.2.1 28) := by rw [show (n_sp2 (τ22.2.1 25 (τ22.1 22)) (τ22.1 9) (τ22.1 22) (τ22.2.1 27) (τ22.2.1 28)) = (n_sp2 (τ26.2.1 25 (τ26.1 22)) (τ26.1 9) (τ26.1 22) (τ26.2.1 27) (τ26.2.1 28)) from by rw [w9_τ22, w22_τ22, g25_τ22, g27_τ22, g28_τ22]]; exact NSP
                    have A0 : ∀ j, 0 ≤ τ22.2.1 0 j ∧ τ22.2.1 0 j ≤ 255 := fun j => hT.2 0 j
                    have A6 : ∀ j, (-1) ≤ τ22.2.1 6 j ∧ τ22.2.1 6 j ≤ 999 := fun j => hT.2 6 j
                    have A7 : ∀ j, (-1) ≤ τ22.2.1 7 j ∧ τ22.2.1 7 j ≤ 1499 := fun j => hT.2 7 j
                    have A25 : ∀ j, 0 ≤ τ22.2.1 25 j ∧ τ22.2.1 25 j ≤ 20000 := fun j => hT.2 25 j
                    have A26 : ∀ j, 0 ≤ τ22.2.1 26 j ∧ τ22.2.1 26 j ≤ 20000 := fun j => hT.2 26 j
                    have A27 : ∀ j, (-300) ≤ τ22.2.1 27 j ∧ τ22.2.1 27 j ≤ 1499 := fun j => hT.2 27 j
                    have A28 : ∀ j, 0 ≤ τ22.2.1 28 j ∧ τ22.2.1 28 j ≤ 1 := fun j => hT.2 28 j
                    have v0 : 0 ≤ τ22.1 0 ∧ τ22.1 0 ≤ 60000 := hT.1 0
                    have v3 : 0 ≤ τ22.1 3 ∧ τ22.1 3 ≤ 1000 := hT.1 3
                    have v5 : 0 ≤ τ22.1 5 ∧ τ22.1 5 ≤ 1500 := hT.1 5
                    have v6 : 0 ≤ τ22.1 6 ∧ τ22.1 6 ≤ 30000 := hT.1 6
                    have v7 : 0 ≤ τ22.1 7 ∧ τ22.1 7 ≤ 90000 := hT.1 7
                    have v8 : 0 ≤ τ22.1 8 ∧ τ22.1 8 ≤ 20000 := hT.1 8
                    have v9 : 0 ≤ τ22.1 9 ∧ τ22.1 9 ≤ 20000 := hT.1 9
                    have v16 : 0 ≤ τ22.1 16 ∧ τ22.1 16 ≤ 60000 := hT.1 16
                    have v17 : 0 ≤ τ22.1 17 ∧ τ22.1 17 ≤ 60000 := hT.1 17
                    have v18 : 0 ≤ τ22.1 18 ∧ τ22.1 18 ≤ 60000 := hT.1 18
                    have v19 : (-1) ≤ τ22.1 19 ∧ τ22.1 19 ≤ 125 := hT.1 19
                    have v20 : 0 ≤ τ22.1 20 ∧ τ22.1 20 ≤ 19 := hT.1 20
                    have v22 : 0 ≤ τ22.1 22 ∧ τ22.1 22 ≤ 1499 := hT.1 22
                    have a0_17 : 0 ≤ τ22.2.1 0 (τ22.1 17) ∧ τ22.2.1 0 (τ22.1 17) ≤ 255 := hT.2 0 _
                    have a25_22 : 0 ≤ τ22.2.1 25 (τ22.1 22) ∧ τ22.2.1 25 (τ22.1 22) ≤ 20000 := hT.2 25 _
                    have a26_22 : 0 ≤ τ22.2.1 26 (τ22.1 22) ∧ τ22.2.1 26 (τ22.1 22) ≤ 20000 := hT.2 26 _
                    have a28_9 : 0 ≤ τ22.2.1 28 (τ22.1 9) ∧ τ22.2.1 28 (τ22.1 9) ≤ 1 := hT.2 28 _
                    have av9 : σ.1 9 ≤ τ22.1 9 := ag.1 9 (by decide)
                    exact ih_0 _ (show (3 * ((τ22.1 0) - (τ22.1 16)) + z_0 ((τ22.1 20)) + 1 - z_0 ((τ22.1 19)) : Int) < ((m_0 : Nat) : Int) from by (have zz0 := z_e ((τ22.1 20)); have zz1 := z_e ((τ22.1 19)); (first | omega | (simp only [st_s] <;> omega) | assumption | omega | fail))) hT ag (show τ22.1 0 = σ.1 0 from by first | exact W0 | omega) (show τ22.1 3 = σ.1 3 from by first | exact W3 | omega) (show τ22.1 5 = σ.1 5 from by first | exact W5 | omega) (show τ22.1 6 = σ.1 6 from by first | exact W6 | omega) (show τ22.1 7 = σ.1 7 from by first | exact W7 | omega) (show τ22.1 8 = σ.1 8 from by first | exact W8 | omega) (show τ22.1 22 = σ.1 22 from by first | exact W22 | omega) G0 G6 G7 G25 (show (τ22.1 16) ≤ (τ22.1 0) from by (first | omega | (simp only [st_s] <;> omega) | assumption | omega | fail)) (show (τ22.1 17) + (τ22.1 18) ≤ (τ22.1 0) from by (first | omega | (simp only [st_s] <;> omega) | assumption | omega | fail)) (show oc (τ22.2.1 6) < 4096 from by (first | omega | (simp only [st_s] <;> omega) | assumption | omega | fail)) (show oc (τ22.2.1 7) < 4096 from by (first | omega | (simp only [st_s] <;> omega) | assumption | omega | fail)) (show τ22.2.1 25 (τ22.1 22) + τ22.2.1 26 (τ22.1 22) = (τ22.1 9) from Z4) (show ¬ (σ.1 20) = 0 → (τ22.1 20) = (σ.1 20) from by (first | omega | (simp only [st_s] <;> omega) | assumption | omega | fail)) (show j_eq ((σ.1 9)) (σ.2.1 28) (τ22.2.1 28) from Y8) (show ca (τ22.2.1 28) ((τ22.1 9)) = ca (σ.2.1 28) ((σ.1 9)) from Y9) (show (σ.1 16) ≤ (τ22.1 16) from by (first | omega | (simp only [st_s] <;> omega) | assumption | omega | fail)) (show n_sp2 (τ22.2.1 25 (τ22.1 22)) (τ22.1 9) (τ22.1 22) (τ22.2.1 27) (τ22.2.1 28) from NSP)
                ·
                  refine ⟨_, K_X13_failHere hT (show 0 ≤ (13 : Int) from by (first | omega | (simp only [st_s] <;> omega) | assumption | omega | fail)) (show (13 : Int) ≤ 19 from by (first | omega | (simp only [st_s] <;> omega) | assumption | omega | fail)), ?_⟩
                  intro τ29 hn_τ29 hf_τ29 hq
                  obtain ⟨hT, q27_1, q27_2⟩ := hq
                  replace q27_1 : ¬ (τ_0.1 20) = 0 → (τ29.1 20) = (τ_0.1 20) := q27_1
                  replace q27_2 : (τ_0.1 20) = 0 → (τ29.1 20) = (13 : Int) := q27_2
                  replace ag : m_ag σ τ29 := ag_r ag hf_τ29 rfl rfl
                  have w0_τ29 : τ29.1 0 = τ_0.1 0 := hf_τ29.1 0 (by decide)
                  have w3_τ29 : τ29.1 3 = τ_0.1 3 := hf_τ29.1 3 (by decide)
                  have w5_τ29 : τ29.1 5 = τ_0.1 5 := hf_τ29.1 5 (by decide)
                  have w6_τ29 : τ29.1 6 = τ_0.1 6 := hf_τ29.1 6 (by decide)
                  have w7_τ29 : τ29.1 7 = τ_0.1 7 := hf_τ29.1 7 (by decide)
                  have w8_τ29 : τ29.1 8 = τ_0.1 8 := hf_τ29.1 8 (by decide)
                  have w9_τ29 : τ29.1 9 = τ_0.1 9 := hf_τ29.1 9 (by decide)
                  have w16_τ29 : τ29.1 16 = τ_0.1 16 := hf_τ29.1 16 (by decide)
                  have w17_τ29 : τ29.1 17 = τ_0.1 17 := hf_τ29.1 17 (by decide)
                  have w18_τ29 : τ29.1 18 = τ_0.1 18 := hf_τ29.1 18 (by decide)
                  have w19_τ29 : τ29.1 19 = τ_0.1 19 := hf_τ29.1 19 (by decide)
                  have w22_τ29 : τ29.1 22 = τ_0.1 22 := hf_τ29.1 22 (by decide)
                  have g0_τ29 : τ29.2.1 0 = τ_0.2.1 0 := hf_τ29.2.1 0 (by decide)
                  have g6_τ29 : τ29.2.1 6 = τ_0.2.1 6 := hf_τ29.2.1 6 (by decide)
                  have g7_τ29 : τ29.2.1 7 = τ_0.2.1 7 := hf_τ29.2.1 7 (by decide)
                  have g25_τ29 : τ29.2.1 25 = τ_0.2.1 25 := hf_τ29.2.1 25 (by decide)
                  have g26_τ29 : τ29.2.1 26 = τ_0.2.1 26 := hf_τ29.2.1 26 (by decide)
                  have g27_τ29 : τ29.2.1 27 = τ_0.2.1 27 := hf_τ29.2.1 27 (by decide)
                  have g28_τ29 : τ29.2.1 28 = τ_0.2.1 28 := hf_τ29.2.1 28 (by decide)
                  first | (have o6_τ29 := congrArg oc g6_τ29) | skip
                  first | (have o7_τ29 := congrArg oc g7_τ29) | skip
                  have W0 : τ29.1 0 = σ.1 0 := by first | exact w0_τ29.trans W0 | omega
                  have W3 : τ29.1 3 = σ.1 3 := by first | exact w3_τ29.trans W3 | omega
                  have W5 : τ29.1 5 = σ.1 5 := by first | exact w5_τ29.trans W5 | omega
                  have W6 : τ29.1 6 = σ.1 6 := by first | exact w6_τ29.trans W6 | omega
                  have W7 : τ29.1 7 = σ.1 7 := by first | exact w7_τ29.trans W7 | omega
                  have W8 : τ29.1 8 = σ.1 8 := by first | exact w8_τ29.trans W8 | omega
                  have W22 : τ29.1 22 = σ.1 22 := by first | exact w22_τ29.trans W22 | omega
                  have G0 : τ29.2.1 0 = σ.2.1 0 := (g0_τ29).trans G0
                  have G6 : τ29.2.1 6 = σ.2.1 6 := (g6_τ29).trans G6
                  have G7 : τ29.2.1 7 = σ.2.1 7 := (g7_τ29).trans G7
                  have G25 : τ29.2.1 25 = σ.2.1 25 := (g25_τ29).trans G25
                  have y0_17_τ29 : τ29.2.1 0 (τ29.1 17) = (τ_0.2.1 0) (τ_0.1 17) := by rw [g0_τ29, w17_τ29]
                  have y25_22_τ29 : τ29.2.1 25 (τ29.1 22) = (τ_0.2.1 25) (τ_0.1 22) := by rw [g25_τ29, w22_τ29]
                  have y26_22_τ29 : τ29.2.1 26 (τ29.1 22) = (τ_0.2.1 26) (τ_0.1 22) := by rw [g26_τ29, w22_τ29]
                  have y28_9_τ29 : τ29.2.1 28 (τ29.1 9) = (τ_0.2.1 28) (τ_0.1 9) := by rw [g28_τ29, w9_τ29]
                  have Z4 : τ29.2.1 25 (τ29.1 22) + τ29.2.1 26 (τ29.1 22) = (τ29.1 9) := by rw [show (τ29.2.1 25 (τ29.1 22) + τ29.2.1 26 (τ29.1 22) = (τ29.1 9)) = (τ_0.2.1 25 (τ_0.1 22) + τ_0.2.1 26 (τ_0.1 22) = (τ_0.1 9)) from by rw [w9_τ29, w22_τ29, g25_τ29, g26_τ29]]; exact Z4
                  have Y8 : j_eq ((σ.1 9)) (σ.2.1 28) (τ29.2.1 28) := by rw [show (j_eq ((σ.1 9)) (σ.2.1 28) (τ29.2.1 28)) = (j_eq ((σ.1 9)) (σ.2.1 28) (τ_0.2.1 28)) from by rw [g28_τ29]]; exact Y8
                  have Y9 : ca (τ29.2.1 28) ((τ29.1 9)) = ca (σ.2.1 28) ((σ.1 9)) := by rw [show (ca (τ29.2.1 28) ((τ29.1 9)) = ca (σ.2.1 28) ((σ.1 9))) = (ca (τ_0.2.1 28) ((τ_0.1 9)) = ca (σ.2.1 28) ((σ.1 9))) from by rw [w9_τ29, g28_τ29]]; exact Y9
                  have NSP : n_sp2 (τ29.2.1 25 (τ29.1 22)) (τ29.1 9) (τ29.1 22) (τ29.2.1 27) (τ29.2.1 28) := by rw [show (n_sp2 (τ29.2.1 25 (τ29.1 22)) (τ29.1 9) (τ29.1 22) (τ29.2.1 27) (τ29.2.1 28)) = (n_sp2 (τ_0.2.1 25 (τ_0.1 22)) (τ_0.1 9) (τ_0.1 22) (τ_0.2.1 27) (τ_0.2.1 28)) from by rw [w9_τ29, w22_τ29, g25_τ29, g27_τ29, g28_τ29]]; exact NSP
                  have A0 : ∀ j, 0 ≤ τ29.2.1 0 j ∧ τ29.2.1 0 j ≤ 255 := fun j => hT.2 0 j
                  have A6 : ∀ j, (-1) ≤ τ29.2.1 6 j ∧ τ29.2.1 6 j ≤ 999 := fun j => hT.2 6 j
                  have A7 : ∀ j, (-1) ≤ τ29.2.1 7 j ∧ τ29.2.1 7 j ≤ 1499 := fun j => hT.2 7 j
                  have A25 : ∀ j, 0 ≤ τ29.2.1 25 j ∧ τ29.2.1 25 j ≤ 20000 := fun j => hT.2 25 j
                  have A26 : ∀ j, 0 ≤ τ29.2.1 26 j ∧ τ29.2.1 26 j ≤ 20000 := fun j => hT.2 26 j
                  have A27 : ∀ j, (-300) ≤ τ29.2.1 27 j ∧ τ29.2.1 27 j ≤ 1499 := fun j => hT.2 27 j
                  have A28 : ∀ j, 0 ≤ τ29.2.1 28 j ∧ τ29.2.1 28 j ≤ 1 := fun j => hT.2 28 j
                  have v0 : 0 ≤ τ29.1 0 ∧ τ29.1 0 ≤ 60000 := hT.1 0
                  have v3 : 0 ≤ τ29.1 3 ∧ τ29.1 3 ≤ 1000 := hT.1 3
                  have v5 : 0 ≤ τ29.1 5 ∧ τ29.1 5 ≤ 1500 := hT.1 5
                  have v6 : 0 ≤ τ29.1 6 ∧ τ29.1 6 ≤ 30000 := hT.1 6
                  have v7 : 0 ≤ τ29.1 7 ∧ τ29.1 7 ≤ 90000 := hT.1 7
                  have v8 : 0 ≤ τ29.1 8 ∧ τ29.1 8 ≤ 20000 := hT.1 8
                  have v9 : 0 ≤ τ29.1 9 ∧ τ29.1 9 ≤ 20000 := hT.1 9
                  have v16 : 0 ≤ τ29.1 16 ∧ τ29.1 16 ≤ 60000 := hT.1 16
                  have v17 : 0 ≤ τ29.1 17 ∧ τ29.1 17 ≤ 60000 := hT.1 17
                  have v18 : 0 ≤ τ29.1 18 ∧ τ29.1 18 ≤ 60000 := hT.1 18
                  have v19 : (-1) ≤ τ29.1 19 ∧ τ29.1 19 ≤ 125 := hT.1 19
                  have v20 : 0 ≤ τ29.1 20 ∧ τ29.1 20 ≤ 19 := hT.1 20
                  have v22 : 0 ≤ τ29.1 22 ∧ τ29.1 22 ≤ 1499 := hT.1 22
                  have a0_17 : 0 ≤ τ29.2.1 0 (τ29.1 17) ∧ τ29.2.1 0 (τ29.1 17) ≤ 255 := hT.2 0 _
                  have a25_22 : 0 ≤ τ29.2.1 25 (τ29.1 22) ∧ τ29.2.1 25 (τ29.1 22) ≤ 20000 := hT.2 25 _
                  have a26_22 : 0 ≤ τ29.2.1 26 (τ29.1 22) ∧ τ29.2.1 26 (τ29.1 22) ≤ 20000 := hT.2 26 _
                  have a28_9 : 0 ≤ τ29.2.1 28 (τ29.1 9) ∧ τ29.2.1 28 (τ29.1 9) ≤ 1 := hT.2 28 _
                  have av9 : σ.1 9 ≤ τ29.1 9 := ag.1 9 (by decide)
                  refine h111 _ ?_
                  refine ⟨fun c19 => ?_, fun c19 => ?_⟩
                  ·
                    exact ih_0 _ (show (3 * ((τ29.1 0) - (τ29.1 16)) + z_0 ((τ29.1 20)) + 1 - z_0 ((τ29.1 19)) : Int) < ((m_0 : Nat) : Int) from by (have zz0 := z_e ((τ29.1 20)); have zz1 := z_e ((τ29.1 19)); (first | omega | (simp only [st_s] <;> omega) | assumption | omega | fail))) hT ag (show τ29.1 0 = σ.1 0 from by first | exact W0 | omega) (show τ29.1 3 = σ.1 3 from by first | exact W3 | omega) (show τ29.1 5 = σ.1 5 from by first | exact W5 | omega) (show τ29.1 6 = σ.1 6 from by first | exact W6 | omega) (show τ29.1 7 = σ.1 7 from by first | exact W7 | omega) (show τ29.1 8 = σ.1 8 from by first | exact W8 | omega) (show τ29.1 22 = σ.1 22 from by first | exact W22 | omega) G0 G6 G7 G25 (show (τ29.1 16) ≤ (τ29.1 0) from by (first | omega | (simp only [st_s] <;> omega) | assumption | omega | fail)) (show (τ29.1 17) + (τ29.1 18) ≤ (τ29.1 0) from by (first | omega | (simp only [st_s] <;> omega) | assumption | omega | fail)) (show oc (τ29.2.1 6) < 4096 from by (first | omega | (simp only [st_s] <;> omega) | assumption | omega | fail)) (show oc (τ29.2.1 7) < 4096 from by (first | omega | (simp only [st_s] <;> omega) | assumption | omega | fail)) (show τ29.2.1 25 (τ29.1 22) + τ29.2.1 26 (τ29.1 22) = (τ29.1 9) from Z4) (show ¬ (σ.1 20) = 0 → (τ29.1 20) = (σ.1 20) from by (first | omega | (simp only [st_s] <;> omega) | assumption | omega | fail)) (show j_eq ((σ.1 9)) (σ.2.1 28) (τ29.2.1 28) from Y8) (show ca (τ29.2.1 28) ((τ29.1 9)) = ca (σ.2.1 28) ((σ.1 9)) from Y9) (show (σ.1 16) ≤ (τ29.1 16) from by (first | omega | (simp only [st_s] <;> omega) | assumption | omega | fail)) (show n_sp2 (τ29.2.1 25 (τ29.1 22)) (τ29.1 9) (τ29.1 22) (τ29.2.1 27) (τ29.2.1 28) from NSP)
                  ·
                    refine ⟨_, K_X13_next hT (show (τ29.1 16) ≤ (τ29.1 0) from by (first | omega | (simp only [st_s] <;> omega) | assumption | omega | fail)), ?_⟩
                    intro τ22 hn_τ22 hf_τ22 hq
                    obtain ⟨hT, q20_1, q20_2, q20_3, q20_4, q20_5⟩ := hq
                    replace q20_1 : (τ22.1 16) ≤ (τ22.1 0) := q20_1
                    replace q20_2 : (τ22.1 17) + (τ22.1 18) ≤ (τ22.1 0) := q20_2
                    replace q20_3 : (τ29.1 16) ≤ (τ22.1 16) := q20_3
                    replace q20_4 : ¬ (τ29.1 20) = 0 → (τ22.1 20) = (τ29.1 20) := q20_4
                    replace q20_5 : (τ22.1 20) = 0 → ¬ (τ22.1 19) = 0 → (τ29.1 16) < (τ22.1 16) ∧ 0 < (τ22.1 18) := q20_5
                    replace ag : m_ag σ τ22 := ag_r ag hf_τ22 rfl rfl
                    have w0_τ22 : τ22.1 0 = τ29.1 0 := hf_τ22.1 0 (by decide)
                    have w3_τ22 : τ22.1 3 = τ29.1 3 := hf_τ22.1 3 (by decide)
                    have w5_τ22 : τ22.1 5 = τ29.1 5 := hf_τ22.1 5 (by decide)
                    have w6_τ22 : τ22.1 6 = τ29.1 6 := hf_τ22.1 6 (by decide)
                    have w7_τ22 : τ22.1 7 = τ29.1 7 := hf_τ22.1 7 (by decide)
                    have w8_τ22 : τ22.1 8 = τ29.1 8 := hf_τ22.1 8 (by decide)
                    have w9_τ22 : τ22.1 9 = τ29.1 9 := hf_τ22.1 9 (by decide)
                    have w22_τ22 : τ22.1 22 = τ29.1 22 := hf_τ22.1 22 (by decide)
                    have g0_τ22 : τ22.2.1 0 = τ29.2.1 0 := hf_τ22.2.1 0 (by decide)
                    have g6_τ22 : τ22.2.1 6 = τ29.2.1 6 := hf_τ22.2.1 6 (by decide)
                    have g7_τ22 : τ22.2.1 7 = τ29.2.1 7 := hf_τ22.2.1 7 (by decide)
                    have g25_τ22 : τ22.2.1 25 = τ29.2.1 25 := hf_τ22.2.1 25 (by decide)
                    have g26_τ22 : τ22.2.1 26 = τ29.2.1 26 := hf_τ22.2.1 26 (by decide)
                    have g27_τ22 : τ22.2.1 27 = τ29.2.1 27 := hf_τ22.2.1 27 (by decide)
                    have g28_τ22 : τ22.2.1 28 = τ29.2.1 28 := hf_τ22.2.1 28 (by decide)
                    first | (have o6_τ22 := congrArg oc g6_τ22) | skip
                    first | (have o7_τ22 := congrArg oc g7_τ22) | skip
                    have W0 : τ22.1 0 = σ.1 0 := by first | exact w0_τ22.trans W0 | omega
                    have W3 : τ22.1 3 = σ.1 3 := by first | exact w3_τ22.trans W3 | omega
                    have W5 : τ22.1 5 = σ.1 5 := by first | exact w5_τ22.trans W5 | omega
                    have W6 : τ22.1 6 = σ.1 6 := by first | exact w6_τ22.trans W6 | omega
                    have W7 : τ22.1 7 = σ.1 7 := by first | exact w7_τ22.trans W7 | omega
                    have W8 : τ22.1 8 = σ.1 8 := by first | exact w8_τ22.trans W8 | omega
                    have W22 : τ22.1 22 = σ.1 22 := by first | exact w22_τ22.trans W22 | omega
                    have G0 : τ22.2.1 0 = σ.2.1 0 := (g0_τ22).trans G0
                    have G6 : τ22.2.1 6 = σ.2.1 6 := (g6_τ22).trans G6
                    have G7 : τ22.2.1 7 = σ.2.1 7 := (g7_τ22).trans G7
                    have G25 : τ22.2.1 25 = σ.2.1 25 := (g25_τ22).trans G25
                    have y25_22_τ22 : τ22.2.1 25 (τ22.1 22) = (τ29.2.1 25) (τ29.1 22) := by rw [g25_τ22, w22_τ22]
                    have y26_22_τ22 : τ22.2.1 26 (τ22.1 22) = (τ29.2.1 26) (τ29.1 22) := by rw [g26_τ22, w22_τ22]
                    have y28_9_τ22 : τ22.2.1 28 (τ22.1 9) = (τ29.2.1 28) (τ29.1 9) := by rw [g28_τ22, w9_τ22]
                    have Z4 : τ22.2.1 25 (τ22.1 22) + τ22.2.1 26 (τ22.1 22) = (τ22.1 9) := by rw [show (τ22.2.1 25 (τ22.1 22) + τ22.2.1 26 (τ22.1 22) = (τ22.1 9)) = (τ29.2.1 25 (τ29.1 22) + τ29.2.1 26 (τ29.1 22) = (τ29.1 9)) from by rw [w9_τ22, w22_τ22, g25_τ22, g26_τ22]]; exact Z4
                    have Y8 : j_eq ((σ.1 9)) (σ.2.1 28) (τ22.2.1 28) := by rw [show (j_eq ((σ.1 9)) (σ.2.1 28) (τ22.2.1 28)) = (j_eq ((σ.1 9)) (σ.2.1 28) (τ29.2.1 28)) from by rw [g28_τ22]]; exact Y8
                    have Y9 : ca (τ22.2.1 28) ((τ22.1 9)) = ca (σ.2.1 28) ((σ.1 9)) := by rw [show (ca (τ22.2.1 28) ((τ22.1 9)) = ca (σ.2.1 28) ((σ.1 9))) = (ca (τ29.2.1 28) ((τ29.1 9)) = ca (σ.2.1 28) ((σ.1 9))) from by rw [w9_τ22, g28_τ22]]; exact Y9
                    have NSP : n_sp2 (τ22.2.1 25 (τ22.1 22)) (τ22.1 9) (τ22.1 22) (τ22.2.1 27) (τ22.2.1 28) := by rw [show (n_sp2 (τ22.2.1 25 (τ22.1 22)) (τ22.1 9) (τ22.1 22) (τ22.2.1 27) (τ22.2.1 28)) = (n_sp2 (τ29.2.1 25 (τ29.1 22)) (τ29.1 9) (τ29.1 22) (τ29.2.1 27) (τ29.2.1 28)) from by rw [w9_τ22, w22_τ22, g25_τ22, g27_τ22, g28_τ22]]; exact NSP
                    have A0 : ∀ j, 0 ≤ τ22.2.1 0 j ∧ τ22.2.1 0 j ≤ 255 := fun j => hT.2 0 j
                    have A6 : ∀ j, (-1) ≤ τ22.2.1 6 j ∧ τ22.2.1 6 j ≤ 999 := fun j => hT.2 6 j
                    have A7 : ∀ j, (-1) ≤ τ22.2.1 7 j ∧ τ22.2.1 7 j ≤ 1499 := fun j => hT.2 7 j
                    have A25 : ∀ j, 0 ≤ τ22.2.1 25 j ∧ τ22.2.1 25 j ≤ 20000 := fun j => hT.2 25 j
                    have A26 : ∀ j, 0 ≤ τ22.2.1 26 j ∧ τ22.2.1 26 j ≤ 20000 := fun j => hT.2 26 j
                    have A27 : ∀ j, (-300) ≤ τ22.2.1 27 j ∧ τ22.2.1 27 j ≤ 1499 := fun j => hT.2 27 j
                    have A28 : ∀ j, 0 ≤ τ22.2.1 28 j ∧ τ22.2.1 28 j ≤ 1 := fun j => hT.2 28 j
                    have v0 : 0 ≤ τ22.1 0 ∧ τ22.1 0 ≤ 60000 := hT.1 0
                    have v3 : 0 ≤ τ22.1 3 ∧ τ22.1 3 ≤ 1000 := hT.1 3
                    have v5 : 0 ≤ τ22.1 5 ∧ τ22.1 5 ≤ 1500 := hT.1 5
                    have v6 : 0 ≤ τ22.1 6 ∧ τ22.1 6 ≤ 30000 := hT.1 6
                    have v7 : 0 ≤ τ22.1 7 ∧ τ22.1 7 ≤ 90000 := hT.1 7
                    have v8 : 0 ≤ τ22.1 8 ∧ τ22.1 8 ≤ 20000 := hT.1 8
                    have v9 : 0 ≤ τ22.1 9 ∧ τ22.1 9 ≤ 20000 := hT.1 9
                    have v16 : 0 ≤ τ22.1 16 ∧ τ22.1 16 ≤ 60000 := hT.1 16
                    have v17 : 0 ≤ τ22.1 17 ∧ τ22.1 17 ≤ 60000 := hT.1 17
                    have v18 : 0 ≤ τ22.1 18 ∧ τ22.1 18 ≤ 60000 := hT.1 18
                    have v19 : (-1) ≤ τ22.1 19 ∧ τ22.1 19 ≤ 125 := hT.1 19
                    have v20 : 0 ≤ τ22.1 20 ∧ τ22.1 20 ≤ 19 := hT.1 20
                    have v22 : 0 ≤ τ22.1 22 ∧ τ22.1 22 ≤ 1499 := hT.1 22
                    have a0_17 : 0 ≤ τ22.2.1 0 (τ22.1 17) ∧ τ22.2.1 0 (τ22.1 17) ≤ 255 := hT.2 0 _
                    have a25_22 : 0 ≤ τ22.2.1 25 (τ22.1 22) ∧ τ22.2.1 25 (τ22.1 22) ≤ 20000 := hT.2 25 _
                    have a26_22 : 0 ≤ τ22.2.1 26 (τ22.1 22) ∧ τ22.2.1 26 (τ22.1 22) ≤ 20000 := hT.2 26 _
                    have a28_9 : 0 ≤ τ22.2.1 28 (τ22.1 9) ∧ τ22.2.1 28 (τ22.1 9) ≤ 1 := hT.2 28 _
                    have av9 : σ.1 9 ≤ τ22.1 9 := ag.1 9 (by decide)
                    exact ih_0 _ (show (3 * ((τ22.1 0) - (τ22.1 16)) + z_0 ((τ22.1 20)) + 1 - z_0 ((τ22.1 19)) : Int) < ((m_0 : Nat) : Int) from by (have zz0 := z_e ((τ22.1 20)); have zz1 := z_e ((τ22.1 19)); (first | omega | (simp only [st_s] <;> omega) | assumption | omega | fail))) hT ag (show τ22.1 0 = σ.1 0 from by first | exact W0 | omega) (show τ22.1 3 = σ.1 3 from by first | exact W3 | omega) (show τ22.1 5 = σ.1 5 from by first | exact W5 | omega) (show τ22.1 6 = σ.1 6 from by first | exact W6 | omega) (show τ22.1 7 = σ.1 7 from by first | exact W7 | omega) (show τ22.1 8 = σ.1 8 from by first | exact W8 | omega) (show τ22.1 22 = σ.1 22 from by first | exact W22 | omega) G0 G6 G7 G25 (show (τ22.1 16) ≤ (τ22.1 0) from by (first | omega | (simp only [st_s] <;> omega) | assumption | omega | fail)) (show (τ22.1 17) + (τ22.1 18) ≤ (τ22.1 0) from by (first | omega | (simp only [st_s] <;> omega) | assumption | omega | fail)) (show oc (τ22.2.1 6) < 4096 from by (first | omega | (simp only [st_s] <;> omega) | assumption | omega | fail)) (show oc (τ22.2.1 7) < 4096 from by (first | omega | (simp only [st_s] <;> omega) | assumption | omega | fail)) (show τ22.2.1 25 (τ22.1 22) + τ22.2.1 26 (τ22.1 22) = (τ22.1 9) from Z4) (show ¬ (σ.1 20) = 0 → (τ22.1 20) = (σ.1 20) from by (first | omega | (simp only [st_s] <;> omega) | assumption | omega | fail)) (show j_eq ((σ.1 9)) (σ.2.1 28) (τ22.2.1 28) from Y8) (show ca (τ22.2.1 28) ((τ22.1 9)) = ca (σ.2.1 28) ((σ.1 9)) from Y9) (show (σ.1 16) ≤ (τ22.1 16) from by (first | omega | (simp only [st_s] <;> omega) | assumption | omega | fail)) (show n_sp2 (τ22.2.1 25 (τ22.1 22)) (τ22.1 9) (τ22.1 22) (τ22.2.1 27) (τ22.2.1 28) from NSP)
              ·
                refine ⟨fun c15 => ?_, fun c15 => ?_⟩
                ·
                  refine h88 _ _ ?_
                  refine ⟨fun c23 => ?_, fun c23 => ?_⟩
                  ·
                    refine ⟨_, K_X13_addStep hT (show -300 ≤ x12 from by (first | omega | (simp only [st_s] <;> omega) | assumption | omega | fail)) (show x12 ≤ 1499 from by (first | omega | (simp only [st_s] <;> omega) | assumption | omega | fail)) (show 0 ≤ (τ_0.1 17) from by (first | omega | (simp only [st_s] <;> omega) | assumption | omega | fail)) (show (τ_0.1 17) ≤ 60000 from by (first | omega | (simp only [st_s] <;> omega) | assumption | omega | fail)) (show (τ_0.1 9) < 20000 from by (first | omega | (simp only [st_s] <;> omega) | assumption | omega | fail)) (show τ_0.2.1 26 (τ_0.1 22) < 20000 from by (first | omega | (simp only [st_s] <;> omega) | assumption | omega | fail)) (show (τ_0.1 22) = (τ_0.1 5) from by (first | omega | (simp only [st_s] <;> omega) | assumption | omega | fail)), ?_⟩
                    intro τ26 hn_τ26 hf_τ26 hq
                    obtain ⟨hT, q24_1, q24_2, q24_3, q24_4, q24_5, q24_6, q24_7⟩ := hq
                    replace q24_1 : (τ26.1 9) = (τ_0.1 9) + 1 := q24_1
                    replace q24_2 : τ26.2.1 26 (τ26.1 22) = τ_0.2.1 26 (τ_0.1 22) + 1 := q24_2
                    replace q24_3 : τ26.2.1 27 = st (τ_0.2.1 27) (τ_0.1 9) x12 := q24_3
                    replace q24_4 : j_eq ((τ_0.1 9)) (τ_0.2.1 28) (τ26.2.1 28) := q24_4
                    replace q24_5 : ca (τ26.2.1 28) ((τ26.1 9)) = ca (τ_0.2.1 28) ((τ_0.1 9)) := q24_5
                    replace q24_6 : τ26.2.1 28 (τ_0.1 9) = 0 := q24_6
                    replace q24_7 : m_ag τ_0 τ26 := q24_7
                    replace ag : m_ag σ τ26 := ag_t ag q24_7 rfl
                    have w0_τ26 : τ26.1 0 = τ_0.1 0 := hf_τ26.1 0 (by decide)
                    have w3_τ26 : τ26.1 3 = τ_0.1 3 := hf_τ26.1 3 (by decide)
                    have w5_τ26 : τ26.1 5 = τ_0.1 5 := hf_τ26.1 5 (by decide)
                    have w6_τ26 : τ26.1 6 = τ_0.1 6 := hf_τ26.1 6 (by decide)
                    have w7_τ26 : τ26.1 7 = τ_0.1 7 := hf_τ26.1 7 (by decide)
                    have w8_τ26 : τ26.1 8 = τ_0.1 8 := hf_τ26.1 8 (by decide)
                    have w16_τ26 : τ26.1 16 = τ_0.1 16 := hf_τ26.1 16 (by decide)
                    have w17_τ26 : τ26.1 17 = τ_0.1 17 := hf_τ26.1 17 (by decide)
                    have w18_τ26 : τ26.1 18 = τ_0.1 18 := hf_τ26.1 18 (by decide)
                    have w19_τ26 : τ26.1 19 = τ_0.1 19 := hf_τ26.1 19 (by decide)
                    have w20_τ26 : τ26.1 20 = τ_0.1 20 := hf_τ26.1 20 (by decide)
                    have w22_τ26 : τ26.1 22 = τ_0.1 22 := hf_τ26.1 22 (by decide)
                    have g0_τ26 : τ26.2.1 0 = τ_0.2.1 0 := hf_τ26.2.1 0 (by decide)
                    have g6_τ26 : τ26.2.1 6 = τ_0.2.1 6 := hf_τ26.2.1 6 (by decide)
                    have g7_τ26 : τ26.2.1 7 = τ_0.2.1 7 := hf_τ26.2.1 7 (by decide)
                    have g25_τ26 : τ26.2.1 25 = τ_0.2.1 25 := hf_τ26.2.1 25 (by decide)
                    first | (have o6_τ26 := congrArg oc g6_τ26) | skip
                    first | (have o7_τ26 := congrArg oc g7_τ26) | skip
                    have W0 : τ26.1 0 = σ.1 0 := by first | exact w0_τ26.trans W0 | omega
                    have W3 : τ26.1 3 = σ.1 3 := by first | exact w3_τ26.trans W3 | omega
                    have W5 : τ26.1 5 = σ.1 5 := by first | exact w5_τ26.trans W5 | omega
                    have W6 : τ26.1 6 = σ.1 6 := by first | exact w6_τ26.trans W6 | omega
                    have W7 : τ26.1 7 = σ.1 7 := by first | exact w7_τ26.trans W7 | omega
                    have W8 : τ26.1 8 = σ.1 8 := by first | exact w8_τ26.trans W8 | omega
                    have W22 : τ26.1 22 = σ.1 22 := by first | exact w22_τ26.trans W22 | omega
                    have G0 : τ26.2.1 0 = σ.2.1 0 := (g0_τ26).trans G0
                    have G6 : τ26.2.1 6 = σ.2.1 6 := (g6_τ26).trans G6
                    have G7 : τ26.2.1 7 = σ.2.1 7 := (g7_τ26).trans G7
                    have G25 : τ26.2.1 25 = σ.2.1 25 := (g25_τ26).trans G25
                    have y0_17_τ26 : τ26.2.1 0 (τ26.1 17) = (τ_0.2.1 0) (τ_0.1 17) := by rw [g0_τ26, w17_τ26]
                    have y25_22_τ26 : τ26.2.1 25 (τ26.1 22) = (τ_0.2.1 25) (τ_0.1 22) := by rw [g25_τ26, w22_τ26]
                    have A0 : ∀ j, 0 ≤ τ26.2.1 0 j ∧ τ26.2.1 0 j ≤ 255 := fun j => hT.2 0 j
                    have A6 : ∀ j, (-1) ≤ τ26.2.1 6 j ∧ τ26.2.1 6 j ≤ 999 := fun j => hT.2 6 j
                    have A7 : ∀ j, (-1) ≤ τ26.2.1 7 j ∧ τ26.2.1 7 j ≤ 1499 := fun j => hT.2 7 j
                    have A25 : ∀ j, 0 ≤ τ26.2.1 25 j ∧ τ26.2.1 25 j ≤ 20000 := fun j => hT.2 25 j
                    have A26 : ∀ j, 0 ≤ τ26.2.1 26 j ∧ τ26.2.1 26 j ≤ 20000 := fun j => hT.2 26 j
                    have A27 : ∀ j, (-300) ≤ τ26.2.1 27 j ∧ τ26.2.1 27 j ≤ 1499 := fun j => hT.2 27 j
                    have A28 : ∀ j, 0 ≤ τ26.2.1 28 j ∧ τ26.2.1 28 j ≤ 1 := fun j => hT.2 28 j
                    have v0 : 0 ≤ τ26.1 0 ∧ τ26.1 0 ≤ 60000 := hT.1 0
                    have v3 : 0 ≤ τ26.1 3 ∧ τ26.1 3 ≤ 1000 := hT.1 3
                    have v5 : 0 ≤ τ26.1 5 ∧ τ26.1 5 ≤ 1500 := hT.1 5
                    have v6 : 0 ≤ τ26.1 6 ∧ τ26.1 6 ≤ 30000 := hT.1 6
                    have v7 : 0 ≤ τ26.1 7 ∧ τ26.1 7 ≤ 90000 := hT.1 7
                    have v8 : 0 ≤ τ26.1 8 ∧ τ26.1 8 ≤ 20000 := hT.1 8
                    have v9 : 0 ≤ τ26.1 9 ∧ τ26.1 9 ≤ 20000 := hT.1 9
                    have v16 : 0 ≤ τ26.1 16 ∧ τ26.1 16 ≤ 60000 := hT.1 16
                    have v17 : 0 ≤ τ26.1 17 ∧ τ26.1 17 ≤ 60000 := hT.1 17
                    have v18 : 0 ≤ τ26.1 18 ∧ τ26.1 18 ≤ 60000 := hT.1 18
                    have v19 : (-1) ≤ τ26.1 19 ∧ τ26.1 19 ≤ 125 := hT.1 19
                    have v20 : 0 ≤ τ26.1 20 ∧ τ26.1 20 ≤ 19 := hT.1 20
                    have v22 : 0 ≤ τ26.1 22 ∧ τ26.1 22 ≤ 1499 := hT.1 22
                    have a0_17 : 0 ≤ τ26.2.1 0 (τ26.1 17) ∧ τ26.2.1 0 (τ26.1 17) ≤ 255 := hT.2 0 _
                    have a25_22 : 0 ≤ τ26.2.1 25 (τ26.1 22) ∧ τ26.2.1 25 (τ26.1 22) ≤ 20000 := hT.2 25 _
                    have a26_22 : 0 ≤ τ26.2.1 26 (τ26.1 22) ∧ τ26.2.1 26 (τ26.1 22) ≤ 20000 := hT.2 26 _
                    have a28_9 : 0 ≤ τ26.2.1 28 (τ26.1 9) ∧ τ26.2.1 28 (τ26.1 9) ≤ 1 := hT.2 28 _
                    have av9 : σ.1 9 ≤ τ26.1 9 := ag.1 9 (by decide)
                    have Z4 : τ26.2.1 25 (τ26.1 22) + τ26.2.1 26 (τ26.1 22) = τ26.1 9 := by omega
                    have Y8 := j_eqt Y8 (j_eqw q24_4 (show σ.1 9 ≤ τ_0.1 9 from by omega))
                    have Y9 := q24_5.trans Y9
                    have NSP : n_sp2 (τ26.2.1 25 (τ26.1 22)) (τ26.1 9) (τ26.1 22) (τ26.2.1 27) (τ26.2.1 28) := by (rw [show τ26.2.1 25 (τ26.1 22) = τ_0.2.1 25 (τ_0.1 22) from by omega, show τ26.1 9 = τ_0.1 9 + 1 from by omega, show τ26.1 22 = τ_0.1 22 from by omega]; exact n_sp2_a NSP q24_3 q24_4 (by omega) (by omega) (fun z => by omega) (fun _ => by omega))
                    refine h111 _ ?_
                    refine ⟨fun c19 => ?_, fun c19 => ?_⟩
                    ·
                      exact ih_0 _ (show (3 * ((τ26.1 0) - (τ26.1 16)) + z_0 ((τ26.1 20)) + 1 - z_0 ((τ26.1 19)) : Int) < ((m_0 : Nat) : Int) from by (have zz0 := z_e ((τ26.1 20)); have zz1 := z_e ((τ26.1 19)); (first | omega | (simp only [st_s] <;> omega) | assumption | omega | fail))) hT ag (show τ26.1 0 = σ.1 0 from by first | exact W0 | omega) (show τ26.1 3 = σ.1 3 from by first | exact W3 | omega) (show τ26.1 5 = σ.1 5 from by first | exact W5 | omega) (show τ26.1 6 = σ.1 6 from by first | exact W6 | omega) (show τ26.1 7 = σ.1 7 from by first | exact W7 | omega) (show τ26.1 8 = σ.1 8 from by first | exact W8 | omega) (show τ26.1 22 = σ.1 22 from by first | exact W22 | omega) G0 G6 G7 G25 (show (τ26.1 16) ≤ (τ26.1 0) from by (first | omega | (simp only [st_s] <;> omega) | assumption | omega | fail)) (show (τ26.1 17) + (τ26.1 18) ≤ (τ26.1 0) from by (first | omega | (simp only [st_s] <;> omega) | assumption | omega | fail)) (show oc (τ26.2.1 6) < 4096 from by (first | omega | (simp only [st_s] <;> omega) | assumption | omega | fail)) (show oc (τ26.2.1 7) < 4096 from by (first | omega | (simp only [st_s] <;> omega) | assumption | omega | fail)) (show τ26.2.1 25 (τ26.1 22) + τ26.2.1 26 (τ26.1 22) = (τ26.1 9) from Z4) (show ¬ (σ.1 20) = 0 → (τ26.1 20) = (σ.1 20) from by (first | omega | (simp only [st_s] <;> omega) | assumption | omega | fail)) (show j_eq ((σ.1 9)) (σ.2.1 28) (τ26.2.1 28) from Y8) (show ca (τ26.2.1 28) ((τ26.1 9)) = ca (σ.2.1 28) ((σ.1 9)) from Y9) (show (σ.1 16) ≤ (τ26.1 16) from by (first | omega | (simp only [st_s] <;> omega) | assumption | omega | fail)) (show n_sp2 (τ26.2.1 25 (τ26.1 22)) (τ26.1 9) (τ26.1 22) (τ26.2.1 27) (τ26.2.1 28) from NSP)
                    ·
                      refine ⟨_, K_X13_next hT (show (τ26.1 16) ≤ (τ26.1 0) from by (first | omega | (simp only [st_s] <;> omega) | assumption | omega | fail)), ?_⟩
                      intro τ22 hn_τ22 hf_τ22 hq
                      obtain ⟨hT, q20_1, q20_2, q20_3, q20_4, q20_5⟩ := hq
                      replace q20_1 : (τ22.1 16) ≤ (τ22.1 0) := q20_1
                      replace q20_2 : (τ22.1 17) + (τ22.1 18) ≤ (τ22.1 0) := q20_2
                      replace q20_3 : (τ26.1 16) ≤ (τ22.1 16) := q20_3
                      replace q20_4 : ¬ (τ26.1 20) = 0 → (τ22.1 20) = (τ26.1 20) := q20_4
                      replace q20_5 : (τ22.1 20) = 0 → ¬ (τ22.1 19) = 0 → (τ26.1 16) < (τ22.1 16) ∧ 0 < (τ22.1 18) := q20_5
                      replace ag : m_ag σ τ22 := ag_r ag hf_τ22 rfl rfl
                      have w0_τ22 : τ22.1 0 = τ26.1 0 := hf_τ22.1 0 (by decide)
                      have w3_τ22 : τ22.1 3 = τ26.1 3 := hf_τ22.1 3 (by decide)
                      have w5_τ22 : τ22.1 5 = τ26.1 5 := hf_τ22.1 5 (by decide)
                      have w6_τ22 : τ22.1 6 = τ26.1 6 := hf_τ22.1 6 (by decide)
                      have w7_τ22 : τ22.1 7 = τ26.1 7 := hf_τ22.1 7 (by decide)
                      have w8_τ22 : τ22.1 8 = τ26.1 8 := hf_τ22.1 8 (by decide)
                      have w9_τ22 : τ22.1 9 = τ26.1 9 := hf_τ22.1 9 (by decide)
                      have w22_τ22 : τ22.1 22 = τ26.1 22 := hf_τ22.1 22 (by decide)
                      have g0_τ22 : τ22.2.1 0 = τ26.2.1 0 := hf_τ22.2.1 0 (by decide)
                      have g6_τ22 : τ22.2.1 6 = τ26.2.1 6 := hf_τ22.2.1 6 (by decide)
                      have g7_τ22 : τ22.2.1 7 = τ26.2.1 7 := hf_τ22.2.1 7 (by decide)
                      have g25_τ22 : τ22.2.1 25 = τ26.2.1 25 := hf_τ22.2.1 25 (by decide)
                      have g26_τ22 : τ22.2.1 26 = τ26.2.1 26 := hf_τ22.2.1 26 (by decide)
                      have g27_τ22 : τ22.2.1 27 = τ26.2.1 27 := hf_τ22.2.1 27 (by decide)
                      have g28_τ22 : τ22.2.1 28 = τ26.2.1 28 := hf_τ22.2.1 28 (by decide)
                      first | (have o6_τ22 := congrArg oc g6_τ22) | skip
                      first | (have o7_τ22 := congrArg oc g7_τ22) | skip
                      have W0 : τ22.1 0 = σ.1 0 := by first | exact w0_τ22.trans W0 | omega
                      have W3 : τ22.1 3 = σ.1 3 := by first | exact w3_τ22.trans W3 | omega
                      have W5 : τ22.1 5 = σ.1 5 := by first | exact w5_τ22.trans W5 | omega
                      have W6 : τ22.1 6 = σ.1 6 := by first | exact w6_τ22.trans W6 | omega
                      have W7 : τ22.1 7 = σ.1 7 := by first | exact w7_τ22.trans W7 | omega
                      have W8 : τ22.1 8 = σ.1 8 := by first | exact w8_τ22.trans W8 | omega
                      have W22 : τ22.1 22 = σ.1 22 := by first | exact w22_τ22.trans W22 | omega
                      have G0 : τ22.2.1 0 = σ.2.1 0 := (g0_τ22).trans G0
                      have G6 : τ22.2.1 6 = σ.2.1 6 := (g6_τ22).trans G6
                      have G7 : τ22.2.1 7 = σ.2.1 7 := (g7_τ22).trans G7
                      have G25 : τ22.2.1 25 = σ.2.1 25 := (g25_τ22).trans G25
                      have y25_22_τ22 : τ22.2.1 25 (τ22.1 22) = (τ26.2.1 25) (τ26.1 22) := by rw [g25_τ22, w22_τ22]
                      have y26_22_τ22 : τ22.2.1 26 (τ22.1 22) = (τ26.2.1 26) (τ26.1 22) := by rw [g26_τ22, w22_τ22]
                      have y28_9_τ22 : τ22.2.1 28 (τ22.1 9) = (τ26.2.1 28) (τ26.1 9) := by rw [g28_τ22, w9_τ22]
                      have Z4 : τ22.2.1 25 (τ22.1 22) + τ22.2.1 26 (τ22.1 22) = (τ22.1 9) := by rw [show (τ22.2.1 25 (τ22.1 22) + τ22.2.1 26 (τ22.1 22) = (τ22.1 9)) = (τ26.2.1 25 (τ26.1 22) + τ26.2.1 26 (τ26.1 22) = (τ26.1 9)) from by rw [w9_τ22, w22_τ22, g25_τ22, g26_τ22]]; exact Z4
                      have Y8 : j_eq ((σ.1 9)) (σ.2.1 28) (τ22.2.1 28) := by rw [show (j_eq ((σ.1 9)) (σ.2.1 28) (τ22.2.1 28)) = (j_eq ((σ.1 9)) (σ.2.1 28) (τ26.2.1 28)) from by rw [g28_τ22]]; exact Y8
                      have Y9 : ca (τ22.2.1 28) ((τ22.1 9)) = ca (σ.2.1 28) ((σ.1 9)) := by rw [show (ca (τ22.2.1 28) ((τ22.1 9)) = ca (σ.2.1 28) ((σ.1 9))) = (ca (τ26.2.1 28) ((τ26.1 9)) = ca (σ.2.1 28) ((σ.1 9))) from by rw [w9_τ22, g28_τ22]]; exact Y9
                      have NSP : n_sp2 (τ22.2.1 25 (τ22.1 22)) (τ22.1 9) (τ22.1 22) (τ22.2.1 27) (τ22.2.1 28) := by rw [show (n_sp2 (τ22.2.1 25 (τ22.1 22)) (τ22.1 9) (τ22.1 22) (τ22.2.1 27) (τ22.2.1 28)) = (n_sp2 (τ26.2.1 25 (τ26.1 22)) (τ26.1 9) (τ26.1 22) (τ26.2.1 27) (τ26.2.1 28)) from by rw [w9_τ22, w22_τ22, g25_τ22, g27_τ22, g28_τ22]]; exact NSP
                      have A0 : ∀ j, 0 ≤ τ22.2.1 0 j ∧ τ22.2.1 0 j ≤ 255 := fun j => hT.2 0 j
                      have A6 : ∀ j, (-1) ≤ τ22.2.1 6 j ∧ τ22.2.1 6 j ≤ 999 := fun j => hT.2 6 j
                      have A7 : ∀ j, (-1) ≤ τ22.2.1 7 j ∧ τ22.2.1 7 j ≤ 1499 := fun j => hT.2 7 j
                      have A25 : ∀ j, 0 ≤ τ22.2.1 25 j ∧ τ22.2.1 25 j ≤ 20000 := fun j => hT.2 25 j
                      have A26 : ∀ j, 0 ≤ τ22.2.1 26 j ∧ τ22.2.1 26 j ≤ 20000 := fun j => hT.2 26 j
                      have A27 : ∀ j, (-300) ≤ τ22.2.1 27 j ∧ τ22.2.1 27 j ≤ 1499 := fun j => hT.2 27 j
                      have A28 : ∀ j, 0 ≤ τ22.2.1 28 j ∧ τ22.2.1 28 j ≤ 1 := fun j => hT.2 28 j
                      have v0 : 0 ≤ τ22.1 0 ∧ τ22.1 0 ≤ 60000 := hT.1 0
                      have v3 : 0 ≤ τ22.1 3 ∧ τ22.1 3 ≤ 1000 := hT.1 3
                      have v5 : 0 ≤ τ22.1 5 ∧ τ22.1 5 ≤ 1500 := hT.1 5
                      have v6 : 0 ≤ τ22.1 6 ∧ τ22.1 6 ≤ 30000 := hT.1 6
                      have v7 : 0 ≤ τ22.1 7 ∧ τ22.1 7 ≤ 90000 := hT.1 7
                      have v8 : 0 ≤ τ22.1 8 ∧ τ22.1 8 ≤ 20000 := hT.1 8
                      have v9 : 0 ≤ τ22.1 9 ∧ τ22.1 9 ≤ 20000 := hT.1 9
                      have v16 : 0 ≤ τ22.1 16 ∧ τ22.1 16 ≤ 60000 := hT.1 16
                      have v17 : 0 ≤ τ22.1 17 ∧ τ22.1 17 ≤ 60000 := hT.1 17
                      have v18 : 0 ≤ τ22.1 18 ∧ τ22.1 18 ≤ 60000 := hT.1 18
                      have v19 : (-1) ≤ τ22.1 19 ∧ τ22.1 19 ≤ 125 := hT.1 19
                      have v20 : 0 ≤ τ22.1 20 ∧ τ22.1 20 ≤ 19 := hT.1 20
                      have v22 : 0 ≤ τ22.1 22 ∧ τ22.1 22 ≤ 1499 := hT.1 22
                      have a0_17 : 0 ≤ τ22.2.1 0 (τ22.1 17) ∧ τ22.2.1 0 (τ22.1 17) ≤ 255 := hT.2 0 _
                      have a25_22 : 0 ≤ τ22.2.1 25 (τ22.1 22) ∧ τ22.2.1 25 (τ22.1 22) ≤ 20000 := hT.2 25 _
                      have a26_22 : 0 ≤ τ22.2.1 26 (τ22.1 22) ∧ τ22.2.1 26 (τ22.1 22) ≤ 20000 := hT.2 26 _
                      have a28_9 : 0 ≤ τ22.2.1 28 (τ22.1 9) ∧ τ22.2.1 28 (τ22.1 9) ≤ 1 := hT.2 28 _
                      have av9 : σ.1 9 ≤ τ22.1 9 := ag.1 9 (by decide)
                      exact ih_0 _ (show (3 * ((τ22.1 0) - (τ22.1 16)) + z_0 ((τ22.1 20)) + 1 - z_0 ((τ22.1 19)) : Int) < ((m_0 : Nat) : Int) from by (have zz0 := z_e ((τ22.1 20)); have zz1 := z_e ((τ22.1 19)); (first | omega | (simp only [st_s] <;> omega) | assumption | omega | fail))) hT ag (show τ22.1 0 = σ.1 0 from by first | exact W0 | omega) (show τ22.1 3 = σ.1 3 from by first | exact W3 | omega) (show τ22.1 5 = σ.1 5 from by first | exact W5 | omega) (show τ22.1 6 = σ.1 6 from by first | exact W6 | omega) (show τ22.1 7 = σ.1 7 from by first | exact W7 | omega) (show τ22.1 8 = σ.1 8 from by first | exact W8 | omega) (show τ22.1 22 = σ.1 22 from by first | exact W22 | omega) G0 G6 G7 G25 (show (τ22.1 16) ≤ (τ22.1 0) from by (first | omega | (simp only [st_s] <;> omega) | assumption | omega | fail)) (show (τ22.1 17) + (τ22.1 18) ≤ (τ22.1 0) from by (first | omega | (simp only [st_s] <;> omega) | assumption | omega | fail)) (show oc (τ22.2.1 6) < 4096 from by (first | omega | (simp only [st_s] <;> omega) | assumption | omega | fail)) (show oc (τ22.2.1 7) < 4096 from by (first | omega | (simp only [st_s] <;> omega) | assumption | omega | fail)) (show τ22.2.1 25 (τ22.1 22) + τ22.2.1 26 (τ22.1 22) = (τ22.1 9) from Z4) (show ¬ (σ.1 20) = 0 → (τ22.1 20) = (σ.1 20) from by (first | omega | (simp only [st_s] <;> omega) | assumption | omega | fail)) (show j_eq ((σ.1 9)) (σ.2.1 28) (τ22.2.1 28) from Y8) (show ca (τ22.2.1 28) ((τ22.1 9)) = ca (σ.2.1 28) ((σ.1 9)) from Y9) (show (σ.1 16) ≤ (τ22.1 16) from by (first | omega | (simp only [st_s] <;> omega) | assumption | omega | fail)) (show n_sp2 (τ22.2.1 25 (τ22.1 22)) (τ22.1 9) (τ22.1 22) (τ22.2.1 27) (τ22.2.1 28) from NSP)
                  ·
                    refine ⟨_, K_X13_failHere hT (show 0 ≤ (13 : Int) from by (first | omega | (simp only [st_s] <;> omega) | assumption | omega | fail)) (show (13 : Int) ≤ 19 from by (first | omega | (simp only [st_s] <;> omega) | assumption | omega | fail)), ?_⟩
                    intro τ29 hn_τ29 hf_τ29 hq
                    obtain ⟨hT, q27_1, q27_2⟩ := hq
                    replace q27_1 : ¬ (τ_0.1 20) = 0 → (τ29.1 20) = (τ_0.1 20) := q27_1
                    replace q27_2 : (τ_0.1 20) = 0 → (τ29.1 20) = (13 : Int) := q27_2
                    replace ag : m_ag σ τ29 := ag_r ag hf_τ29 rfl rfl
                    have w0_τ29 : τ29.1 0 = τ_0.1 0 := hf_τ29.1 0 (by decide)
                    have w3_τ29 : τ29.1 3 = τ_0.1 3 := hf_τ29.1 3 (by decide)
                    have w5_τ29 : τ29.1 5 = τ_0.1 5 := hf_τ29.1 5 (by decide)
                    have w6_τ29 : τ29.1 6 = τ_0.1 6 := hf_τ29.1 6 (by decide)
                    have w7_τ29 : τ29.1 7 = τ_0.1 7 := hf_τ29.1 7 (by decide)
                    have w8_τ29 : τ29.1 8 = τ_0.1 8 := hf_τ29.1 8 (by decide)
                    have w9_τ29 : τ29.1 9 = τ_0.1 9 := hf_τ29.1 9 (by decide)
                    have w16_τ29 : τ29.1 16 = τ_0.1 16 := hf_τ29.1 16 (by decide)
                    have w17_τ29 : τ29.1 17 = τ_0.1 17 := hf_τ29.1 17 (by decide)
                    have w18_τ29 : τ29.1 18 = τ_0.1 18 := hf_τ29.1 18 (by decide)
                    have w19_τ29 : τ29.1 19 = τ_0.1 19 := hf_τ29.1 19 (by decide)
                    have w22_τ29 : τ29.1 22 = τ_0.1 22 := hf_τ29.1 22 (by decide)
                    have g0_τ29 : τ29.2.1 0 = τ_0.2.1 0 := hf_τ29.2.1 0 (by decide)
                    have g6_τ29 : τ29.2.1 6 = τ_0.2.1 6 := hf_τ29.2.1 6 (by decide)
                    have g7_τ29 : τ29.2.1 7 = τ_0.2.1 7 := hf_τ29.2.1 7 (by decide)
                    have g25_τ29 : τ29.2.1 25 = τ_0.2.1 25 := hf_τ29.2.1 25 (by decide)
                    have g26_τ29 : τ29.2.1 26 = τ_0.2.1 26 := hf_τ29.2.1 26 (by decide)
                    have g27_τ29 : τ29.2.1 27 = τ_0.2.1 27 := hf_τ29.2.1 27 (by decide)
                    have g28_τ29 : τ29.2.1 28 = τ_0.2.1 28 := hf_τ29.2.1 28 (by decide)
                    first | (have o6_τ29 := congrArg oc g6_τ29) | skip
                    first | (have o7_τ29 := congrArg oc g7_τ29) | skip
                    have W0 : τ29.1 0 = σ.1 0 := by first | exact w0_τ29.trans W0 | omega
                    have W3 : τ29.1 3 = σ.1 3 := by first | exact w3_τ29.trans W3 | omega
                    have W5 : τ29.1 5 = σ.1 5 := by first | exact w5_τ29.trans W5 | omega
                    have W6 : τ29.1 6 = σ.1 6 := by first | exact w6_τ29.trans W6 | omega
                    have W7 : τ29.1 7 = σ.1 7 := by first | exact w7_τ29.trans W7 | omega
                    have W8 : τ29.1 8 = σ.1 8 := by first | exact w8_τ29.trans W8 | omega
                    have W22 : τ29.1 22 = σ.1 22 := by first | exact w22_τ29.trans W22 | omega
                    have G0 : τ29.2.1 0 = σ.2.1 0 := (g0_τ29).trans G0
                    have G6 : τ29.2.1 6 = σ.2.1 6 := (g6_τ29).trans G6
                    have G7 : τ29.2.1 7 = σ.2.1 7 := (g7_τ29).trans G7
                    have G25 : τ29.2.1 25 = σ.2.1 25 := (g25_τ29).trans G25
                    have y0_17_τ29 : τ29.2.1 0 (τ29.1 17) = (τ_0.2.1 0) (τ_0.1 17) := by rw [g0_τ29, w17_τ29]
                    have y25_22_τ29 : τ29.2.1 25 (τ29.1 22) = (τ_0.2.1 25) (τ_0.1 22) := by rw [g25_τ29, w22_τ29]
                    have y26_22_τ29 : τ29.2.1 26 (τ29.1 22) = (τ_0.2.1 26) (τ_0.1 22) := by rw [g26_τ29, w22_τ29]
                    have y28_9_τ29 : τ29.2.1 28 (τ29.1 9) = (τ_0.2.1 28) (τ_0.1 9) := by rw [g28_τ29, w9_τ29]
                    have Z4 : τ29.2.1 25 (τ29.1 22) + τ29.2.1 26 (τ29.1 22) = (τ29.1 9) := by rw [show (τ29.2.1 25 (τ29.1 22) + τ29.2.1 26 (τ29.1 22) = (τ29.1 9)) = (τ_0.2.1 25 (τ_0.1 22) + τ_0.2.1 26 (τ_0.1 22) = (τ_0.1 9)) from by rw [w9_τ29, w22_τ29, g25_τ29, g26_τ29]]; exact Z4
                    have Y8 : j_eq ((σ.1 9)) (σ.2.1 28) (τ29.2.1 28) := by rw [show (j_eq ((σ.1 9)) (σ.2.1 28) (τ29.2.1 28)) = (j_eq ((σ.1 9)) (σ.2.1 28) (τ_0.2.1 28)) from by rw [g28_τ29]]; exact Y8
                    have Y9 : ca (τ29.2.1 28) ((τ29.1 9)) = ca (σ.2.1 28) ((σ.1 9)) := by rw [show (ca (τ29.2.1 28) ((τ29.1 9)) = ca (σ.2.1 28) ((σ.1 9))) = (ca (τ_0.2.1 28) ((τ_0.1 9)) = ca (σ.2.1 28) ((σ.1 9))) from by rw [w9_τ29, g28_τ29]]; exact Y9
                    have NSP : n_sp2 (τ29.2.1 25 (τ29.1 22)) (τ29.1 9) (τ29.1 22) (τ29.2.1 27) (τ29.2.1 28) := by rw [show (n_sp2 (τ29.2.1 25 (τ29.1 22)) (τ29.1 9) (τ29.1 22) (τ29.2.1 27) (τ29.2.1 28)) = (n_sp2 (τ_0.2.1 25 (τ_0.1 22)) (τ_0.1 9) (τ_0.1 22) (τ_0.2.1 27) (τ_0.2.1 28)) from by rw [w9_τ29, w22_τ29, g25_τ29, g27_τ29, g28_τ29]]; exact NSP
                    have A0 : ∀ j, 0 ≤ τ29.2.1 0 j ∧ τ29.2.1 0 j ≤ 255 := fun j => hT.2 0 j
                    have A6 : ∀ j, (-1) ≤ τ29.2.1 6 j ∧ τ29.2.1 6 j ≤ 999 := fun j => hT.2 6 j
                    have A7 : ∀ j, (-1) ≤ τ29.2.1 7 j ∧ τ29.2.1 7 j ≤ 1499 := fun j => hT.2 7 j
                    have A25 : ∀ j, 0 ≤ τ29.2.1 25 j ∧ τ29.2.1 25 j ≤ 20000 := fun j => hT.2 25 j
                    have A26 : ∀ j, 0 ≤ τ29.2.1 26 j ∧ τ29.2.1 26 j ≤ 20000 := fun j => hT.2 26 j
                    have A27 : ∀ j, (-300) ≤ τ29.2.1 27 j ∧ τ29.2.1 27 j ≤ 1499 := fun j => hT.2 27 j
                    have A28 : ∀ j, 0 ≤ τ29.2.1 28 j ∧ τ29.2.1 28 j ≤ 1 := fun j => hT.2 28 j
                    have v0 : 0 ≤ τ29.1 0 ∧ τ29.1 0 ≤ 60000 := hT.1 0
                    have v3 : 0 ≤ τ29.1 3 ∧ τ29.1 3 ≤ 1000 := hT.1 3
                    have v5 : 0 ≤ τ29.1 5 ∧ τ29.1 5 ≤ 1500 := hT.1 5
                    have v6 : 0 ≤ τ29.1 6 ∧ τ29.1 6 ≤ 30000 := hT.1 6
                    have v7 : 0 ≤ τ29.1 7 ∧ τ29.1 7 ≤ 90000 := hT.1 7
                    have v8 : 0 ≤ τ29.1 8 ∧ τ29.1 8 ≤ 20000 := hT.1 8
                    have v9 : 0 ≤ τ29.1 9 ∧ τ29.1 9 ≤ 20000 := hT.1 9
                    have v16 : 0 ≤ τ29.1 16 ∧ τ29.1 16 ≤ 60000 := hT.1 16
                    have v17 : 0 ≤ τ29.1 17 ∧ τ29.1 17 ≤ 60000 := hT.1 17
                    have v18 : 0 ≤ τ29.1 18 ∧ τ29.1 18 ≤ 60000 := hT.1 18
                    have v19 : (-1) ≤ τ29.1 19 ∧ τ29.1 19 ≤ 125 := hT.1 19
                    have v20 : 0 ≤ τ29.1 20 ∧ τ29.1 20 ≤ 19 := hT.1 20
                    have v22 : 0 ≤ τ29.1 22 ∧ τ29.1 22 ≤ 1499 := hT.1 22
                    have a0_17 : 0 ≤ τ29.2.1 0 (τ29.1 17) ∧ τ29.2.1 0 (τ29.1 17) ≤ 255 := hT.2 0 _
                    have a25_22 : 0 ≤ τ29.2.1 25 (τ29.1 22) ∧ τ29.2.1 25 (τ29.1 22) ≤ 20000 := hT.2 25 _
                    have a26_22 : 0 ≤ τ29.2.1 26 (τ29.1 22) ∧ τ29.2.1 26 (τ29.1 22) ≤ 20000 := hT.2 26 _
                    have a28_9 : 0 ≤ τ29.2.1 28 (τ29.1 9) ∧ τ29.2.1 28 (τ29.1 9) ≤ 1 := hT.2 28 _
                    have av9 : σ.1 9 ≤ τ29.1 9 := ag.1 9 (by decide)
                    refine h111 _ ?_
                    refine ⟨fun c19 => ?_, fun c19 => ?_⟩
                    ·
                      exact ih_0 _ (show (3 * ((τ29.1 0) - (τ29.1 16)) + z_0 ((τ29.1 20)) + 1 - z_0 ((τ29.1 19)) : Int) < ((m_0 : Nat) : Int) from by (have zz0 := z_e ((τ29.1 20)); have zz1 := z_e ((τ29.1 19)); (first | omega | (simp only [st_s] <;> omega) | assumption | omega | fail))) hT ag (show τ29.1 0 = σ.1 0 from by first | exact W0 | omega) (show τ29.1 3 = σ.1 3 from by first | exact W3 | omega) (show τ29.1 5 = σ.1 5 from by first | exact W5 | omega) (show τ29.1 6 = σ.1 6 from by first | exact W6 | omega) (show τ29.1 7 = σ.1 7 from by first | exact W7 | omega) (show τ29.1 8 = σ.1 8 from by first | exact W8 | omega) (show τ29.1 22 = σ.1 22 from by first | exact W22 | omega) G0 G6 G7 G25 (show (τ29.1 16) ≤ (τ29.1 0) from by (first | omega | (simp only [st_s] <;> omega) | assumption | omega | fail)) (show (τ29.1 17) + (τ29.1 18) ≤ (τ29.1 0) from by (first | omega | (simp only [st_s] <;> omega) | assumption | omega | fail)) (show oc (τ29.2.1 6) < 4096 from by (first | omega | (simp only [st_s] <;> omega) | assumption | omega | fail)) (show oc (τ29.2.1 7) < 4096 from by (first | omega | (simp only [st_s] <;> omega) | assumption | omega | fail)) (show τ29.2.1 25 (τ29.1 22) + τ29.2.1 26 (τ29.1 22) = (τ29.1 9) from Z4) (show ¬ (σ.1 20) = 0 → (τ29.1 20) = (σ.1 20) from by (first | omega | (simp only [st_s] <;> omega) | assumption | omega | fail)) (show j_eq ((σ.1 9)) (σ.2.1 28) (τ29.2.1 28) from Y8) (show ca (τ29.2.1 28) ((τ29.1 9)) = ca (σ.2.1 28) ((σ.1 9)) from Y9) (show (σ.1 16) ≤ (τ29.1 16) from by (first | omega | (simp only [st_s] <;> omega) | assumption | omega | fail)) (show n_sp2 (τ29.2.1 25 (τ29.1 22)) (τ29.1 9) (τ29.1 22) (τ29.2.1 27) (τ29.2.1 28) from NSP)
                    ·
                      refine ⟨_, K_X13_next hT (show (τ29.1 16) ≤ (τ29.1 0) from by (first | omega | (simp only [st_s] <;> omega) | assumption | omega | fail)), ?_⟩
                      intro τ22 hn_τ22 hf_τ22 hq
                      obtain ⟨hT, q20_1, q20_2, q20_3, q20_4, q20_5⟩ := hq
                      replace q20_1 : (τ22.1 16) ≤ (τ22.1 0) := q20_1
                      replace q20_2 : (τ22.1 17) + (τ22.1 18) ≤ (τ22.1 0) := q20_2
                      replace q20_3 : (τ29.1 16) ≤ (τ22.1 16) := q20_3
                      replace q20_4 : ¬ (τ29.1 20) = 0 → (τ22.1 20) = (τ29.1 20) := q20_4
                      replace q20_5 : (τ22.1 20) = 0 → ¬ (τ22.1 19) = 0 → (τ29.1 16) < (τ22.1 16) ∧ 0 < (τ22.1 18) := q20_5
                      replace ag : m_ag σ τ22 := ag_r ag hf_τ22 rfl rfl
                      have w0_τ22 : τ22.1 0 = τ29.1 0 := hf_τ22.1 0 (by decide)
                      have w3_τ22 : τ22.1 3 = τ29.1 3 := hf_τ22.1 3 (by decide)
                      have w5_τ22 : τ22.1 5 = τ29.1 5 := hf_τ22.1 5 (by decide)
                      have w6_τ22 : τ22.1 6 = τ29.1 6 := hf_τ22.1 6 (by decide)
                      have w7_τ22 : τ22.1 7 = τ29.1 7 := hf_τ22.1 7 (by decide)
                      have w8_τ22 : τ22.1 8 = τ29.1 8 := hf_τ22.1 8 (by decide)
                      have w9_τ22 : τ22.1 9 = τ29.1 9 := hf_τ22.1 9 (by decide)
                      have w22_τ22 : τ22.1 22 = τ29.1 22 := hf_τ22.1 22 (by decide)
                      have g0_τ22 : τ22.2.1 0 = τ29.2.1 0 := hf_τ22.2.1 0 (by decide)
                      have g6_τ22 : τ22.2.1 6 = τ29.2.1 6 := hf_τ22.2.1 6 (by decide)
                      have g7_τ22 : τ22.2.1 7 = τ29.2.1 7 := hf_τ22.2.1 7 (by decide)
                      have g25_τ22 : τ22.2.1 25 = τ29.2.1 25 := hf_τ22.2.1 25 (by decide)
                      have g26_τ22 : τ22.2.1 26 = τ29.2.1 26 := hf_τ22.2.1 26 (by decide)
                      have g27_τ22 : τ22.2.1 27 = τ29.2.1 27 := hf_τ22.2.1 27 (by decide)
                      have g28_τ22 : τ22.2.1 28 = τ29.2.1 28 := hf_τ22.2.1 28 (by decide)
                      first | (have o6_τ22 := congrArg oc g6_τ22) | skip
                      first | (have o7_τ22 := congrArg oc g7_τ22) | skip
                      have W0 : τ22.1 0 = σ.1 0 := by first | exact w0_τ22.trans W0 | omega
                      have W3 : τ22.1 3 = σ.1 3 := by first | exact w3_τ22.trans W3 | omega
                      have W5 : τ22.1 5 = σ.1 5 := by first | exact w5_τ22.trans W5 | omega
                      have W6 : τ22.1 6 = σ.1 6 := by first | exact w6_τ22.trans W6 | omega
                      have W7 : τ22.1 7 = σ.1 7 := by first | exact w7_τ22.trans W7 | omega
                      have W8 : τ22.1 8 = σ.1 8 := by first | exact w8_τ22.trans W8 | omega
                      have W22 : τ22.1 22 = σ.1 22 := by first | exact w22_τ22.trans W22 | omega
                      have G0 : τ22.2.1 0 = σ.2.1 0 := (g0_τ22).trans G0
                      have G6 : τ22.2.1 6 = σ.2.1 6 := (g6_τ22).trans G6
                      have G7 : τ22.2.1 7 = σ.2.1 7 := (g7_τ22).trans G7
                      have G25 : τ22.2.1 25 = σ.2.1 25 := (g25_τ22).trans G25
                      have y25_22_τ22 : τ22.2.1 25 (τ22.1 22) = (τ29.2.1 25) (τ29.1 22) := by rw [g25_τ22, w22_τ22]
                      have y26_22_τ22 : τ22.2.1 26 (τ22.1 22) = (τ29.2.1 26) (τ29.1 22) := by rw [g26_τ22, w22_τ22]
                      have y28_9_τ22 : τ22.2.1 28 (τ22.1 9) = (τ29.2.1 28) (τ29.1 9) := by rw [g28_τ22, w9_τ22]
                      have Z4 : τ22.2.1 25 (τ22.1 22) + τ22.2.1 26 (τ22.1 22) = (τ22.1 9) := by rw [show (τ22.2.1 25 (τ22.1 22) + τ22.2.1 26 (τ22.1 22) = (τ22.1 9)) = (τ29.2.1 25 (τ29.1 22) + τ29.2.1 26 (τ29.1 22) = (τ29.1 9)) from by rw [w9_τ22, w22_τ22, g25_τ22, g26_τ22]]; exact Z4
                      have Y8 : j_eq ((σ.1 9)) (σ.2.1 28) (τ22.2.1 28) := by rw [show (j_eq ((σ.1 9)) (σ.2.1 28) (τ22.2.1 28)) = (j_eq ((σ.1 9)) (σ.2.1 28) (τ29.2.1 28)) from by rw [g28_τ22]]; exact Y8
                      have Y9 : ca (τ22.2.1 28) ((τ22.1 9)) = ca (σ.2.1 28) ((σ.1 9)) := by rw [show (ca (τ22.2.1 28) ((τ22.1 9)) = ca (σ.2.1 28) ((σ.1 9))) = (ca (τ29.2.1 28) ((τ29.1 9)) = ca (σ.2.1 28) ((σ.1 9))) from by rw [w9_τ22, g28_τ22]]; exact Y9
                      have NSP : n_sp2 (τ22.2.1 25 (τ22.1 22)) (τ22.1 9) (τ22.1 22) (τ22.2.1 27) (τ22.2.1 28) := by rw [show (n_sp2 (τ22.2.1 25 (τ22.1 22)) (τ22.1 9) (τ22.1 22) (τ22.2.1 27) (τ22.2.1 28)) = (n_sp2 (τ29.2.1 25 (τ29.1 22)) (τ29.1 9) (τ29.1 22) (τ29.2.1 27) (τ29.2.1 28)) from by rw [w9_τ22, w22_τ22, g25_τ22, g27_τ22, g28_τ22]]; exact NSP
                      have A0 : ∀ j, 0 ≤ τ22.2.1 0 j ∧ τ22.2.1 0 j ≤ 255 := fun j => hT.2 0 j
                      have A6 : ∀ j, (-1) ≤ τ22.2.1 6 j ∧ τ22.2.1 6 j ≤ 999 := fun j => hT.2 6 j
                      have A7 : ∀ j, (-1) ≤ τ22.2.1 7 j ∧ τ22.2.1 7 j ≤ 1499 := fun j => hT.2 7 j
                      have A25 : ∀ j, 0 ≤ τ22.2.1 25 j ∧ τ22.2.1 25 j ≤ 20000 := fun j => hT.2 25 j
                      have A26 : ∀ j, 0 ≤ τ22.2.1 26 j ∧ τ22.2.1 26 j ≤ 20000 := fun j => hT.2 26 j
                      have A27 : ∀ j, (-300) ≤ τ22.2.1 27 j ∧ τ22.2.1 27 j ≤ 1499 := fun j => hT.2 27 j
                      have A28 : ∀ j, 0 ≤ τ22.2.1 28 j ∧ τ22.2.1 28 j ≤ 1 := fun j => hT.2 28 j
                      have v0 : 0 ≤ τ22.1 0 ∧ τ22.1 0 ≤ 60000 := hT.1 0
                      have v3 : 0 ≤ τ22.1 3 ∧ τ22.1 3 ≤ 1000 := hT.1 3
                      have v5 : 0 ≤ τ22.1 5 ∧ τ22.1 5 ≤ 1500 := hT.1 5
                      have v6 : 0 ≤ τ22.1 6 ∧ τ22.1 6 ≤ 30000 := hT.1 6
                      have v7 : 0 ≤ τ22.1 7 ∧ τ22.1 7 ≤ 90000 := hT.1 7
                      have v8 : 0 ≤ τ22.1 8 ∧ τ22.1 8 ≤ 20000 := hT.1 8
                      have v9 : 0 ≤ τ22.1 9 ∧ τ22.1 9 ≤ 20000 := hT.1 9
                      have v16 : 0 ≤ τ22.1 16 ∧ τ22.1 16 ≤ 60000 := hT.1 16
                      have v17 : 0 ≤ τ22.1 17 ∧ τ22.1 17 ≤ 60000 := hT.1 17
                      have v18 : 0 ≤ τ22.1 18 ∧ τ22.1 18 ≤ 60000 := hT.1 18
                      have v19 : (-1) ≤ τ22.1 19 ∧ τ22.1 19 ≤ 125 := hT.1 19
                      have v20 : 0 ≤ τ22.1 20 ∧ τ22.1 20 ≤ 19 := hT.1 20
                      have v22 : 0 ≤ τ22.1 22 ∧ τ22.1 22 ≤ 1499 := hT.1 22
                      have a0_17 : 0 ≤ τ22.2.1 0 (τ22.1 17) ∧ τ22.2.1 0 (τ22.1 17) ≤ 255 := hT.2 0 _
                      have a25_22 : 0 ≤ τ22.2.1 25 (τ22.1 22) ∧ τ22.2.1 25 (τ22.1 22) ≤ 20000 := hT.2 25 _
                      have a26_22 : 0 ≤ τ22.2.1 26 (τ22.1 22) ∧ τ22.2.1 26 (τ22.1 22) ≤ 20000 := hT.2 26 _
                      have a28_9 : 0 ≤ τ22.2.1 28 (τ22.1 9) ∧ τ22.2.1 28 (τ22.1 9) ≤ 1 := hT.2 28 _
                      have av9 : σ.1 9 ≤ τ22.1 9 := ag.1 9 (by decide)
                      exact ih_0 _ (show (3 * ((τ22.1 0) - (τ22.1 16)) + z_0 ((τ22.1 20)) + 1 - z_0 ((τ22.1 19)) : Int) < ((m_0 : Nat) : Int) from by (have zz0 := z_e ((τ22.1 20)); have zz1 := z_e ((τ22.1 19)); (first | omega | (simp only [st_s] <;> omega) | assumption | omega | fail))) hT ag (show τ22.1 0 = σ.1 0 from by first | exact W0 | omega) (show τ22.1 3 = σ.1 3 from by first | exact W3 | omega) (show τ22.1 5 = σ.1 5 from by first | exact W5 | omega) (show τ22.1 6 = σ.1 6 from by first | exact W6 | omega) (show τ22.1 7 = σ.1 7 from by first | exact W7 | omega) (show τ22.1 8 = σ.1 8 from by first | exact W8 | omega) (show τ22.1 22 = σ.1 22 from by first | exact W22 | omega) G0 G6 G7 G25 (show (τ22.1 16) ≤ (τ22.1 0) from by (first | omega | (simp only [st_s] <;> omega) | assumption | omega | fail)) (show (τ22.1 17) + (τ22.1 18) ≤ (τ22.1 0) from by (first | omega | (simp only [st_s] <;> omega) | assumption | omega | fail)) (show oc (τ22.2.1 6) < 4096 from by (first | omega | (simp only [st_s] <;> omega) | assumption | omega | fail)) (show oc (τ22.2.1 7) < 4096 from by (first | omega | (simp only [st_s] <;> omega) | assumption | omega | fail)) (show τ22.2.1 25 (τ22.1 22) + τ22.2.1 26 (τ22.1 22) = (τ22.1 9) from Z4) (show ¬ (σ.1 20) = 0 → (τ22.1 20) = (σ.1 20) from by (first | omega | (simp only [st_s] <;> omega) | assumption | omega | fail)) (show j_eq ((σ.1 9)) (σ.2.1 28) (τ22.2.1 28) from Y8) (show ca (τ22.2.1 28) ((τ22.1 9)) = ca (σ.2.1 28) ((σ.1 9)) from Y9) (show (σ.1 16) ≤ (τ22.1 16) from by (first | omega | (simp only [st_s] <;> omega) | assumption | omega | fail)) (show n_sp2 (τ22.2.1 25 (τ22.1 22)) (τ22.1 9) (τ22.1 22) (τ22.2.1 27) (τ22.2.1 28) from NSP)
                ·
                  refine ⟨_, K_X13_failHere hT (show 0 ≤ (5 : Int) from by (first | omega | (simp only [st_s] <;> omega) | assumption | omega | fail)) (show (5 : Int) ≤ 19 from by (first | omega | (simp only [st_s] <;> omega) | assumption | omega | fail)), ?_⟩
                  intro τ18 hn_τ18 hf_τ18 hq
                  obtain ⟨hT, q16_1, q16_2⟩ := hq
                  replace q16_1 : ¬ (τ_0.1 20) = 0 → (τ18.1 20) = (τ_0.1 20) := q16_1
                  replace q16_2 : (τ_0.1 20) = 0 → (τ18.1 20) = (5 : Int) := q16_2
                  replace ag : m_ag σ τ18 := ag_r ag hf_τ18 rfl rfl
                  have w0_τ18 : τ18.1 0 = τ_0.1 0 := hf_τ18.1 0 (by decide)
                  have w3_τ18 : τ18.1 3 = τ_0.1 3 := hf_τ18.1 3 (by decide)
                  have w5_τ18 : τ18.1 5 = τ_0.1 5 := hf_τ18.1 5 (by decide)
                  have w6_τ18 : τ18.1 6 = τ_0.1 6 := hf_τ18.1 6 (by decide)
                  have w7_τ18 : τ18.1 7 = τ_0.1 7 := hf_τ18.1 7 (by decide)
                  have w8_τ18 : τ18.1 8 = τ_0.1 8 := hf_τ18.1 8 (by decide)
                  have w9_τ18 : τ18.1 9 = τ_0.1 9 := hf_τ18.1 9 (by decide)
                  have w16_τ18 : τ18.1 16 = τ_0.1 16 := hf_τ18.1 16 (by decide)
                  have w17_τ18 : τ18.1 17 = τ_0.1 17 := hf_τ18.1 17 (by decide)
                  have w18_τ18 : τ18.1 18 = τ_0.1 18 := hf_τ18.1 18 (by decide)
                  have w19_τ18 : τ18.1 19 = τ_0.1 19 := hf_τ18.1 19 (by decide)
                  have w22_τ18 : τ18.1 22 = τ_0.1 22 := hf_τ18.1 22 (by decide)
                  have g0_τ18 : τ18.2.1 0 = τ_0.2.1 0 := hf_τ18.2.1 0 (by decide)
                  have g6_τ18 : τ18.2.1 6 = τ_0.2.1 6 := hf_τ18.2.1 6 (by decide)
                  have g7_τ18 : τ18.2.1 7 = τ_0.2.1 7 := hf_τ18.2.1 7 (by decide)
                  have g25_τ18 : τ18.2.1 25 = τ_0.2.1 25 := hf_τ18.2.1 25 (by decide)
                  have g26_τ18 : τ18.2.1 26 = τ_0.2.1 26 := hf_τ18.2.1 26 (by decide)
                  have g27_τ18 : τ18.2.1 27 = τ_0.2.1 27 := hf_τ18.2.1 27 (by decide)
                  have g28_τ18 : τ18.2.1 28 = τ_0.2.1 28 := hf_τ18.2.1 28 (by decide)
                  first | (have o6_τ18 := congrArg oc g6_τ18) | skip
                  first | (have o7_τ18 := congrArg oc g7_τ18) | skip
                  have W0 : τ18.1 0 = σ.1 0 := by first | exact w0_τ18.trans W0 | omega
                  have W3 : τ18.1 3 = σ.1 3 := by first | exact w3_τ18.trans W3 | omega
                  have W5 : τ18.1 5 = σ.1 5 := by first | exact w5_τ18.trans W5 | omega
                  have W6 : τ18.1 6 = σ.1 6 := by first | exact w6_τ18.trans W6 | omega
                  have W7 : τ18.1 7 = σ.1 7 := by first | exact w7_τ18.trans W7 | omega
                  have W8 : τ18.1 8 = σ.1 8 := by first | exact w8_τ18.trans W8 | omega
                  have W22 : τ18.1 22 = σ.1 22 := by first | exact w22_τ18.trans W22 | omega
                  have G0 : τ18.2.1 0 = σ.2.1 0 := (g0_τ18).trans G0
                  have G6 : τ18.2.1 6 = σ.2.1 6 := (g6_τ18).trans G6
                  have G7 : τ18.2.1 7 = σ.2.1 7 := (g7_τ18).trans G7
                  have G25 : τ18.2.1 25 = σ.2.1 25 := (g25_τ18).trans G25
                  have y0_17_τ18 : τ18.2.1 0 (τ18.1 17) = (τ_0.2.1 0) (τ_0.1 17) := by rw [g0_τ18, w17_τ18]
                  have y25_22_τ18 : τ18.2.1 25 (τ18.1 22) = (τ_0.2.1 25) (τ_0.1 22) := by rw [g25_τ18, w22_τ18]
                  have y26_22_τ18 : τ18.2.1 26 (τ18.1 22) = (τ_0.2.1 26) (τ_0.1 22) := by rw [g26_τ18, w22_τ18]
                  have y28_9_τ18 : τ18.2.1 28 (τ18.1 9) = (τ_0.2.1 28) (τ_0.1 9) := by rw [g28_τ18, w9_τ18]
                  have Z4 : τ18.2.1 25 (τ18.1 22) + τ18.2.1 26 (τ18.1 22) = (τ18.1 9) := by rw [show (τ18.2.1 25 (τ18.1 22) + τ18.2.1 26 (τ18.1 22) = (τ18.1 9)) = (τ_0.2.1 25 (τ_0.1 22) + τ_0.2.1 26 (τ_0.1 22) = (τ_0.1 9)) from by rw [w9_τ18, w22_τ18, g25_τ18, g26_τ18]]; exact Z4
                  have Y8 : j_eq ((σ.1 9)) (σ.2.1 28) (τ18.2.1 28) := by rw [show (j_eq ((σ.1 9)) (σ.2.1 28) (τ18.2.1 28)) = (j_eq ((σ.1 9)) (σ.2.1 28) (τ_0.2.1 28)) from by rw [g28_τ18]]; exact Y8
                  have Y9 : ca (τ18.2.1 28) ((τ18.1 9)) = ca (σ.2.1 28) ((σ.1 9)) := by rw [show (ca (τ18.2.1 28) ((τ18.1 9)) = ca (σ.2.1 28) ((σ.1 9))) = (ca (τ_0.2.1 28) ((τ_0.1 9)) = ca (σ.2.1 28) ((σ.1 9))) from by rw [w9_τ18, g28_τ18]]; exact Y9
                  have NSP : n_sp2 (τ18.2.1 25 (τ18.1 22)) (τ18.1 9) (τ18.1 22) (τ18.2.1 27) (τ18.2.1 28) := by rw [show (n_sp2 (τ18.2.1 25 (τ18.1 22)) (τ18.1 9) (τ18.1 22) (τ18.2.1 27) (τ18.2.1 28)) = (n_sp2 (τ_0.2.1 25 (τ_0.1 22)) (τ_0.1 9) (τ_0.1 22) (τ_0.2.1 27) (τ_0.2.1 28)) from by rw [w9_τ18, w22_τ18, g25_τ18, g27_τ18, g28_τ18]]; exact NSP
                  have A0 : ∀ j, 0 ≤ τ18.2.1 0 j ∧ τ18.2.1 0 j ≤ 255 := fun j => hT.2 0 j
                  have A6 : ∀ j, (-1) ≤ τ18.2.1 6 j ∧ τ18.2.1 6 j ≤ 999 := fun j => hT.2 6 j
                  have A7 : ∀ j, (-1) ≤ τ18.2.1 7 j ∧ τ18.2.1 7 j ≤ 1499 := fun j => hT.2 7 j
                  have A25 : ∀ j, 0 ≤ τ18.2.1 25 j ∧ τ18.2.1 25 j ≤ 20000 := fun j => hT.2 25 j
                  have A26 : ∀ j, 0 ≤ τ18.2.1 26 j ∧ τ18.2.1 26 j ≤ 20000 := fun j => hT.2 26 j
                  have A27 : ∀ j, (-300) ≤ τ18.2.1 27 j ∧ τ18.2.1 27 j ≤ 1499 := fun j => hT.2 27 j
                  have A28 : ∀ j, 0 ≤ τ18.2.1 28 j ∧ τ18.2.1 28 j ≤ 1 := fun j => hT.2 28 j
                  have v0 : 0 ≤ τ18.1 0 ∧ τ18.1 0 ≤ 60000 := hT.1 0
                  have v3 : 0 ≤ τ18.1 3 ∧ τ18.1 3 ≤ 1000 := hT.1 3
                  have v5 : 0 ≤ τ18.1 5 ∧ τ18.1 5 ≤ 1500 := hT.1 5
                  have v6 : 0 ≤ τ18.1 6 ∧ τ18.1 6 ≤ 30000 := hT.1 6
                  have v7 : 0 ≤ τ18.1 7 ∧ τ18.1 7 ≤ 90000 := hT.1 7
                  have v8 : 0 ≤ τ18.1 8 ∧ τ18.1 8 ≤ 20000 := hT.1 8
                  have v9 : 0 ≤ τ18.1 9 ∧ τ18.1 9 ≤ 20000 := hT.1 9
                  have v16 : 0 ≤ τ18.1 16 ∧ τ18.1 16 ≤ 60000 := hT.1 16
                  have v17 : 0 ≤ τ18.1 17 ∧ τ18.1 17 ≤ 60000 := hT.1 17
                  have v18 : 0 ≤ τ18.1 18 ∧ τ18.1 18 ≤ 60000 := hT.1 18
                  have v19 : (-1) ≤ τ18.1 19 ∧ τ18.1 19 ≤ 125 := hT.1 19
                  have v20 : 0 ≤ τ18.1 20 ∧ τ18.1 20 ≤ 19 := hT.1 20
                  have v22 : 0 ≤ τ18.1 22 ∧ τ18.1 22 ≤ 1499 := hT.1 22
                  have a0_17 : 0 ≤ τ18.2.1 0 (τ18.1 17) ∧ τ18.2.1 0 (τ18.1 17) ≤ 255 := hT.2 0 _
                  have a25_22 : 0 ≤ τ18.2.1 25 (τ18.1 22) ∧ τ18.2.1 25 (τ18.1 22) ≤ 20000 := hT.2 25 _
                  have a26_22 : 0 ≤ τ18.2.1 26 (τ18.1 22) ∧ τ18.2.1 26 (τ18.1 22) ≤ 20000 := hT.2 26 _
                  have a28_9 : 0 ≤ τ18.2.1 28 (τ18.1 9) ∧ τ18.2.1 28 (τ18.1 9) ≤ 1 := hT.2 28 _
                  have av9 : σ.1 9 ≤ τ18.1 9 := ag.1 9 (by decide)
                  refine h111 _ ?_
                  refine ⟨fun c19 => ?_, fun c19 => ?_⟩
                  ·
                    exact ih_0 _ (show (3 * ((τ18.1 0) - (τ18.1 16)) + z_0 ((τ18.1 20)) + 1 - z_0 ((τ18.1 19)) : Int) < ((m_0 : Nat) : Int) from by (have zz0 := z_e ((τ18.1 20)); have zz1 := z_e ((τ18.1 19)); (first | omega | (simp only [st_s] <;> omega) | assumption | omega | fail))) hT ag (show τ18.1 0 = σ.1 0 from by first | exact W0 | omega) (show τ18.1 3 = σ.1 3 from by first | exact W3 | omega) (show τ18.1 5 = σ.1 5 from by first | exact W5 | omega) (show τ18.1 6 = σ.1 6 from by first | exact W6 | omega) (show τ18.1 7 = σ.1 7 from by first | exact W7 | omega) (show τ18.1 8 = σ.1 8 from by first | exact W8 | omega) (show τ18.1 22 = σ.1 22 from by first | exact W22 | omega) G0 G6 G7 G25 (show (τ18.1 16) ≤ (τ18.1 0) from by (first | omega | (simp only [st_s] <;> omega) | assumption | omega | fail)) (show (τ18.1 17) + (τ18.1 18) ≤ (τ18.1 0) from by (first | omega | (simp only [st_s] <;> omega) | assumption | omega | fail)) (show oc (τ18.2.1 6) < 4096 from by (first | omega | (simp only [st_s] <;> omega) | assumption | omega | fail)) (show oc (τ18.2.1 7) < 4096 from by (first | omega | (simp only [st_s] <;> omega) | assumption | omega | fail)) (show τ18.2.1 25 (τ18.1 22) + τ18.2.1 26 (τ18.1 22) = (τ18.1 9) from Z4) (show ¬ (σ.1 20) = 0 → (τ18.1 20) = (σ.1 20) from by (first | omega | (simp only [st_s] <;> omega) | assumption | omega | fail)) (show j_eq ((σ.1 9)) (σ.2.1 28) (τ18.2.1 28) from Y8) (show ca (τ18.2.1 28) ((τ18.1 9)) = ca (σ.2.1 28) ((σ.1 9)) from Y9) (show (σ.1 16) ≤ (τ18.1 16) from by (first | omega | (simp only [st_s] <;> omega) | assumption | omega | fail)) (show n_sp2 (τ18.2.1 25 (τ18.1 22)) (τ18.1 9) (τ18.1 22) (τ18.2.1 27) (τ18.2.1 28) from NSP)
                  ·
                    refine ⟨_, K_X13_next hT (show (τ18.1 16) ≤ (τ18.1 0) from by (first | omega | (simp only [st_s] <;> omega) | assumption | omega | fail)), ?_⟩
                    intro τ22 hn_τ22 hf_τ22 hq
                    obtain ⟨hT, q20_1, q20_2, q20_3, q20_4, q20_5⟩ := hq
                    replace q20_1 : (τ22.1 16) ≤ (τ22.1 0) := q20_1
                    replace q20_2 : (τ22.1 17) + (τ22.1 18) ≤ (τ22.1 0) := q20_2
                    replace q20_3 : (τ18.1 16) ≤ (τ22.1 16) := q20_3
                    replace q20_4 : ¬ (τ18.1 20) = 0 → (τ22.1 20) = (τ18.1 20) := q20_4
                    replace q20_5 : (τ22.1 20) = 0 → ¬ (τ22.1 19) = 0 → (τ18.1 16) < (τ22.1 16) ∧ 0 < (τ22.1 18) := q20_5
                    replace ag : m_ag σ τ22 := ag_r ag hf_τ22 rfl rfl
                    have w0_τ22 : τ22.1 0 = τ18.1 0 := hf_τ22.1 0 (by decide)
                    have w3_τ22 : τ22.1 3 = τ18.1 3 := hf_τ22.1 3 (by decide)
                    have w5_τ22 : τ22.1 5 = τ18.1 5 := hf_τ22.1 5 (by decide)
                    have w6_τ22 : τ22.1 6 = τ18.1 6 := hf_τ22.1 6 (by decide)
                    have w7_τ22 : τ22.1 7 = τ18.1 7 := hf_τ22.1 7 (by decide)
                    have w8_τ22 : τ22.1 8 = τ18.1 8 := hf_τ22.1 8 (by decide)
                    have w9_τ22 : τ22.1 9 = τ18.1 9 := hf_τ22.1 9 (by decide)
                    have w22_τ22 : τ22.1 22 = τ18.1 22 := hf_τ22.1 22 (by decide)
                    have g0_τ22 : τ22.2.1 0 = τ18.2.1 0 := hf_τ22.2.1 0 (by decide)
                    have g6_τ22 : τ22.2.1 6 = τ18.2.1 6 := hf_τ22.2.1 6 (by decide)
                    have g7_τ22 : τ22.2.1 7 = τ18.2.1 7 := hf_τ22.2.1 7 (by decide)
                    have g25_τ22 : τ22.2.1 25 = τ18.2.1 25 := hf_τ22.2.1 25 (by decide)
                    have g26_τ22 : τ22.2.1 26 = τ18.2.1 26 := hf_τ22.2.1 26 (by decide)
                    have g27_τ22 : τ22.2.1 27 = τ18.2.1 27 := hf_τ22.2.1 27 (by decide)
                    have g28_τ22 : τ22.2.1 28 = τ18.2.1 28 := hf_τ22.2.1 28 (by decide)
                    first | (have o6_τ22 := congrArg oc g6_τ22) | skip
                    first | (have o7_τ22 := congrArg oc g7_τ22) | skip
                    have W0 : τ22.1 0 = σ.1 0 := by first | exact w0_τ22.trans W0 | omega
                    have W3 : τ22.1 3 = σ.1 3 := by first | exact w3_τ22.trans W3 | omega
                    have W5 : τ22.1 5 = σ.1 5 := by first | exact w5_τ22.trans W5 | omega
                    have W6 : τ22.1 6 = σ.1 6 := by first | exact w6_τ22.trans W6 | omega
                    have W7 : τ22.1 7 = σ.1 7 := by first | exact w7_τ22.trans W7 | omega
                    have W8 : τ22.1 8 = σ.1 8 := by first | exact w8_τ22.trans W8 | omega
                    have W22 : τ22.1 22 = σ.1 22 := by first | exact w22_τ22.trans W22 | omega
                    have G0 : τ22.2.1 0 = σ.2.1 0 := (g0_τ22).trans G0
                    have G6 : τ22.2.1 6 = σ.2.1 6 := (g6_τ22).trans G6
                    have G7 : τ22.2.1 7 = σ.2.1 7 := (g7_τ22).trans G7
                    have G25 : τ22.2.1 25 = σ.2.1 25 := (g25_τ22).trans G25
                    have y25_22_τ22 : τ22.2.1 25 (τ22.1 22) = (τ18.2.1 25) (τ18.1 22) := by rw [g25_τ22, w22_τ22]
                    have y26_22_τ22 : τ22.2.1 26 (τ22.1 22) = (τ18.2.1 26) (τ18.1 22) := by rw [g26_τ22, w22_τ22]
                    have y28_9_τ22 : τ22.2.1 28 (τ22.1 9) = (τ18.2.1 28) (τ18.1 9) := by rw [g28_τ22, w9_τ22]
                    have Z4 : τ22.2.1 25 (τ22.1 22) + τ22.2.1 26 (τ22.1 22) = (τ22.1 9) := by rw [show (τ22.2.1 25 (τ22.1 22) + τ22.2.1 26 (τ22.1 22) = (τ22.1 9)) = (τ18.2.1 25 (τ18.1 22) + τ18.2.1 26 (τ18.1 22) = (τ18.1 9)) from by rw [w9_τ22, w22_τ22, g25_τ22, g26_τ22]]; exact Z4
                    have Y8 : j_eq ((σ.1 9)) (σ.2.1 28) (τ22.2.1 28) := by rw [show (j_eq ((σ.1 9)) (σ.2.1 28) (τ22.2.1 28)) = (j_eq ((σ.1 9)) (σ.2.1 28) (τ18.2.1 28)) from by rw [g28_τ22]]; exact Y8
                    have Y9 : ca (τ22.2.1 28) ((τ22.1 9)) = ca (σ.2.1 28) ((σ.1 9)) := by rw [show (ca (τ22.2.1 28) ((τ22.1 9)) = ca (σ.2.1 28) ((σ.1 9))) = (ca (τ18.2.1 28) ((τ18.1 9)) = ca (σ.2.1 28) ((σ.1 9))) from by rw [w9_τ22, g28_τ22]]; exact Y9
                    have NSP : n_sp2 (τ22.2.1 25 (τ22.1 22)) (τ22.1 9) (τ22.1 22) (τ22.2.1 27) (τ22.2.1 28) := by rw [show (n_sp2 (τ22.2.1 25 (τ22.1 22)) (τ22.1 9) (τ22.1 22) (τ22.2.1 27) (τ22.2.1 28)) = (n_sp2 (τ18.2.1 25 (τ18.1 22)) (τ18.1 9) (τ18.1 22) (τ18.2.1 27) (τ18.2.1 28)) from by rw [w9_τ22, w22_τ22, g25_τ22, g27_τ22, g28_τ22]]; exact NSP
                    have A0 : ∀ j, 0 ≤ τ22.2.1 0 j ∧ τ22.2.1 0 j ≤ 255 := fun j => hT.2 0 j
                    have A6 : ∀ j, (-1) ≤ τ22.2.1 6 j ∧ τ22.2.1 6 j ≤ 999 := fun j => hT.2 6 j
                    have A7 : ∀ j, (-1) ≤ τ22.2.1 7 j ∧ τ22.2.1 7 j ≤ 1499 := fun j => hT.2 7 j
                    have A25 : ∀ j, 0 ≤ τ22.2.1 25 j ∧ τ22.2.1 25 j ≤ 20000 := fun j => hT.2 25 j
                    have A26 : ∀ j, 0 ≤ τ22.2.1 26 j ∧ τ22.2.1 26 j ≤ 20000 := fun j => hT.2 26 j
                    have A27 : ∀ j, (-300) ≤ τ22.2.1 27 j ∧ τ22.2.1 27 j ≤ 1499 := fun j => hT.2 27 j
                    have A28 : ∀ j, 0 ≤ τ22.2.1 28 j ∧ τ22.2.1 28 j ≤ 1 := fun j => hT.2 28 j
                    have v0 : 0 ≤ τ22.1 0 ∧ τ22.1 0 ≤ 60000 := hT.1 0
                    have v3 : 0 ≤ τ22.1 3 ∧ τ22.1 3 ≤ 1000 := hT.1 3
                    have v5 : 0 ≤ τ22.1 5 ∧ τ22.1 5 ≤ 1500 := hT.1 5
                    have v6 : 0 ≤ τ22.1 6 ∧ τ22.1 6 ≤ 30000 := hT.1 6
                    have v7 : 0 ≤ τ22.1 7 ∧ τ22.1 7 ≤ 90000 := hT.1 7
                    have v8 : 0 ≤ τ22.1 8 ∧ τ22.1 8 ≤ 20000 := hT.1 8
                    have v9 : 0 ≤ τ22.1 9 ∧ τ22.1 9 ≤ 20000 := hT.1 9
                    have v16 : 0 ≤ τ22.1 16 ∧ τ22.1 16 ≤ 60000 := hT.1 16
                    have v17 : 0 ≤ τ22.1 17 ∧ τ22.1 17 ≤ 60000 := hT.1 17
                    have v18 : 0 ≤ τ22.1 18 ∧ τ22.1 18 ≤ 60000 := hT.1 18
                    have v19 : (-1) ≤ τ22.1 19 ∧ τ22.1 19 ≤ 125 := hT.1 19
                    have v20 : 0 ≤ τ22.1 20 ∧ τ22.1 20 ≤ 19 := hT.1 20
                    have v22 : 0 ≤ τ22.1 22 ∧ τ22.1 22 ≤ 1499 := hT.1 22
                    have a0_17 : 0 ≤ τ22.2.1 0 (τ22.1 17) ∧ τ22.2.1 0 (τ22.1 17) ≤ 255 := hT.2 0 _
                    have a25_22 : 0 ≤ τ22.2.1 25 (τ22.1 22) ∧ τ22.2.1 25 (τ22.1 22) ≤ 20000 := hT.2 25 _
                    have a26_22 : 0 ≤ τ22.2.1 26 (τ22.1 22) ∧ τ22.2.1 26 (τ22.1 22) ≤ 20000 := hT.2 26 _
                    have a28_9 : 0 ≤ τ22.2.1 28 (τ22.1 9) ∧ τ22.2.1 28 (τ22.1 9) ≤ 1 := hT.2 28 _
                    have av9 : σ.1 9 ≤ τ22.1 9 := ag.1 9 (by decide)
                    exact ih_0 _ (show (3 * ((τ22.1 0) - (τ22.1 16)) + z_0 ((τ22.1 20)) + 1 - z_0 ((τ22.1 19)) : Int) < ((m_0 : Nat) : Int) from by (have zz0 := z_e ((τ22.1 20)); have zz1 := z_e ((τ22.1 19)); (first | omega | (simp only [st_s] <;> omega) | assumption | omega | fail))) hT ag (show τ22.1 0 = σ.1 0 from by first | exact W0 | omega) (show τ22.1 3 = σ.1 3 from by first | exact W3 | omega) (show τ22.1 5 = σ.1 5 from by first | exact W5 | omega) (show τ22.1 6 = σ.1 6 from by first | exact W6 | omega) (show τ22.1 7 = σ.1 7 from by first | exact W7 | omega) (show τ22.1 8 = σ.1 8 from by first | exact W8 | omega) (show τ22.1 22 = σ.1 22 from by first | exact W22 | omega) G0 G6 G7 G25 (show (τ22.1 16) ≤ (τ22.1 0) from by (first | omega | (simp only [st_s] <;> omega) | assumption | omega | fail)) (show (τ22.1 17) + (τ22.1 18) ≤ (τ22.1 0) from by (first | omega | (simp only [st_s] <;> omega) | assumption | omega | fail)) (show oc (τ22.2.1 6) < 4096 from by (first | omega | (simp only [st_s] <;> omega) | assumption | omega | fail)) (show oc (τ22.2.1 7) < 4096 from by (first | omega | (simp only [st_s] <;> omega) | assumption | omega | fail)) (show τ22.2.1 25 (τ22.1 22) + τ22.2.1 26 (τ22.1 22) = (τ22.1 9) from Z4) (show ¬ (σ.1 20) = 0 → (τ22.1 20) = (σ.1 20) from by (first | omega | (simp only [st_s] <;> omega) | assumption | omega | fail)) (show j_eq ((σ.1 9)) (σ.2.1 28) (τ22.2.1 28) from Y8) (show ca (τ22.2.1 28) ((τ22.1 9)) = ca (σ.2.1 28) ((σ.1 9)) from Y9) (show (σ.1 16) ≤ (τ22.1 16) from by (first | omega | (simp only [st_s] <;> omega) | assumption | omega | fail)) (show n_sp2 (τ22.2.1 25 (τ22.1 22)) (τ22.1 9) (τ22.1 22) (τ22.2.1 27) (τ22.2.1 28) from NSP)
            ·
              refine ⟨(show 0 ≤ τ_0.1 17 ∧ τ_0.1 17 < 60000 from by (first | omega | (simp only [st_s] <;> omega) | assumption | omega | fail)), ?_⟩
              intro x6 r_x6 e_x6
              have b_x6 : 0 ≤ x6 ∧ x6 ≤ 255 := by rw [e_x6]; exact hT.2 0 _
              refine ⟨fun c7 => ?_, fun c7 => ?_⟩
              ·
                refine h60 _ ?_
                refine ⟨_, K_X13_stepHere hT (show (τ_0.1 17) + (τ_0.1 18) ≤ (τ_0.1 0) from by (first | omega | (simp only [st_s] <;> omega) | assumption | omega | fail)) (show oc (τ_0.2.1 7) < 4096 from by (first | omega | (simp only [st_s] <;> omega) | assumption | omega | fail)), ?_⟩
                intro x12 r_x12 hq
                obtain ⟨q11_1, q11_2⟩ := hq
                replace q11_1 : -1 ≤ x12 ∧ x12 < (τ_0.1 22) ∨ x12 = -1 := q11_1
                replace q11_2 : -1 ≤ x12 ∧ x12 ≤ 1499 := q11_2
                refine ⟨fun c14 => ?_, fun c14 => ?_⟩
                ·
                  refine h88 _ _ ?_
                  refine ⟨fun c23 => ?_, fun c23 => ?_⟩
                  ·
                    refine ⟨_, K_X13_addStep hT (show -300 ≤ x12 from by (first | omega | (simp only [st_s] <;> omega) | assumption | omega | fail)) (show x12 ≤ 1499 from by (first | omega | (simp only [st_s] <;> omega) | assumption | omega | fail)) (show 0 ≤ (τ_0.1 17) from by (first | omega | (simp only [st_s] <;> omega) | assumption | omega | fail)) (show (τ_0.1 17) ≤ 60000 from by (first | omega | (simp only [st_s] <;> omega) | assumption | omega | fail)) (show (τ_0.1 9) < 20000 from by (first | omega | (simp only [st_s] <;> omega) | assumption | omega | fail)) (show τ_0.2.1 26 (τ_0.1 22) < 20000 from by (first | omega | (simp only [st_s] <;> omega) | assumption | omega | fail)) (show (τ_0.1 22) = (τ_0.1 5) from by (first | omega | (simp only [st_s] <;> omega) | assumption | omega | fail)), ?_⟩
                    intro τ26 hn_τ26 hf_τ26 hq
                    obtain ⟨hT, q24_1, q24_2, q24_3, q24_4, q24_5, q24_6, q24_7⟩ := hq
                    replace q24_1 : (τ26.1 9) = (τ_0.1 9) + 1 := q24_1
                    replace q24_2 : τ26.2.1 26 (τ26.1 22) = τ_0.2.1 26 (τ_0.1 22) + 1 := q24_2
                    replace q24_3 : τ26.2.1 27 = st (τ_0.2.1 27) (τ_0.1 9) x12 := q24_3
                    replace q24_4 : j_eq ((τ_0.1 9)) (τ_0.2.1 28) (τ26.2.1 28) := q24_4
                    replace q24_5 : ca (τ26.2.1 28) ((τ26.1 9)) = ca (τ_0.2.1 28) ((τ_0.1 9)) := q24_5
                    replace q24_6 : τ26.2.1 28 (τ_0.1 9) = 0 := q24_6
                    replace q24_7 : m_ag τ_0 τ26 := q24_7
                    replace ag : m_ag σ τ26 := ag_t ag q24_7 rfl
                    have w0_τ26 : τ26.1 0 = τ_0.1 0 := hf_τ26.1 0 (by decide)
                    have w3_τ26 : τ26.1 3 = τ_0.1 3 := hf_τ26.1 3 (by decide)
                    have w5_τ26 : τ26.1 5 = τ_0.1 5 := hf_τ26.1 5 (by decide)
                    have w6_τ26 : τ26.1 6 = τ_0.1 6 := hf_τ26.1 6 (by decide)
                    have w7_τ26 : τ26.1 7 = τ_0.1 7 := hf_τ26.1 7 (by decide)
                    have w8_τ26 : τ26.1 8 = τ_0.1 8 := hf_τ26.1 8 (by decide)
                    have w16_τ26 : τ26.1 16 = τ_0.1 16 := hf_τ26.1 16 (by decide)
                    have w17_τ26 : τ26.1 17 = τ_0.1 17 := hf_τ26.1 17 (by decide)
                    have w18_τ26 : τ26.1 18 = τ_0.1 18 := hf_τ26.1 18 (by decide)
                    have w19_τ26 : τ26.1 19 = τ_0.1 19 := hf_τ26.1 19 (by decide)
                    have w20_τ26 : τ26.1 20 = τ_0.1 20 := hf_τ26.1 20 (by decide)
                    have w22_τ26 : τ26.1 22 = τ_0.1 22 := hf_τ26.1 22 (by decide)
                    have g0_τ26 : τ26.2.1 0 = τ_0.2.1 0 := hf_τ26.2.1 0 (by decide)
                    have g6_τ26 : τ26.2.1 6 = τ_0.2.1 6 := hf_τ26.2.1 6 (by decide)
                    have g7_τ26 : τ26.2.1 7 = τ_0.2.1 7 := hf_τ26.2.1 7 (by decide)
                    have g25_τ26 : τ26.2.1 25 = τ_0.2.1 25 := hf_τ26.2.1 25 (by decide)
                    first | (have o6_τ26 := congrArg oc g6_τ26) | skip
                    first | (have o7_τ26 := congrArg oc g7_τ26) | skip
                    have W0 : τ26.1 0 = σ.1 0 := by first | exact w0_τ26.trans W0 | omega
                    have W3 : τ26.1 3 = σ.1 3 := by first | exact w3_τ26.trans W3 | omega
                    have W5 : τ26.1 5 = σ.1 5 := by first | exact w5_τ26.trans W5 | omega
                    have W6 : τ26.1 6 = σ.1 6 := by first | exact w6_τ26.trans W6 | omega
                    have W7 : τ26.1 7 = σ.1 7 := by first | exact w7_τ26.trans W7 | omega
                    have W8 : τ26.1 8 = σ.1 8 := by first | exact w8_τ26.trans W8 | omega
                    have W22 : τ26.1 22 = σ.1 22 := by first | exact w22_τ26.trans W22 | omega
                    have G0 : τ26.2.1 0 = σ.2.1 0 := (g0_τ26).trans G0
                    have G6 : τ26.2.1 6 = σ.2.1 6 := (g6_τ26).trans G6
                    have G7 : τ26.2.1 7 = σ.2.1 7 := (g7_τ26).trans G7
                    have G25 : τ26.2.1 25 = σ.2.1 25 := (g25_τ26).trans G25
                    have y0_17_τ26 : τ26.2.1 0 (τ26.1 17) = (τ_0.2.1 0) (τ_0.1 17) := by rw [g0_τ26, w17_τ26]
                    have y25_22_τ26 : τ26.2.1 25 (τ26.1 22) = (τ_0.2.1 25) (τ_0.1 22) := by rw [g25_τ26, w22_τ26]
                    have A0 : ∀ j, 0 ≤ τ26.2.1 0 j ∧ τ26.2.1 0 j ≤ 255 := fun j => hT.2 0 j
                    have A6 : ∀ j, (-1) ≤ τ26.2.1 6 j ∧ τ26.2.1 6 j ≤ 999 := fun j => hT.2 6 j
                    have A7 : ∀ j, (-1) ≤ τ26.2.1 7 j ∧ τ26.2.1 7 j ≤ 1499 := fun j => hT.2 7 j
                    have A25 : ∀ j, 0 ≤ τ26.2.1 25 j ∧ τ26.2.1 25 j ≤ 20000 := fun j => hT.2 25 j
                    have A26 : ∀ j, 0 ≤ τ26.2.1 26 j ∧ τ26.2.1 26 j ≤ 20000 := fun j => hT.2 26 j
                    have A27 : ∀ j, (-300) ≤ τ26.2.1 27 j ∧ τ26.2.1 27 j ≤ 1499 := fun j => hT.2 27 j
                    have A28 : ∀ j, 0 ≤ τ26.2.1 28 j ∧ τ26.2.1 28 j ≤ 1 := fun j => hT.2 28 j
                    have v0 : 0 ≤ τ26.1 0 ∧ τ26.1 0 ≤ 60000 := hT.1 0
                    have v3 : 0 ≤ τ26.1 3 ∧ τ26.1 3 ≤ 1000 := hT.1 3
                    have v5 : 0 ≤ τ26.1 5 ∧ τ26.1 5 ≤ 1500 := hT.1 5
                    have v6 : 0 ≤ τ26.1 6 ∧ τ26.1 6 ≤ 30000 := hT.1 6
                    have v7 : 0 ≤ τ26.1 7 ∧ τ26.1 7 ≤ 90000 := hT.1 7
                    have v8 : 0 ≤ τ26.1 8 ∧ τ26.1 8 ≤ 20000 := hT.1 8
                    have v9 : 0 ≤ τ26.1 9 ∧ τ26.1 9 ≤ 20000 := hT.1 9
                    have v16 : 0 ≤ τ26.1 16 ∧ τ26.1 16 ≤ 60000 := hT.1 16
                    have v17 : 0 ≤ τ26.1 17 ∧ τ26.1 17 ≤ 60000 := hT.1 17
                    have v18 : 0 ≤ τ26.1 18 ∧ τ26.1 18 ≤ 60000 := hT.1 18
                    have v19 : (-1) ≤ τ26.1 19 ∧ τ26.1 19 ≤ 125 := hT.1 19
                    have v20 : 0 ≤ τ26.1 20 ∧ τ26.1 20 ≤ 19 := hT.1 20
                    have v22 : 0 ≤ τ26.1 22 ∧ τ26.1 22 ≤ 1499 := hT.1 22
                    have a0_17 : 0 ≤ τ26.2.1 0 (τ26.1 17) ∧ τ26.2.1 0 (τ26.1 17) ≤ 255 := hT.2 0 _
                    have a25_22 : 0 ≤ τ26.2.1 25 (τ26.1 22) ∧ τ26.2.1 25 (τ26.1 22) ≤ 20000 := hT.2 25 _
                    have a26_22 : 0 ≤ τ26.2.1 26 (τ26.1 22) ∧ τ26.2.1 26 (τ26.1 22) ≤ 20000 := hT.2 26 _
                    have a28_9 : 0 ≤ τ26.2.1 28 (τ26.1 9) ∧ τ26.2.1 28 (τ26.1 9) ≤ 1 := hT.2 28 _
                    have av9 : σ.1 9 ≤ τ26.1 9 := ag.1 9 (by decide)
                    have Z4 : τ26.2.1 25 (τ26.1 22) + τ26.2.1 26 (τ26.1 22) = τ26.1 9 := by omega
                    have Y8 := j_eqt Y8 (j_eqw q24_4 (show σ.1 9 ≤ τ_0.1 9 from by omega))
                    have Y9 := q24_5.trans Y9
                    have NSP : n_sp2 (τ26.2.1 25 (τ26.1 22)) (τ26.1 9) (τ26.1 22) (τ26.2.1 27) (τ26.2.1 28) := by (rw [show τ26.2.1 25 (τ26.1 22) = τ_0.2.1 25 (τ_0.1 22) from by omega, show τ26.1 9 = τ_0.1 9 + 1 from by omega, show τ26.1 22 = τ_0.1 22 from by omega]; exact n_sp2_a NSP q24_3 q24_4 (by omega) (by omega) (fun z => by omega) (fun _ => by omega))
                    refine h111 _ ?_
                    refine ⟨fun c19 => ?_, fun c19 => ?_⟩
                    ·
                      exact ih_0 _ (show (3 * ((τ26.1 0) - (τ26.1 16)) + z_0 ((τ26.1 20)) + 1 - z_0 ((τ26.1 19)) : Int) < ((m_0 : Nat) : Int) from by (have zz0 := z_e ((τ26.1 20)); have zz1 := z_e ((τ26.1 19)); (first | omega | (simp only [st_s] <;> omega) | assumption | omega | fail))) hT ag (show τ26.1 0 = σ.1 0 from by first | exact W0 | omega) (show τ26.1 3 = σ.1 3 from by first | exact W3 | omega) (show τ26.1 5 = σ.1 5 from by first | exact W5 | omega) (show τ26.1 6 = σ.1 6 from by first | exact W6 | omega) (show τ26.1 7 = σ.1 7 from by first | exact W7 | omega) (show τ26.1 8 = σ.1 8 from by first | exact W8 | omega) (show τ26.1 22 = σ.1 22 from by first | exact W22 | omega) G0 G6 G7 G25 (show (τ26.1 16) ≤ (τ26.1 0) from by (first | omega | (simp only [st_s] <;> omega) | assumption | omega | fail)) (show (τ26.1 17) + (τ26.1 18) ≤ (τ26.1 0) from by (first | omega | (simp only [st_s] <;> omega) | assumption | omega | fail)) (show oc (τ26.2.1 6) < 4096 from by (first | omega | (simp only [st_s] <;> omega) | assumption | omega | fail)) (show oc (τ26.2.1 7) < 4096 from by (first | omega | (simp only [st_s] <;> omega) | assumption | omega | fail)) (show τ26.2.1 25 (τ26.1 22) + τ26.2.1 26 (τ26.1 22) = (τ26.1 9) from Z4) (show ¬ (σ.1 20) = 0 → (τ26.1 20) = (σ.1 20) from by (first | omega | (simp only [st_s] <;> omega) | assumption | omega | fail)) (show j_eq ((σ.1 9)) (σ.2.1 28) (τ26.2.1 28) from Y8) (show ca (τ26.2.1 28) ((τ26.1 9)) = ca (σ.2.1 28) ((σ.1 9)) from Y9) (show (σ.1 16) ≤ (τ26.1 16) from by (first | omega | (simp only [st_s] <;> omega) | assumption | omega | fail)) (show n_sp2 (τ26.2.1 25 (τ26.1 22)) (τ26.1 9) (τ26.1 22) (τ26.2.1 27) (τ26.2.1 28) from NSP)
                    ·
                      refine ⟨_, K_X13_next hT (show (τ26.1 16) ≤ (τ26.1 0) from by (first | omega | (simp only [st_s] <;> omega) | assumption | omega | fail)), ?_⟩
                      intro τ22 hn_τ22 hf_τ22 hq
                      obtain ⟨hT, q20_1, q20_2, q20_3, q20_4, q20_5⟩ := hq
                      replace q20_1 : (τ22.1 16) ≤ (τ22.1 0) := q20_1
                      replace q20_2 : (τ22.1 17) + (τ22.1 18) ≤ (τ22.1 0) := q20_2
                      replace q20_3 : (τ26.1 16) ≤ (τ22.1 16) := q20_3
                      replace q20_4 : ¬ (τ26.1 20) = 0 → (τ22.1 20) = (τ26.1 20) := q20_4
                      replace q20_5 : (τ22.1 20) = 0 → ¬ (τ22.1 19) = 0 → (τ26.1 16) < (τ22.1 16) ∧ 0 < (τ22.1 18) := q20_5
                      replace ag : m_ag σ τ22 := ag_r ag hf_τ22 rfl rfl
                      have w0_τ22 : τ22.1 0 = τ26.1 0 := hf_τ22.1 0 (by decide)
                      have w3_τ22 : τ22.1 3 = τ26.1 3 := hf_τ22.1 3 (by decide)
                      have w5_τ22 : τ22.1 5 = τ26.1 5 := hf_τ22.1 5 (by decide)
                      have w6_τ22 : τ22.1 6 = τ26.1 6 := hf_τ22.1 6 (by decide)
                      have w7_τ22 : τ22.1 7 = τ26.1 7 := hf_τ22.1 7 (by decide)
                      have w8_τ22 : τ22.1 8 = τ26.1 8 := hf_τ22.1 8 (by decide)
                      have w9_τ22 : τ22.1 9 = τ26.1 9 := hf_τ22.1 9 (by decide)
                      have w22_τ22 : τ22.1 22 = τ26.1 22 := hf_τ22.1 22 (by decide)
                      have g0_τ22 : τ22.2.1 0 = τ26.2.1 0 := hf_τ22.2.1 0 (by decide)
                      have g6_τ22 : τ22.2.1 6 = τ26.2.1 6 := hf_τ22.2.1 6 (by decide)
                      have g7_τ22 : τ22.2.1 7 = τ26.2.1 7 := hf_τ22.2.1 7 (by decide)
                      have g25_τ22 : τ22.2.1 25 = τ26.2.1 25 := hf_τ22.2.1 25 (by decide)
                      have g26_τ22 : τ22.2.1 26 = τ26.2.1 26 := hf_τ22.2.1 26 (by decide)
                      have g27_τ22 : τ22.2.1 27 = τ26.2.1 27 := hf_τ22.2.1 27 (by decide)
                      have g28_τ22 : τ22.2.1 28 = τ26.2.1 28 := hf_τ22.2.1 28 (by decide)
                      first | (have o6_τ22 := congrArg oc g6_τ22) | skip
                      first | (have o7_τ22 := congrArg oc g7_τ22) | skip
                      have W0 : τ22.1 0 = σ.1 0 := by first | exact w0_τ22.trans W0 | omega
                      have W3 : τ22.1 3 = σ.1 3 := by first | exact w3_τ22.trans W3 | omega
                      have W5 : τ22.1 5 = σ.1 5 := by first | exact w5_τ22.trans W5 | omega
                      have W6 : τ22.1 6 = σ.1 6 := by first | exact w6_τ22.trans W6 | omega
                      have W7 : τ22.1 7 = σ.1 7 := by first | exact w7_τ22.trans W7 | omega
                      have W8 : τ22.1 8 = σ.1 8 := by first | exact w8_τ22.trans W8 | omega
                      have W22 : τ22.1 22 = σ.1 22 := by first | exact w22_τ22.trans W22 | omega
                      have G0 : τ22.2.1 0 = σ.2.1 0 := (g0_τ22).trans G0
                      have G6 : τ22.2.1 6 = σ.2.1 6 := (g6_τ22).trans G6
                      have G7 : τ22.2.1 7 = σ.2.1 7 := (g7_τ22).trans G7
                      have G25 : τ22.2.1 25 = σ.2.1 25 := (g25_τ22).trans G25
                      have y25_22_τ22 : τ22.2.1 25 (τ22.1 22) = (τ26.2.1 25) (τ26.1 22) := by rw [g25_τ22, w22_τ22]
                      have y26_22_τ22 : τ22.2.1 26 (τ22.1 22) = (τ26.2.1 26) (τ26.1 22) := by rw [g26_τ22, w22_τ22]
                      have y28_9_τ22 : τ22.2.1 28 (τ22.1 9) = (τ26.2.1 28) (τ26.1 9) := by rw [g28_τ22, w9_τ22]
                      have Z4 : τ22.2.1 25 (τ22.1 22) + τ22.2.1 26 (τ22.1 22) = (τ22.1 9) := by rw [show (τ22.2.1 25 (τ22.1 22) + τ22.2.1 26 (τ22.1 22) = (τ22.1 9)) = (τ26.2.1 25 (τ26.1 22) + τ26.2.1 26 (τ26.1 22) = (τ26.1 9)) from by rw [w9_τ22, w22_τ22, g25_τ22, g26_τ22]]; exact Z4
                      have Y8 : j_eq ((σ.1 9)) (σ.2.1 28) (τ22.2.1 28) := by rw [show (j_eq ((σ.1 9)) (σ.2.1 28) (τ22.2.1 28)) = (j_eq ((σ.1 9)) (σ.2.1 28) (τ26.2.1 28)) from by rw [g28_τ22]]; exact Y8
                      have Y9 : ca (τ22.2.1 28) ((τ22.1 9)) = ca (σ.2.1 28) ((σ.1 9)) := by rw [show (ca (τ22.2.1 28) ((τ22.1 9)) = ca (σ.2.1 28) ((σ.1 9))) = (ca (τ26.2.1 28) ((τ26.1 9)) = ca (σ.2.1 28) ((σ.1 9))) from by rw [w9_τ22, g28_τ22]]; exact Y9
                      have NSP : n_sp2 (τ22.2.1 25 (τ22.1 22)) (τ22.1 9) (τ22.1 22) (τ22.2.1 27) (τ22.2.1 28) := by rw [show (n_sp2 (τ22.2.1 25 (τ22.1 22)) (τ22.1 9) (τ22.1 22) (τ22.2.1 27) (τ22.2.1 28)) = (n_sp2 (τ26.2.1 25 (τ26.1 22)) (τ26.1 9) (τ26.1 22) (τ26.2.1 27) (τ26.2.1 28)) from by rw [w9_τ22, w22_τ22, g25_τ22, g27_τ22, g28_τ22]]; exact NSP
                      have A0 : ∀ j, 0 ≤ τ22.2.1 0 j ∧ τ22.2.1 0 j ≤ 255 := fun j => hT.2 0 j
                      have A6 : ∀ j, (-1) ≤ τ22.2.1 6 j ∧ τ22.2.1 6 j ≤ 999 := fun j => hT.2 6 j
                      have A7 : ∀ j, (-1) ≤ τ22.2.1 7 j ∧ τ22.2.1 7 j ≤ 1499 := fun j => hT.2 7 j
                      have A25 : ∀ j, 0 ≤ τ22.2.1 25 j ∧ τ22.2.1 25 j ≤ 20000 := fun j => hT.2 25 j
                      have A26 : ∀ j, 0 ≤ τ22.2.1 26 j ∧ τ22.2.1 26 j ≤ 20000 := fun j => hT.2 26 j
                      have A27 : ∀ j, (-300) ≤ τ22.2.1 27 j ∧ τ22.2.1 27 j ≤ 1499 := fun j => hT.2 27 j
                      have A28 : ∀ j, 0 ≤ τ22.2.1 28 j ∧ τ22.2.1 28 j ≤ 1 := fun j => hT.2 28 j
                      have v0 : 0 ≤ τ22.1 0 ∧ τ22.1 0 ≤ 60000 := hT.1 0
                      have v3 : 0 ≤ τ22.1 3 ∧ τ22.1 3 ≤ 1000 := hT.1 3
                      have v5 : 0 ≤ τ22.1 5 ∧ τ22.1 5 ≤ 1500 := hT.1 5
                      have v6 : 0 ≤ τ22.1 6 ∧ τ22.1 6 ≤ 30000 := hT.1 6
                      have v7 : 0 ≤ τ22.1 7 ∧ τ22.1 7 ≤ 90000 := hT.1 7
                      have v8 : 0 ≤ τ22.1 8 ∧ τ22.1 8 ≤ 20000 := hT.1 8
                      have v9 : 0 ≤ τ22.1 9 ∧ τ22.1 9 ≤ 20000 := hT.1 9
                      have v16 : 0 ≤ τ22.1 16 ∧ τ22.1 16 ≤ 60000 := hT.1 16
                      have v17 : 0 ≤ τ22.1 17 ∧ τ22.1 17 ≤ 60000 := hT.1 17
                      have v18 : 0 ≤ τ22.1 18 ∧ τ22.1 18 ≤ 60000 := hT.1 18
                      have v19 : (-1) ≤ τ22.1 19 ∧ τ22.1 19 ≤ 125 := hT.1 19
                      have v20 : 0 ≤ τ22.1 20 ∧ τ22.1 20 ≤ 19 := hT.1 20
                      have v22 : 0 ≤ τ22.1 22 ∧ τ22.1 22 ≤ 1499 := hT.1 22
                      have a0_17 : 0 ≤ τ22.2.1 0 (τ22.1 17) ∧ τ22.2.1 0 (τ22.1 17) ≤ 255 := hT.2 0 _
                      have a25_22 : 0 ≤ τ22.2.1 25 (τ22.1 22) ∧ τ22.2.1 25 (τ22.1 22) ≤ 20000 := hT.2 25 _
                      have a26_22 : 0 ≤ τ22.2.1 26 (τ22.1 22) ∧ τ22.2.1 26 (τ22.1 22) ≤ 20000 := hT.2 26 _
                      have a28_9 : 0 ≤ τ22.2.1 28 (τ22.1 9) ∧ τ22.2.1 28 (τ22.1 9) ≤ 1 := hT.2 28 _
                      have av9 : σ.1 9 ≤ τ22.1 9 := ag.1 9 (by decide)
                      exact ih_0 _ (show (3 * ((τ22.1 0) - (τ22.1 16)) + z_0 ((τ22.1 20)) + 1 - z_0 ((τ22.1 19)) : Int) < ((m_0 : Nat) : Int) from by (have zz0 := z_e ((τ22.1 20)); have zz1 := z_e ((τ22.1 19)); (first | omega | (simp only [st_s] <;> omega) | assumption | omega | fail))) hT ag (show τ22.1 0 = σ.1 0 from by first | exact W0 | omega) (show τ22.1 3 = σ.1 3 from by first | exact W3 | omega) (show τ22.1 5 = σ.1 5 from by first | exact W5 | omega) (show τ22.1 6 = σ.1 6 from by first | exact W6 | omega) (show τ22.1 7 = σ.1 7 from by first | exact W7 | omega) (show τ22.1 8 = σ.1 8 from by first | exact W8 | omega) (show τ22.1 22 = σ.1 22 from by first | exact W22 | omega) G0 G6 G7 G25 (show (τ22.1 16) ≤ (τ22.1 0) from by (first | omega | (simp only [st_s] <;> omega) | assumption | omega | fail)) (show (τ22.1 17) + (τ22.1 18) ≤ (τ22.1 0) from by (first | omega | (simp only [st_s] <;> omega) | assumption | omega | fail)) (show oc (τ22.2.1 6) < 4096 from by (first | omega | (simp only [st_s] <;> omega) | assumption | omega | fail)) (show oc (τ22.2.1 7) < 4096 from by (first | omega | (simp only [st_s] <;> omega) | assumption | omega | fail)) (show τ22.2.1 25 (τ22.1 22) + τ22.2.1 26 (τ22.1 22) = (τ22.1 9) from Z4) (show ¬ (σ.1 20) = 0 → (τ22.1 20) = (σ.1 20) from by (first | omega | (simp only [st_s] <;> omega) | assumption | omega | fail)) (show j_eq ((σ.1 9)) (σ.2.1 28) (τ22.2.1 28) from Y8) (show ca (τ22.2.1 28) ((τ22.1 9)) = ca (σ.2.1 28) ((σ.1 9)) from Y9) (show (σ.1 16) ≤ (τ22.1 16) from by (first | omega | (simp only [st_s] <;> omega) | assumption | omega | fail)) (show n_sp2 (τ22.2.1 25 (τ22.1 22)) (τ22.1 9) (τ22.1 22) (τ22.2.1 27) (τ22.2.1 28) from NSP)
                  ·
                    refine ⟨_, K_X13_failHere hT (show 0 ≤ (13 : Int) from by (first | omega | (simp only [st_s] <;> omega) | assumption | omega | fail)) (show (13 : Int) ≤ 19 from by (first | omega | (simp only [st_s] <;> omega) | assumption | omega | fail)), ?_⟩
                    intro τ29 hn_τ29 hf_τ29 hq
                    obtain ⟨hT, q27_1, q27_2⟩ := hq
                    replace q27_1 : ¬ (τ_0.1 20) = 0 → (τ29.1 20) = (τ_0.1 20) := q27_1
                    replace q27_2 : (τ_0.1 20) = 0 → (τ29.1 20) = (13 : Int) := q27_2
                    replace ag : m_ag σ τ29 := ag_r ag hf_τ29 rfl rfl
                    have w0_τ29 : τ29.1 0 = τ_0.1 0 := hf_τ29.1 0 (by decide)
                    have w3_τ29 : τ29.1 3 = τ_0.1 3 := hf_τ29.1 3 (by decide)
                    have w5_τ29 : τ29.1 5 = τ_0.1 5 := hf_τ29.1 5 (by decide)
                    have w6_τ29 : τ29.1 6 = τ_0.1 6 := hf_τ29.1 6 (by decide)
                    have w7_τ29 : τ29.1 7 = τ_0.1 7 := hf_τ29.1 7 (by decide)
                    have w8_τ29 : τ29.1 8 = τ_0.1 8 := hf_τ29.1 8 (by decide)
                    have w9_τ29 : τ29.1 9 = τ_0.1 9 := hf_τ29.1 9 (by decide)
                    have w16_τ29 : τ29.1 16 = τ_0.1 16 := hf_τ29.1 16 (by decide)
                    have w17_τ29 : τ29.1 17 = τ_0.1 17 := hf_τ29.1 17 (by decide)
                    have w18_τ29 : τ29.1 18 = τ_0.1 18 := hf_τ29.1 18 (by decide)
                    have w19_τ29 : τ29.1 19 = τ_0.1 19 := hf_τ29.1 19 (by decide)
                    have w22_τ29 : τ29.1 22 = τ_0.1 22 := hf_τ29.1 22 (by decide)
                    have g0_τ29 : τ29.2.1 0 = τ_0.2.1 0 := hf_τ29.2.1 0 (by decide)
                    have g6_τ29 : τ29.2.1 6 = τ_0.2.1 6 := hf_τ29.2.1 6 (by decide)
                    have g7_τ29 : τ29.2.1 7 = τ_0.2.1 7 := hf_τ29.2.1 7 (by decide)
                    have g25_τ29 : τ29.2.1 25 = τ_0.2.1 25 := hf_τ29.2.1 25 (by decide)
                    have g26_τ29 : τ29.2.1 26 = τ_0.2.1 26 := hf_τ29.2.1 26 (by decide)
                    have g27_τ29 : τ29.2.1 27 = τ_0.2.1 27 := hf_τ29.2.1 27 (by decide)
                    have g28_τ29 : τ29.2.1 28 = τ_0.2.1 28 := hf_τ29.2.1 28 (by decide)
                    first | (have o6_τ29 := congrArg oc g6_τ29) | skip
                    first | (have o7_τ29 := congrArg oc g7_τ29) | skip
                    have W0 : τ29.1 0 = σ.1 0 := by first | exact w0_τ29.trans W0 | omega
                    have W3 : τ29.1 3 = σ.1 3 := by first | exact w3_τ29.trans W3 | omega
                    have W5 : τ29.1 5 = σ.1 5 := by first | exact w5_τ29.trans W5 | omega
                    have W6 : τ29.1 6 = σ.1 6 := by first | exact w6_τ29.trans W6 | omega
                    have W7 : τ29.1 7 = σ.1 7 := by first | exact w7_τ29.trans W7 | omega
                    have W8 : τ29.1 8 = σ.1 8 := by first | exact w8_τ29.trans W8 | omega
                    have W22 : τ29.1 22 = σ.1 22 := by first | exact w22_τ29.trans W22 | omega
                    have G0 : τ29.2.1 0 = σ.2.1 0 := (g0_τ29).trans G0
                    have G6 : τ29.2.1 6 = σ.2.1 6 := (g6_τ29).trans G6
                    have G7 : τ29.2.1 7 = σ.2.1 7 := (g7_τ29).trans G7
                    have G25 : τ29.2.1 25 = σ.2.1 25 := (g25_τ29).trans G25
                    have y0_17_τ29 : τ29.2.1 0 (τ29.1 17) = (τ_0.2.1 0) (τ_0.1 17) := by rw [g0_τ29, w17_τ29]
                    have y25_22_τ29 : τ29.2.1 25 (τ29.1 22) = (τ_0.2.1 25) (τ_0.1 22) := by rw [g25_τ29, w22_τ29]
                    have y26_22_τ29 : τ29.2.1 26 (τ29.1 22) = (τ_0.2.1 26) (τ_0.1 22) := by rw [g26_τ29, w22_τ29]
                    have y28_9_τ29 : τ29.2.1 28 (τ29.1 9) = (τ_0.2.1 28) (τ_0.1 9) := by rw [g28_τ29, w9_τ29]
                    have Z4 : τ29.2.1 25 (τ29.1 22) + τ29.2.1 26 (τ29.1 22) = (τ29.1 9) := by rw [show (τ29.2.1 25 (τ29.1 22) + τ29.2.1 26 (τ29.1 22) = (τ29.1 9)) = (τ_0.2.1 25 (τ_0.1 22) + τ_0.2.1 26 (τ_0.1 22) = (τ_0.1 9)) from by rw [w9_τ29, w22_τ29, g25_τ29, g26_τ29]]; exact Z4
                    have Y8 : j_eq ((σ.1 9)) (σ.2.1 28) (τ29.2.1 28) := by rw [show (j_eq ((σ.1 9)) (σ.2.1 28) (τ29.2.1 28)) = (j_eq ((σ.1 9)) (σ.2.1 28) (τ_0.2.1 28)) from by rw [g28_τ29]]; exact Y8
                    have Y9 : ca (τ29.2.1 28) ((τ29.1 9)) = ca (σ.2.1 28) ((σ.1 9)) := by rw [show (ca (τ29.2.1 28) ((τ29.1 9)) = ca (σ.2.1 28) ((σ.1 9))) = (ca (τ_0.2.1 28) ((τ_0.1 9)) = ca (σ.2.1 28) ((σ.1 9))) from by rw [w9_τ29, g28_τ29]]; exact Y9
                    have NSP : n_sp2 (τ29.2.1 25 (τ29.1 22)) (τ29.1 9) (τ29.1 22) (τ29.2.1 27) (τ29.2.1 28) := by rw [show (n_sp2 (τ29.2.1 25 (τ29.1 22)) (τ29.1 9) (τ29.1 22) (τ29.2.1 27) (τ29.2.1 28)) = (n_sp2 (τ_0.2.1 25 (τ_0.1 22)) (τ_0.1 9) (τ_0.1 22) (τ_0.2.1 27) (τ_0.2.1 28)) from by rw [w9_τ29, w22_τ29, g25_τ29, g27_τ29, g28_τ29]]; exact NSP
                    have A0 : ∀ j, 0 ≤ τ29.2.1 0 j ∧ τ29.2.1 0 j ≤ 255 := fun j => hT.2 0 j
                    have A6 : ∀ j, (-1) ≤ τ29.2.1 6 j ∧ τ29.2.1 6 j ≤ 999 := fun j => hT.2 6 j
                    have A7 : ∀ j, (-1) ≤ τ29.2.1 7 j ∧ τ29.2.1 7 j ≤ 1499 := fun j => hT.2 7 j
                    have A25 : ∀ j, 0 ≤ τ29.2.1 25 j ∧ τ29.2.1 25 j ≤ 20000 := fun j => hT.2 25 j
                    have A26 : ∀ j, 0 ≤ τ29.2.1 26 j ∧ τ29.2.1 26 j ≤ 20000 := fun j => hT.2 26 j
                    have A27 : ∀ j, (-300) ≤ τ29.2.1 27 j ∧ τ29.2.1 27 j ≤ 1499 := fun j => hT.2 27 j
                    have A28 : ∀ j, 0 ≤ τ29.2.1 28 j ∧ τ29.2.1 28 j ≤ 1 := fun j => hT.2 28 j
                    have v0 : 0 ≤ τ29.1 0 ∧ τ29.1 0 ≤ 60000 := hT.1 0
                    have v3 : 0 ≤ τ29.1 3 ∧ τ29.1 3 ≤ 1000 := hT.1 3
                    have v5 : 0 ≤ τ29.1 5 ∧ τ29.1 5 ≤ 1500 := hT.1 5
                    have v6 : 0 ≤ τ29.1 6 ∧ τ29.1 6 ≤ 30000 := hT.1 6
                    have v7 : 0 ≤ τ29.1 7 ∧ τ29.1 7 ≤ 90000 := hT.1 7
                    have v8 : 0 ≤ τ29.1 8 ∧ τ29.1 8 ≤ 20000 := hT.1 8
                    have v9 : 0 ≤ τ29.1 9 ∧ τ29.1 9 ≤ 20000 := hT.1 9
                    have v16 : 0 ≤ τ29.1 16 ∧ τ29.1 16 ≤ 60000 := hT.1 16
                    have v17 : 0 ≤ τ29.1 17 ∧ τ29.1 17 ≤ 60000 := hT.1 17
                    have v18 : 0 ≤ τ29.1 18 ∧ τ29.1 18 ≤ 60000 := hT.1 18
                    have v19 : (-1) ≤ τ29.1 19 ∧ τ29.1 19 ≤ 125 := hT.1 19
                    have v20 : 0 ≤ τ29.1 20 ∧ τ29.1 20 ≤ 19 := hT.1 20
                    have v22 : 0 ≤ τ29.1 22 ∧ τ29.1 22 ≤ 1499 := hT.1 22
                    have a0_17 : 0 ≤ τ29.2.1 0 (τ29.1 17) ∧ τ29.2.1 0 (τ29.1 17) ≤ 255 := hT.2 0 _
                    have a25_22 : 0 ≤ τ29.2.1 25 (τ29.1 22) ∧ τ29.2.1 25 (τ29.1 22) ≤ 20000 := hT.2 25 _
                    have a26_22 : 0 ≤ τ29.2.1 26 (τ29.1 22) ∧ τ29.2.1 26 (τ29.1 22) ≤ 20000 := hT.2 26 _
                    have a28_9 : 0 ≤ τ29.2.1 28 (τ29.1 9) ∧ τ29.2.1 28 (τ29.1 9) ≤ 1 := hT.2 28 _
                    have av9 : σ.1 9 ≤ τ29.1 9 := ag.1 9 (by decide)
                    refine h111 _ ?_
                    refine ⟨fun c19 => ?_, fun c19 => ?_⟩
                    ·
                      exact ih_0 _ (show (3 * ((τ29.1 0) - (τ29.1 16)) + z_0 ((τ29.1 20)) + 1 - z_0 ((τ29.1 19)) : Int) < ((m_0 : Nat) : Int) from by (have zz0 := z_e ((τ29.1 20)); have zz1 := z_e ((τ29.1 19)); (first | omega | (simp only [st_s] <;> omega) | assumption | omega | fail))) hT ag (show τ29.1 0 = σ.1 0 from by first | exact W0 | omega) (show τ29.1 3 = σ.1 3 from by first | exact W3 | omega) (show τ29.1 5 = σ.1 5 from by first | exact W5 | omega) (show τ29.1 6 = σ.1 6 from by first | exact W6 | omega) (show τ29.1 7 = σ.1 7 from by first | exact W7 | omega) (show τ29.1 8 = σ.1 8 from by first | exact W8 | omega) (show τ29.1 22 = σ.1 22 from by first | exact W22 | omega) G0 G6 G7 G25 (show (τ29.1 16) ≤ (τ29.1 0) from by (first | omega | (simp only [st_s] <;> omega) | assumption | omega | fail)) (show (τ29.1 17) + (τ29.1 18) ≤ (τ29.1 0) from by (first | omega | (simp only [st_s] <;> omega) | assumption | omega | fail)) (show oc (τ29.2.1 6) < 4096 from by (first | omega | (simp only [st_s] <;> omega) | assumption | omega | fail)) (show oc (τ29.2.1 7) < 4096 from by (first | omega | (simp only [st_s] <;> omega) | assumption | omega | fail)) (show τ29.2.1 25 (τ29.1 22) + τ29.2.1 26 (τ29.1 22) = (τ29.1 9) from Z4) (show ¬ (σ.1 20) = 0 → (τ29.1 20) = (σ.1 20) from by (first | omega | (simp only [st_s] <;> omega) | assumption | omega | fail)) (show j_eq ((σ.1 9)) (σ.2.1 28) (τ29.2.1 28) from Y8) (show ca (τ29.2.1 28) ((τ29.1 9)) = ca (σ.2.1 28) ((σ.1 9)) from Y9) (show (σ.1 16) ≤ (τ29.1 16) from by (first | omega | (simp only [st_s] <;> omega) | assumption | omega | fail)) (show n_sp2 (τ29.2.1 25 (τ29.1 22)) (τ29.1 9) (τ29.1 22) (τ29.2.1 27) (τ29.2.1 28) from NSP)
                    ·
                      refine ⟨_, K_X13_next hT (show (τ29.1 16) ≤ (τ29.1 0) from by (first | omega | (simp only [st_s] <;> omega) | assumption | omega | fail)), ?_⟩
                      intro τ22 hn_τ22 hf_τ22 hq
                      obtain ⟨hT, q20_1, q20_2, q20_3, q20_4, q20_5⟩ := hq
                      replace q20_1 : (τ22.1 16) ≤ (τ22.1 0) := q20_1
                      replace q20_2 : (τ22.1 17) + (τ22.1 18) ≤ (τ22.1 0) := q20_2
                      replace q20_3 : (τ29.1 16) ≤ (τ22.1 16) := q20_3
                      replace q20_4 : ¬ (τ29.1 20) = 0 → (τ22.1 20) = (τ29.1 20) := q20_4
                      replace q20_5 : (τ22.1 20) = 0 → ¬ (τ22.1 19) = 0 → (τ29.1 16) < (τ22.1 16) ∧ 0 < (τ22.1 18) := q20_5
                      replace ag : m_ag σ τ22 := ag_r ag hf_τ22 rfl rfl
                      have w0_τ22 : τ22.1 0 = τ29.1 0 := hf_τ22.1 0 (by decide)
                      have w3_τ22 : τ22.1 3 = τ29.1 3 := hf_τ22.1 3 (by decide)
                      have w5_τ22 : τ22.1 5 = τ29.1 5 := hf_τ22.1 5 (by decide)
                      have w6_τ22 : τ22.1 6 = τ29.1 6 := hf_τ22.1 6 (by decide)
                      have w7_τ22 : τ22.1 7 = τ29.1 7 := hf_τ22.1 7 (by decide)
                      have w8_τ22 : τ22.1 8 = τ29.1 8 := hf_τ22.1 8 (by decide)
                      have w9_τ22 : τ22.1 9 = τ29.1 9 := hf_τ22.1 9 (by decide)
                      have w22_τ22 : τ22.1 22 = τ29.1 22 := hf_τ22.1 22 (by decide)
                      have g0_τ22 : τ22.2.1 0 = τ29.2.1 0 := hf_τ22.2.1 0 (by decide)
                      have g6_τ22 : τ22.2.1 6 = τ29.2.1 6 := hf_τ22.2.1 6 (by decide)
                      have g7_τ22 : τ22.2.1 7 = τ29.2.1 7 := hf_τ22.2.1 7 (by decide)
                      have g25_τ22 : τ22.2.1 25 = τ29.2.1 25 := hf_τ22.2.1 25 (by decide)
                      have g26_τ22 : τ22.2.1 26 = τ29.2.1 26 := hf_τ22.2.1 26 (by decide)
                      have g27_τ22 : τ22.2.1 27 = τ29.2.1 27 := hf_τ22.2.1 27 (by decide)
                      have g28_τ22 : τ22.2.1 28 = τ29.2.1 28 := hf_τ22.2.1 28 (by decide)
                      first | (have o6_τ22 := congrArg oc g6_τ22) | skip
                      first | (have o7_τ22 := congrArg oc g7_τ22) | skip
                      have W0 : τ22.1 0 = σ.1 0 := by first | exact w0_τ22.trans W0 | omega
                      have W3 : τ22.1 3 = σ.1 3 := by first | exact w3_τ22.trans W3 | omega
                      have W5 : τ22.1 5 = σ.1 5 := by first | exact w5_τ22.trans W5 | omega
                      have W6 : τ22.1 6 = σ.1 6 := by first | exact w6_τ22.trans W6 | omega
                      have W7 : τ22.1 7 = σ.1 7 := by first | exact w7_τ22.trans W7 | omega
                      have W8 : τ22.1 8 = σ.1 8 := by first | exact w8_τ22.trans W8 | omega
                      have W22 : τ22.1 22 = σ.1 22 := by first | exact w22_τ22.trans W22 | omega
                      have G0 : τ22.2.1 0 = σ.2.1 0 := (g0_τ22).trans G0
                      have G6 : τ22.2.1 6 = σ.2.1 6 := (g6_τ22).trans G6
                      have G7 : τ22.2.1 7 = σ.2.1 7 := (g7_τ22).trans G7
                      have G25 : τ22.2.1 25 = σ.2.1 25 := (g25_τ22).trans G25
                      have y25_22_τ22 : τ22.2.1 25 (τ22.1 22) = (τ29.2.1 25) (τ29.1 22) := by rw [g25_τ22, w22_τ22]
                      have y26_22_τ22 : τ22.2.1 26 (τ22.1 22) = (τ29.2.1 26) (τ29.1 22) := by rw [g26_τ22, w22_τ22]
                      have y28_9_τ22 : τ22.2.1 28 (τ22.1 9) = (τ29.2.1 28) (τ29.1 9) := by rw [g28_τ22, w9_τ22]
                      have Z4 : τ22.2.1 25 (τ22.1 22) + τ22.2.1 26 (τ22.1 22) = (τ22.1 9) := by rw [show (τ22.2.1 25 (τ22.1 22) + τ22.2.1 26 (τ22.1 22) = (τ22.1 9)) = (τ29.2.1 25 (τ29.1 22) + τ29.2.1 26 (τ29.1 22) = (τ29.1 9)) from by rw [w9_τ22, w22_τ22, g25_τ22, g26_τ22]]; exact Z4
                      have Y8 : j_eq ((σ.1 9)) (σ.2.1 28) (τ22.2.1 28) := by rw [show (j_eq ((σ.1 9)) (σ.2.1 28) (τ22.2.1 28)) = (j_eq ((σ.1 9)) (σ.2.1 28) (τ29.2.1 28)) from by rw [g28_τ22]]; exact Y8
                      have Y9 : ca (τ22.2.1 28) ((τ22.1 9)) = ca (σ.2.1 28) ((σ.1 9)) := by rw [show (ca (τ22.2.1 28) ((τ22.1 9)) = ca (σ.2.1 28) ((σ.1 9))) = (ca (τ29.2.1 28) ((τ29.1 9)) = ca (σ.2.1 28) ((σ.1 9))) from by rw [w9_τ22, g28_τ22]]; exact Y9
                      have NSP : n_sp2 (τ22.2.1 25 (τ22.1 22)) (τ22.1 9) (τ22.1 22) (τ22.2.1 27) (τ22.2.1 28) := by rw [show (n_sp2 (τ22.2.1 25 (τ22.1 22)) (τ22.1 9) (τ22.1 22) (τ22.2.1 27) (τ22.2.1 28)) = (n_sp2 (τ29.2.1 25 (τ29.1 22)) (τ29.1 9) (τ29.1 22) (τ29.2.1 27) (τ29.2.1 28)) from by rw [w9_τ22, w22_τ22, g25_τ22, g27_τ22, g28_τ22]]; exact NSP
                      have A0 : ∀ j, 0 ≤ τ22.2.1 0 j ∧ τ22.2.1 0 j ≤ 255 := fun j => hT.2 0 j
                      have A6 : ∀ j, (-1) ≤ τ22.2.1 6 j ∧ τ22.2.1 6 j ≤ 999 := fun j => hT.2 6 j
                      have A7 : ∀ j, (-1) ≤ τ22.2.1 7 j ∧ τ22.2.1 7 j ≤ 1499 := fun j => hT.2 7 j
                      have A25 : ∀ j, 0 ≤ τ22.2.1 25 j ∧ τ22.2.1 25 j ≤ 20000 := fun j => hT.2 25 j
                      have A26 : ∀ j, 0 ≤ τ22.2.1 26 j ∧ τ22.2.1 26 j ≤ 20000 := fun j => hT.2 26 j
                      have A27 : ∀ j, (-300) ≤ τ22.2.1 27 j ∧ τ22.2.1 27 j ≤ 1499 := fun j => hT.2 27 j
                      have A28 : ∀ j, 0 ≤ τ22.2.1 28 j ∧ τ22.2.1 28 j ≤ 1 := fun j => hT.2 28 j
                      have v0 : 0 ≤ τ22.1 0 ∧ τ22.1 0 ≤ 60000 := hT.1 0
                      have v3 : 0 ≤ τ22.1 3 ∧ τ22.1 3 ≤ 1000 := hT.1 3
                      have v5 : 0 ≤ τ22.1 5 ∧ τ22.1 5 ≤ 1500 := hT.1 5
                      have v6 : 0 ≤ τ22.1 6 ∧ τ22.1 6 ≤ 30000 := hT.1 6
                      have v7 : 0 ≤ τ22.1 7 ∧ τ22.1 7 ≤ 90000 := hT.1 7
                      have v8 : 0 ≤ τ22.1 8 ∧ τ22.1 8 ≤ 20000 := hT.1 8
                      have v9 : 0 ≤ τ22.1 9 ∧ τ22.1 9 ≤ 20000 := hT.1 9
                      have v16 : 0 ≤ τ22.1 16 ∧ τ22.1 16 ≤ 60000 := hT.1 16
                      have v17 : 0 ≤ τ22.1 17 ∧ τ22.1 17 ≤ 60000 := hT.1 17
                      have v18 : 0 ≤ τ22.1 18 ∧ τ22.1 18 ≤ 60000 := hT.1 18
                      have v19 : (-1) ≤ τ22.1 19 ∧ τ22.1 19 ≤ 125 := hT.1 19
                      have v20 : 0 ≤ τ22.1 20 ∧ τ22.1 20 ≤ 19 := hT.1 20
                      have v22 : 0 ≤ τ22.1 22 ∧ τ22.1 22 ≤ 1499 := hT.1 22
                      have a0_17 : 0 ≤ τ22.2.1 0 (τ22.1 17) ∧ τ22.2.1 0 (τ22.1 17) ≤ 255 := hT.2 0 _
                      have a25_22 : 0 ≤ τ22.2.1 25 (τ22.1 22) ∧ τ22.2.1 25 (τ22.1 22) ≤ 20000 := hT.2 25 _
                      have a26_22 : 0 ≤ τ22.2.1 26 (τ22.1 22) ∧ τ22.2.1 26 (τ22.1 22) ≤ 20000 := hT.2 26 _
                      have a28_9 : 0 ≤ τ22.2.1 28 (τ22.1 9) ∧ τ22.2.1 28 (τ22.1 9) ≤ 1 := hT.2 28 _
                      have av9 : σ.1 9 ≤ τ22.1 9 := ag.1 9 (by decide)
                      exact ih_0 _ (show (3 * ((τ22.1 0) - (τ22.1 16)) + z_0 ((τ22.1 20)) + 1 - z_0 ((τ22.1 19)) : Int) < ((m_0 : Nat) : Int) from by (have zz0 := z_e ((τ22.1 20)); have zz1 := z_e ((τ22.1 19)); (first | omega | (simp only [st_s] <;> omega) | assumption | omega | fail))) hT ag (show τ22.1 0 = σ.1 0 from by first | exact W0 | omega) (show τ22.1 3 = σ.1 3 from by first | exact W3 | omega) (show τ22.1 5 = σ.1 5 from by first | exact W5 | omega) (show τ22.1 6 = σ.1 6 from by first | exact W6 | omega) (show τ22.1 7 = σ.1 7 from by first | exact W7 | omega) (show τ22.1 8 = σ.1 8 from by first | exact W8 | omega) (show τ22.1 22 = σ.1 22 from by first | exact W22 | omega) G0 G6 G7 G25 (show (τ22.1 16) ≤ (τ22.1 0) from by (first | omega | (simp only [st_s] <;> omega) | assumption | omega | fail)) (show (τ22.1 17) + (τ22.1 18) ≤ (τ22.1 0) from by (first | omega | (simp only [st_s] <;> omega) | assumption | omega | fail)) (show oc (τ22.2.1 6) < 4096 from by (first | omega | (simp only [st_s] <;> omega) | assumption | omega | fail)) (show oc (τ22.2.1 7) < 4096 from by (first | omega | (simp only [st_s] <;> omega) | assumption | omega | fail)) (show τ22.2.1 25 (τ22.1 22) + τ22.2.1 26 (τ22.1 22) = (τ22.1 9) from Z4) (show ¬ (σ.1 20) = 0 → (τ22.1 20) = (σ.1 20) from by (first | omega | (simp only [st_s] <;> omega) | assumption | omega | fail)) (show j_eq ((σ.1 9)) (σ.2.1 28) (τ22.2.1 28) from Y8) (show ca (τ22.2.1 28) ((τ22.1 9)) = ca (σ.2.1 28) ((σ.1 9)) from Y9) (show (σ.1 16) ≤ (τ22.1 16) from by (first | omega | (simp only [st_s] <;> omega) | assumption | omega | fail)) (show n_sp2 (τ22.2.1 25 (τ22.1 22)) (τ22.1 9) (τ22.1 22) (τ22.2.1 27) (τ22.2.1 28) from NSP)
                ·
                  refine ⟨fun c15 => ?_, fun c15 => ?_⟩
                  ·
                    refine h88 _ _ ?_
                    refine ⟨fun c23 => ?_, fun c23 => ?_⟩
                    ·
                      refine ⟨_, K_X13_addStep hT (show -300 ≤ x12 from by (first | omega | (simp only [st_s] <;> omega) | assumption | omega | fail)) (show x12 ≤ 1499 from by (first | omega | (simp only [st_s] <;> omega) | assumption | omega | fail)) (show 0 ≤ (τ_0.1 17) from by (first | omega | (simp only [st_s] <;> omega) | assumption | omega | fail)) (show (τ_0.1 17) ≤ 60000 from by (first | omega | (simp only [st_s] <;> omega) | assumption | omega | fail)) (show (τ_0.1 9) < 20000 from by (first | omega | (simp only [st_s] <;> omega) | assumption | omega | fail)) (show τ_0.2.1 26 (τ_0.1 22) < 20000 from by (first | omega | (simp only [st_s] <;> omega) | assumption | omega | fail)) (show (τ_0.1 22) = (τ_0.1 5) from by (first | omega | (simp only [st_s] <;> omega) | assumption | omega | fail)), ?_⟩
                      intro τ26 hn_τ26 hf_τ26 hq
                      obtain ⟨hT, q24_1, q24_2, q24_3, q24_4, q24_5, q24_6, q24_7⟩ := hq
                      replace q24_1 : (τ26.1 9) = (τ_0.1 9) + 1 := q24_1
                      replace q24_2 : τ26.2.1 26 (τ26.1 22) = τ_0.2.1 26 (τ_0.1 22) + 1 := q24_2
                      replace q24_3 : τ26.2.1 27 = st (τ_0.2.1 27) (τ_0.1 9) x12 := q24_3
                      replace q24_4 : j_eq ((τ_0.1 9)) (τ_0.2.1 28) (τ26.2.1 28) := q24_4
                      replace q24_5 : ca (τ26.2.1 28) ((τ26.1 9)) = ca (τ_0.2.1 28) ((τ_0.1 9)) := q24_5
                      replace q24_6 : τ26.2.1 28 (τ_0.1 9) = 0 := q24_6
                      replace q24_7 : m_ag τ_0 τ26 := q24_7
                      replace ag : m_ag σ τ26 := ag_t ag q24_7 rfl
                      have w0_τ26 : τ26.1 0 = τ_0.1 0 := hf_τ26.1 0 (by decide)
                      have w3_τ26 : τ26.1 3 = τ_0.1 3 := hf_τ26.1 3 (by decide)
                      have w5_τ26 : τ26.1 5 = τ_0.1 5 := hf_τ26.1 5 (by decide)
                      have w6_τ26 : τ26.1 6 = τ_0.1 6 := hf_τ26.1 6 (by decide)
                      have w7_τ26 : τ26.1 7 = τ_0.1 7 := hf_τ26.1 7 (by decide)
                      have w8_τ26 : τ26.1 8 = τ_0.1 8 := hf_τ26.1 8 (by decide)
                      have w16_τ26 : τ26.1 16 = τ_0.1 16 := hf_τ26.1 16 (by decide)
                      have w17_τ26 : τ26.1 17 = τ_0.1 17 := hf_τ26.1 17 (by decide)
                      have w18_τ26 : τ26.1 18 = τ_0.1 18 := hf_τ26.1 18 (by decide)
                      have w19_τ26 : τ26.1 19 = τ_0.1 19 := hf_τ26.1 19 (by decide)
                      have w20_τ26 : τ26.1 20 = τ_0.1 20 := hf_τ26.1 20 (by decide)
                      have w22_τ26 : τ26.1 22 = τ_0.1 22 := hf_τ26.1 22 (by decide)
                      have g0_τ26 : τ26.2.1 0 = τ_0.2.1 0 := hf_τ26.2.1 0 (by decide)
                      have g6_τ26 : τ26.2.1 6 = τ_0.2.1 6 := hf_τ26.2.1 6 (by decide)
                      have g7_τ26 : τ26.2.1 7 = τ_0.2.1 7 := hf_τ26.2.1 7 (by decide)
                      have g25_τ26 : τ26.2.1 25 = τ_0.2.1 25 := hf_τ26.2.1 25 (by decide)
                      first | (have o6_τ26 := congrArg oc g6_τ26) | skip
                      first | (have o7_τ26 := congrArg oc g7_τ26) | skip
                      have W0 : τ26.1 0 = σ.1 0 := by first | exact w0_τ26.trans W0 | omega
                      have W3 : τ26.1 3 = σ.1 3 := by first | exact w3_τ26.trans W3 | omega
                      have W5 : τ26.1 5 = σ.1 5 := by first | exact w5_τ26.trans W5 | omega
                      have W6 : τ26.1 6 = σ.1 6 := by first | exact w6_τ26.trans W6 | omega
                      have W7 : τ26.1 7 = σ.1 7 := by first | exact w7_τ26.trans W7 | omega
                      have W8 : τ26.1 8 = σ.1 8 := by first | exact w8_τ26.trans W8 | omega
                      have W22 : τ26.1 22 = σ.1 22 := by first | exact w22_τ26.trans W22 | omega
                      have G0 : τ26.2.1 0 = σ.2.1 0 := (g0_τ26).trans G0
                      have G6 : τ26.2.1 6 = σ.2.1 6 := (g6_τ26).trans G6
                      have G7 : τ26.2.1 7 = σ.2.1 7 := (g7_τ26).trans G7
                      have G25 : τ26.2.1 25 = σ.2.1 25 := (g25_τ26).trans G25
                      have y0_17_τ26 : τ26.2.1 0 (τ26.1 17) = (τ_0.2.1 0) (τ_0.1 17) := by rw [g0_τ26, w17_τ26]
                      have y25_22_τ26 : τ26.2.1 25 (τ26.1 22) = (τ_0.2.1 25) (τ_0.1 22) := by rw [g25_τ26, w22_τ26]
                      have A0 : ∀ j, 0 ≤ τ26.2.1 0 j ∧ τ26.2.1 0 j ≤ 255 := fun j => hT.2 0 j
                      have A6 : ∀ j, (-1) ≤ τ26.2.1 6 j ∧ τ26.2.1 6 j ≤ 999 := fun j => hT.2 6 j
                      have A7 : ∀ j, (-1) ≤ τ26.2.1 7 j ∧ τ26.2.1 7 j ≤ 1499 := fun j => hT.2 7 j
                      have A25 : ∀ j, 0 ≤ τ26.2.1 25 j ∧ τ26.2.1 25 j ≤ 20000 := fun j => hT.2 25 j
                      have A26 : ∀ j, 0 ≤ τ26.2.1 26 j ∧ τ26.2.1 26 j ≤ 20000 := fun j => hT.2 26 j
                      have A27 : ∀ j, (-300) ≤ τ26.2.1 27 j ∧ τ26.2.1 27 j ≤ 1499 := fun j => hT.2 27 j
                      have A28 : ∀ j, 0 ≤ τ26.2.1 28 j ∧ τ26.2.1 28 j ≤ 1 := fun j => hT.2 28 j
                      have v0 : 0 ≤ τ26.1 0 ∧ τ26.1 0 ≤ 60000 := hT.1 0
                      have v3 : 0 ≤ τ26.1 3 ∧ τ26.1 3 ≤ 1000 := hT.1 3
                      have v5 : 0 ≤ τ26.1 5 ∧ τ26.1 5 ≤ 1500 := hT.1 5
                      have v6 : 0 ≤ τ26.1 6 ∧ τ26.1 6 ≤ 30000 := hT.1 6
                      have v7 : 0 ≤ τ26.1 7 ∧ τ26.1 7 ≤ 90000 := hT.1 7
                      have v8 : 0 ≤ τ26.1 8 ∧ τ26.1 8 ≤ 20000 := hT.1 8
                      have v9 : 0 ≤ τ26.1 9 ∧ τ26.1 9 ≤ 20000 := hT.1 9
                      have v16 : 0 ≤ τ26.1 16 ∧ τ26.1 16 ≤ 60000 := hT.1 16
                      have v17 : 0 ≤ τ26.1 17 ∧ τ26.1 17 ≤ 60000 := hT.1 17
                      have v18 : 0 ≤ τ26.1 18 ∧ τ26.1 18 ≤ 60000 := hT.1 18
                      have v19 : (-1) ≤ τ26.1 19 ∧ τ26.1 19 ≤ 125 := hT.1 19
                      have v20 : 0 ≤ τ26.1 20 ∧ τ26.1 20 ≤ 19 := hT.1 20
                      have v22 : 0 ≤ τ26.1 22 ∧ τ26.1 22 ≤ 1499 := hT.1 22
                      have a0_17 : 0 ≤ τ26.2.1 0 (τ26.1 17) ∧ τ26.2.1 0 (τ26.1 17) ≤ 255 := hT.2 0 _
                      have a25_22 : 0 ≤ τ26.2.1 25 (τ26.1 22) ∧ τ26.2.1 25 (τ26.1 22) ≤ 20000 := hT.2 25 _
                      have a26_22 : 0 ≤ τ26.2.1 26 (τ26.1 22) ∧ τ26.2.1 26 (τ26.1 22) ≤ 20000 := hT.2 26 _
                      have a28_9 : 0 ≤ τ26.2.1 28 (τ26.1 9) ∧ τ26.2.1 28 (τ26.1 9) ≤ 1 := hT.2 28 _
                      have av9 : σ.1 9 ≤ τ26.1 9 := ag.1 9 (by decide)
                      have Z4 : τ26.2.1 25 (τ26.1 22) + τ26.2.1 26 (τ26.1 22) = τ26.1 9 := by omega
                      have Y8 := j_eqt Y8 (j_eqw q24_4 (show σ.1 9 ≤ τ_0.1 9 from by omega))
                      have Y9 := q24_5.trans Y9
                      have NSP : n_sp2 (τ26.2.1 25 (τ26.1 22)) (τ26.1 9) (τ26.1 22) (τ26.2.1 27) (τ26.2.1 28) := by (rw [show τ26.2.1 25 (τ26.1 22) = τ_0.2.1 25 (τ_0.1 22) from by omega, show τ26.1 9 = τ_0.1 9 + 1 from by omega, show τ26.1 22 = τ_0.1 22 from by omega]; exact n_sp2_a NSP q24_3 q24_4 (by omega) (by omega) (fun z => by omega) (fun _ => by omega))
                      refine h111 _ ?_
                      refine ⟨fun c19 => ?_, fun c19 => ?_⟩
                      ·
                        exact ih_0 _ (show (3 * ((τ26.1 0) - (τ26.1 16)) + z_0 ((τ26.1 20)) + 1 - z_0 ((τ26.1 19)) : Int) < ((m_0 : Nat) : Int) from by (have zz0 := z_e ((τ26.1 20)); have zz1 := z_e ((τ26.1 19)); (first | omega | (simp only [st_s] <;> omega) | assumption | omega | fail))) hT ag (show τ26.1 0 = σ.1 0 from by first | exact W0 | omega) (show τ26.1 3 = σ.1 3 from by first | exact W3 | omega) (show τ26.1 5 = σ.1 5 from by first | exact W5 | omega) (show τ26.1 6 = σ.1 6 from by first | exact W6 | omega) (show τ26.1 7 = σ.1 7 from by first | exact W7 | omega) (show τ26.1 8 = σ.1 8 from by first | exact W8 | omega) (show τ26.1 22 = σ.1 22 from by first | exact W22 | omega) G0 G6 G7 G25 (show (τ26.1 16) ≤ (τ26.1 0) from by (first | omega | (simp only [st_s] <;> omega) | assumption | omega | fail)) (show (τ26.1 17) + (τ26.1 18) ≤ (τ26.1 0) from by (first | omega | (simp only [st_s] <;> omega) | assumption | omega | fail)) (show oc (τ26.2.1 6) < 4096 from by (first | omega | (simp only [st_s] <;> omega) | assumption | omega | fail)) (show oc (τ26.2.1 7) < 4096 from by (first | omega | (simp only [st_s] <;> omega) | assumption | omega | fail)) (show τ26.2.1 25 (τ26.1 22) + τ26.2.1 26 (τ26.1 22) = (τ26.1 9) from Z4) (show ¬ (σ.1 20) = 0 → (τ26.1 20) = (σ.1 20) from by (first | omega | (simp only [st_s] <;> omega) | assumption | omega | fail)) (show j_eq ((σ.1 9)) (σ.2.1 28) (τ26.2.1 28) from Y8) (show ca (τ26.2.1 28) ((τ26.1 9)) = ca (σ.2.1 28) ((σ.1 9)) from Y9) (show (σ.1 16) ≤ (τ26.1 16) from by (first | omega | (simp only [st_s] <;> omega) | assumption | omega | fail)) (show n_sp2 (τ26.2.1 25 (τ26.1 22)) (τ26.1 9) (τ26.1 22) (τ26.2.1 27) (τ26.2.1 28) from NSP)
                      ·
                        refine ⟨_, K_X13_next hT (show (τ26.1 16) ≤ (τ26.1 0) from by (first | omega | (simp only [st_s] <;> omega) | assumption | omega | fail)), ?_⟩
                        intro τ22 hn_τ22 hf_τ22 hq
                        obtain ⟨hT, q20_1, q20_2, q20_3, q20_4, q20_5⟩ := hq
                        replace q20_1 : (τ22.1 16) ≤ (τ22.1 0) := q20_1
                        replace q20_2 : (τ22.1 17) + (τ22.1 18) ≤ (τ22.1 0) := q20_2
                        replace q20_3 : (τ26.1 16) ≤ (τ22.1 16) := q20_3
                        replace q20_4 : ¬ (τ26.1 20) = 0 → (τ22.1 20) = (τ26.1 20) := q20_4
                        replace q20_5 : (τ22.1 20) = 0 → ¬ (τ22.1 19) = 0 → (τ26.1 16) < (τ22.1 16) ∧ 0 < (τ22.1 18) := q20_5
                        replace ag : m_ag σ τ22 := ag_r ag hf_τ22 rfl rfl
                        have w0_τ22 : τ22.1 0 = τ26.1 0 := hf_τ22.1 0 (by decide)
                        have w3_τ22 : τ22.1 3 = τ26.1 3 := hf_τ22.1 3 (by decide)
                        have w5_τ22 : τ22.1 5 = τ26.1 5 := hf_τ22.1 5 (by decide)
                        have w6_τ22 : τ22.1 6 = τ26.1 6 := hf_τ22.1 6 (by decide)
                        have w7_τ22 : τ22.1 7 = τ26.1 7 := hf_τ22.1 7 (by decide)
                        have w8_τ22 : τ22.1 8 = τ26.1 8 := hf_τ22.1 8 (by decide)
                        have w9_τ22 : τ22.1 9 = τ26.1 9 := hf_τ22.1 9 (by decide)
                        have w22_τ22 : τ22.1 22 = τ26.1 22 := hf_τ22.1 22 (by decide)
                        have g0_τ22 : τ22.2.1 0 = τ26.2.1 0 := hf_τ22.2.1 0 (by decide)
                        have g6_τ22 : τ22.2.1 6 = τ26.2.1 6 := hf_τ22.2.1 6 (by decide)
                        have g7_τ22 : τ22.2.1 7 = τ26.2.1 7 := hf_τ22.2.1 7 (by decide)
                        have g25_τ22 : τ22.2.1 25 = τ26.2.1 25 := hf_τ22.2.1 25 (by decide)
                        have g26_τ22 : τ22.2.1 26 = τ26.2.1 26 := hf_τ22.2.1 26 (by decide)
                        have g27_τ22 : τ22.2.1 27 = τ26.2.1 27 := hf_τ22.2.1 27 (by decide)
                        have g28_τ22 : τ22.2.1 28 = τ26.2.1 28 := hf_τ22.2.1 28 (by decide)
                        first | (have o6_τ22 := congrArg oc g6_τ22) | skip
                        first | (have o7_τ22 := congrArg oc g7_τ22) | skip
                        have W0 : τ22.1 0 = σ.1 0 := by first | exact w0_τ22.trans W0 | omega
                        have W3 : τ22.1 3 = σ.1 3 := by first | exact w3_τ22.trans W3 | omega
                        have W5 : τ22.1 5 = σ.1 5 := by first | exact w5_τ22.trans W5 | omega
                        have W6 : τ22.1 6 = σ.1 6 := by first | exact w6_τ22.trans W6 | omega
                        have W7 : τ22.1 7 = σ.1 7 := by first | exact w7_τ22.trans W7 | omega
                        have W8 : τ22.1 8 = σ.1 8 := by first | exact w8_τ22.trans W8 | omega
                        have W22 : τ22.1 22 = σ.1 22 := by first | exact w22_τ22.trans W22 | omega
                        have G0 : τ22.2.1 0 = σ.2.1 0 := (g0_τ22).trans G0
                        have G6 : τ22.2.1 6 = σ.2.1 6 := (g6_τ22).trans G6
                        have G7 : τ22.2.1 7 = σ.2.1 7 := (g7_τ22).trans G7
                        have G25 : τ22.2.1 25 = σ.2.1 25 := (g25_τ22).trans G25
                        have y25_22_τ22 : τ22.2.1 25 (τ22.1 22) = (τ26.2.1 25) (τ26.1 22) := by rw [g25_τ22, w22_τ22]
                        have y26_22_τ22 : τ22.2.1 26 (τ22.1 22) = (τ26.2.1 26) (τ26.1 22) := by rw [g26_τ22, w22_τ22]
                        have y28_9_τ22 : τ22.2.1 28 (τ22.1 9) = (τ26.2.1 28) (τ26.1 9) := by rw [g28_τ22, w9_τ22]
                        have Z4 : τ22.2.1 25 (τ22.1 22) + τ22.2.1 26 (τ22.1 22) = (τ22.1 9) := by rw [show (τ22.2.1 25 (τ22.1 22) + τ22.2.1 26 (τ22.1 22) = (τ22.1 9)) = (τ26.2.1 25 (τ26.1 22) + τ26.2.1 26 (τ26.1 22) = (τ26.1 9)) from by rw [w9_τ22, w22_τ22, g25_τ22, g26_τ22]]; exact Z4
                        have Y8 : j_eq ((σ.1 9)) (σ.2.1 28) (τ22.2.1 28) := by rw [show (j_eq ((σ.1 9)) (σ.2.1 28) (τ22.2.1 28)) = (j_eq ((σ.1 9)) (σ.2.1 28) (τ26.2.1 28)) from by rw [g28_τ22]]; exact Y8
                        have Y9 : ca (τ22.2.1 28) ((τ22.1 9)) = ca (σ.2.1 28) ((σ.1 9)) := by rw [show (ca (τ22.2.1 28) ((τ22.1 9)) = ca (σ.2.1 28) ((σ.1 9))) = (ca (τ26.2.1 28) ((τ26.1 9)) = ca (σ.2.1 28) ((σ.1 9))) from by rw [w9_τ22, g28_τ22]]; exact Y9
                        have NSP : n_sp2 (τ22.2.1 25 (τ22.1 22)) (τ22.1 9) (τ22.1 22) (τ22.2.1 27) (τ22.2.1 28) := by rw [show (n_sp2 (τ22.2.1 25 (τ22.1 22)) (τ22.1 9) (τ22.1 22) (τ22.2.1 27) (τ22.2.1 28)) = (n_sp2 (τ26.2.1 25 (τ26.1 22)) (τ26.1 9) (τ26.1 22) (τ26.2.1 27) (τ26.2.1 28)) from by rw [w9_τ22, w22_τ22, g25_τ22, g27_τ22, g28_τ22]]; exact NSP
                        have A0 : ∀ j, 0 ≤ τ22.2.1 0 j ∧ τ22.2.1 0 j ≤ 255 := fun j => hT.2 0 j
                        have A6 : ∀ j, (-1) ≤ τ22.2.1 6 j ∧ τ22.2.1 6 j ≤ 999 := fun j => hT.2 6 j
                        have A7 : ∀ j, (-1) ≤ τ22.2.1 7 j ∧ τ22.2.1 7 j ≤ 1499 := fun j => hT.2 7 j
                        have A25 : ∀ j, 0 ≤ τ22.2.1 25 j ∧ τ22.2.1 25 j ≤ 20000 := fun j => hT.2 25 j
                        have A26 : ∀ j, 0 ≤ τ22.2.1 26 j ∧ τ22.2.1 26 j ≤ 20000 := fun j => hT.2 26 j
                        have A27 : ∀ j, (-300) ≤ τ22.2.1 27 j ∧ τ22.2.1 27 j ≤ 1499 := fun j => hT.2 27 j
                        have A28 : ∀ j, 0 ≤ τ22.2.1 28 j ∧ τ22.2.1 28 j ≤ 1 := fun j => hT.2 28 j
                        have v0 : 0 ≤ τ22.1 0 ∧ τ22.1 0 ≤ 60000 := hT.1 0
                        have v3 : 0 ≤ τ22.1 3 ∧ τ22.1 3 ≤ 1000 := hT.1 3
                        have v5 : 0 ≤ τ22.1 5 ∧ τ22.1 5 ≤ 1500 := hT.1 5
                        have v6 : 0 ≤ τ22.1 6 ∧ τ22.1 6 ≤ 30000 := hT.1 6
                        have v7 : 0 ≤ τ22.1 7 ∧ τ22.1 7 ≤ 90000 := hT.1 7
                        have v8 : 0 ≤ τ22.1 8 ∧ τ22.1 8 ≤ 20000 := hT.1 8
                        have v9 : 0 ≤ τ22.1 9 ∧ τ22.1 9 ≤ 20000 := hT.1 9
                        have v16 : 0 ≤ τ22.1 16 ∧ τ22.1 16 ≤ 60000 := hT.1 16
                        have v17 : 0 ≤ τ22.1 17 ∧ τ22.1 17 ≤ 60000 := hT.1 17
                        have v18 : 0 ≤ τ22.1 18 ∧ τ22.1 18 ≤ 60000 := hT.1 18
                        have v19 : (-1) ≤ τ22.1 19 ∧ τ22.1 19 ≤ 125 := hT.1 19
                        have v20 : 0 ≤ τ22.1 20 ∧ τ22.1 20 ≤ 19 := hT.1 20
                        have v22 : 0 ≤ τ22.1 22 ∧ τ22.1 22 ≤ 1499 := hT.1 22
                        have a0_17 : 0 ≤ τ22.2.1 0 (τ22.1 17) ∧ τ22.2.1 0 (τ22.1 17) ≤ 255 := hT.2 0 _
                        have a25_22 : 0 ≤ τ22.2.1 25 (τ22.1 22) ∧ τ22.2.1 25 (τ22.1 22) ≤ 20000 := hT.2 25 _
                        have a26_22 : 0 ≤ τ22.2.1 26 (τ22.1 22) ∧ τ22.2.1 26 (τ22.1 22) ≤ 20000 := hT.2 26 _
                        have a28_9 : 0 ≤ τ22.2.1 28 (τ22.1 9) ∧ τ22.2.1 28 (τ22.1 9) ≤ 1 := hT.2 28 _
                        have av9 : σ.1 9 ≤ τ22.1 9 := ag.1 9 (by decide)
                        exact ih_0 _ (show (3 * ((τ22.1 0) - (τ22.1 16)) + z_0 ((τ22.1 20)) + 1 - z_0 ((τ22.1 19)) : Int) < ((m_0 : Nat) : Int) from by (have zz0 := z_e ((τ22.1 20)); have zz1 := z_e ((τ22.1 19)); (first | omega | (simp only [st_s] <;> omega) | assumption | omega | fail))) hT ag (show τ22.1 0 = σ.1 0 from by first | exact W0 | omega) (show τ22.1 3 = σ.1 3 from by first | exact W3 | omega) (show τ22.1 5 = σ.1 5 from by first | exact W5 | omega) (show τ22.1 6 = σ.1 6 from by first | exact W6 | omega) (show τ22.1 7 = σ.1 7 from by first | exact W7 | omega) (show τ22.1 8 = σ.1 8 from by first | exact W8 | omega) (show τ22.1 22 = σ.1 22 from by first | exact W22 | omega) G0 G6 G7 G25 (show (τ22.1 16) ≤ (τ22.1 0) from by (first | omega | (simp only [st_s] <;> omega) | assumption | omega | fail)) (show (τ22.1 17) + (τ22.1 18) ≤ (τ22.1 0) from by (first | omega | (simp only [st_s] <;> omega) | assumption | omega | fail)) (show oc (τ22.2.1 6) < 4096 from by (first | omega | (simp only [st_s] <;> omega) | assumption | omega | fail)) (show oc (τ22.2.1 7) < 4096 from by (first | omega | (simp only [st_s] <;> omega) | assumption | omega | fail)) (show τ22.2.1 25 (τ22.1 22) + τ22.2.1 26 (τ22.1 22) = (τ22.1 9) from Z4) (show ¬ (σ.1 20) = 0 → (τ22.1 20) = (σ.1 20) from by (first | omega | (simp only [st_s] <;> omega) | assumption | omega | fail)) (show j_eq ((σ.1 9)) (σ.2.1 28) (τ22.2.1 28) from Y8) (show ca (τ22.2.1 28) ((τ22.1 9)) = ca (σ.2.1 28) ((σ.1 9)) from Y9) (show (σ.1 16) ≤ (τ22.1 16) from by (first | omega | (simp only [st_s] <;> omega) | assumption | omega | fail)) (show n_sp2 (τ22.2.1 25 (τ22.1 22)) (τ22.1 9) (τ22.1 22) (τ22.2.1 27) (τ22.2.1 28) from NSP)
                    ·
                      refine ⟨_, K_X13_failHere hT (show 0 ≤ (13 : Int) from by (first | omega | (simp only [st_s] <;> omega) | assumption | omega | fail)) (show (13 : Int) ≤ 19 from by (first | omega | (simp only [st_s] <;> omega) | assumption | omega | fail)), ?_⟩
                      intro τ29 hn_τ29 hf_τ29 hq
                      obtain ⟨hT, q27_1, q27_2⟩ := hq
                      replace q27_1 : ¬ (τ_0.1 20) = 0 → (τ29.1 20) = (τ_0.1 20) := q27_1
                      replace q27_2 : (τ_0.1 20) = 0 → (τ29.1 20) = (13 : Int) := q27_2
                      replace ag : m_ag σ τ29 := ag_r ag hf_τ29 rfl rfl
                      have w0_τ29 : τ29.1 0 = τ_0.1 0 := hf_τ29.1 0 (by decide)
                      have w3_τ29 : τ29.1 3 = τ_0.1 3 := hf_τ29.1 3 (by decide)
                      have w5_τ29 : τ29.1 5 = τ_0.1 5 := hf_τ29.1 5 (by decide)
                      have w6_τ29 : τ29.1 6 = τ_0.1 6 := hf_τ29.1 6 (by decide)
                      have w7_τ29 : τ29.1 7 = τ_0.1 7 := hf_τ29.1 7 (by decide)
                      have w8_τ29 : τ29.1 8 = τ_0.1 8 := hf_τ29.1 8 (by decide)
                      have w9_τ29 : τ29.1 9 = τ_0.1 9 := hf_τ29.1 9 (by decide)
                      have w16_τ29 : τ29.1 16 = τ_0.1 16 := hf_τ29.1 16 (by decide)
                      have w17_τ29 : τ29.1 17 = τ_0.1 17 := hf_τ29.1 17 (by decide)
                      have w18_τ29 : τ29.1 18 = τ_0.1 18 := hf_τ29.1 18 (by decide)
                      have w19_τ29 : τ29.1 19 = τ_0.1 19 := hf_τ29.1 19 (by decide)
                      have w22_τ29 : τ29.1 22 = τ_0.1 22 := hf_τ29.1 22 (by decide)
                      have g0_τ29 : τ29.2.1 0 = τ_0.2.1 0 := hf_τ29.2.1 0 (by decide)
                      have g6_τ29 : τ29.2.1 6 = τ_0.2.1 6 := hf_τ29.2.1 6 (by decide)
                      have g7_τ29 : τ29.2.1 7 = τ_0.2.1 7 := hf_τ29.2.1 7 (by decide)
                      have g25_τ29 : τ29.2.1 25 = τ_0.2.1 25 := hf_τ29.2.1 25 (by decide)
                      have g26_τ29 : τ29.2.1 26 = τ_0.2.1 26 := hf_τ29.2.1 26 (by decide)
                      have g27_τ29 : τ29.2.1 27 = τ_0.2.1 27 := hf_τ29.2.1 27 (by decide)
                      have g28_τ29 : τ29.2.1 28 = τ_0.2.1 28 := hf_τ29.2.1 28 (by decide)
                      first | (have o6_τ29 := congrArg oc g6_τ29) | skip
                      first | (have o7_τ29 := congrArg oc g7_τ29) | skip
                      have W0 : τ29.1 0 = σ.1 0 := by first | exact w0_τ29.trans W0 | omega
                      have W3 : τ29.1 3 = σ.1 3 := by first | exact w3_τ29.trans W3 | omega
                      have W5 : τ29.1 5 = σ.1 5 := by first | exact w5_τ29.trans W5 | omega
                      have W6 : τ29.1 6 = σ.1 6 := by first | exact w6_τ29.trans W6 | omega
                      have W7 : τ29.1 7 = σ.1 7 := by first | exact w7_τ29.trans W7 | omega
                      have W8 : τ29.1 8 = σ.1 8 := by first | exact w8_τ29.trans W8 | omega
                      have W22 : τ29.1 22 = σ.1 22 := by first | exact w22_τ29.trans W22 | omega
                      have G0 : τ29.2.1 0 = σ.2.1 0 := (g0_τ29).trans G0
                      have G6 : τ29.2.1 6 = σ.2.1 6 := (g6_τ29).trans G6
                      have G7 : τ29.2.1 7 = σ.2.1 7 := (g7_τ29).trans G7
                      have G25 : τ29.2.1 25 = σ.2.1 25 := (g25_τ29).trans G25
                      have y0_17_τ29 : τ29.2.1 0 (τ29.1 17) = (τ_0.2.1 0) (τ_0.1 17) := by rw [g0_τ29, w17_τ29]
                      have y25_22_τ29 : τ29.2.1 25 (τ29.1 22) = (τ_0.2.1 25) (τ_0.1 22) := by rw [g25_τ29, w22_τ29]
                      have y26_22_τ29 : τ29.2.1 26 (τ29.1 22) = (τ_0.2.1 26) (τ_0.1 22) := by rw [g26_τ29, w22_τ29]
                      have y28_9_τ29 : τ29.2.1 28 (τ29.1 9) = (τ_0.2.1 28) (τ_0.1 9) := by rw [g28_τ29, w9_τ29]
                      have Z4 : τ29.2.1 25 (τ29.1 22) + τ29.2.1 26 (τ29.1 22) = (τ29.1 9) := by rw [show (τ29.2.1 25 (τ29.1 22) + τ29.2.1 26 (τ29.1 22) = (τ29.1 9)) = (τ_0.2.1 25 (τ_0.1 22) + τ_0.2.1 26 (τ_0.1 22) = (τ_0.1 9)) from by rw [w9_τ29, w22_τ29, g25_τ29, g26_τ29]]; exact Z4
                      have Y8 : j_eq ((σ.1 9)) (σ.2.1 28) (τ29.2.1 28) := by rw [show (j_eq ((σ.1 9)) (σ.2.1 28) (τ29.2.1 28)) = (j_eq ((σ.1 9)) (σ.2.1 28) (τ_0.2.1 28)) from by rw [g28_τ29]]; exact Y8
                      have Y9 : ca (τ29.2.1 28) ((τ29.1 9)) = ca (σ.2.1 28) ((σ.1 9)) := by rw [show (ca (τ29.2.1 28) ((τ29.1 9)) = ca (σ.2.1 28) ((σ.1 9))) = (ca (τ_0.2.1 28) ((τ_0.1 9)) = ca (σ.2.1 28) ((σ.1 9))) from by rw [w9_τ29, g28_τ29]]; exact Y9
                      have NSP : n_sp2 (τ29.2.1 25 (τ29.1 22)) (τ29.1 9) (τ29.1 22) (τ29.2.1 27) (τ29.2.1 28) := by rw [show (n_sp2 (τ29.2.1 25 (τ29.1 22)) (τ29.1 9) (τ29.1 22) (τ29.2.1 27) (τ29.2.1 28)) = (n_sp2 (τ_0.2.1 25 (τ_0.1 22)) (τ_0.1 9) (τ_0.1 22) (τ_0.2.1 27) (τ_0.2.1 28)) from by rw [w9_τ29, w22_τ29, g25_τ29, g27_τ29, g28_τ29]]; exact NSP
                      have A0 : ∀ j, 0 ≤ τ29.2.1 0 j ∧ τ29.2.1 0 j ≤ 255 := fun j => hT.2 0 j
                      have A6 : ∀ j, (-1) ≤ τ29.2.1 6 j ∧ τ29.2.1 6 j ≤ 999 := fun j => hT.2 6 j
                      have A7 : ∀ j, (-1) ≤ τ29.2.1 7 j ∧ τ29.2.1 7 j ≤ 1499 := fun j => hT.2 7 j
                      have A25 : ∀ j, 0 ≤ τ29.2.1 25 j ∧ τ29.2.1 25 j ≤ 20000 := fun j => hT.2 25 j
                      have A26 : ∀ j, 0 ≤ τ29.2.1 26 j ∧ τ29.2.1 26 j ≤ 20000 := fun j => hT.2 26 j
                      have A27 : ∀ j, (-300) ≤ τ29.2.1 27 j ∧ τ29.2.1 27 j ≤ 1499 := fun j => hT.2 27 j
                      have A28 : ∀ j, 0 ≤ τ29.2.1 28 j ∧ τ29.2.1 28 j ≤ 1 := fun j => hT.2 28 j
                      have v0 : 0 ≤ τ29.1 0 ∧ τ29.1 0 ≤ 60000 := hT.1 0
                      have v3 : 0 ≤ τ29.1 3 ∧ τ29.1 3 ≤ 1000 := hT.1 3
                      have v5 : 0 ≤ τ29.1 5 ∧ τ29.1 5 ≤ 1500 := hT.1 5
                      have v6 : 0 ≤ τ29.1 6 ∧ τ29.1 6 ≤ 30000 := hT.1 6
                      have v7 : 0 ≤ τ29.1 7 ∧ τ29.1 7 ≤ 90000 := hT.1 7
                      have v8 : 0 ≤ τ29.1 8 ∧ τ29.1 8 ≤ 20000 := hT.1 8
                      have v9 : 0 ≤ τ29.1 9 ∧ τ29.1 9 ≤ 20000 := hT.1 9
                      have v16 : 0 ≤ τ29.1 16 ∧ τ29.1 16 ≤ 60000 := hT.1 16
                      have v17 : 0 ≤ τ29.1 17 ∧ τ29.1 17 ≤ 60000 := hT.1 17
                      have v18 : 0 ≤ τ29.1 18 ∧ τ29.1 18 ≤ 60000 := hT.1 18
                      have v19 : (-1) ≤ τ29.1 19 ∧ τ29.1 19 ≤ 125 := hT.1 19
                      have v20 : 0 ≤ τ29.1 20 ∧ τ29.1 20 ≤ 19 := hT.1 20
                      have v22 : 0 ≤ τ29.1 22 ∧ τ29.1 22 ≤ 1499 := hT.1 22
                      have a0_17 : 0 ≤ τ29.2.1 0 (τ29.1 17) ∧ τ29.2.1 0 (τ29.1 17) ≤ 255 := hT.2 0 _
                      have a25_22 : 0 ≤ τ29.2.1 25 (τ29.1 22) ∧ τ29.2.1 25 (τ29.1 22) ≤ 20000 := hT.2 25 _
                      have a26_22 : 0 ≤ τ29.2.1 26 (τ29.1 22) ∧ τ29.2.1 26 (τ29.1 22) ≤ 20000 := hT.2 26 _
                      have a28_9 : 0 ≤ τ29.2.1 28 (τ29.1 9) ∧ τ29.2.1 28 (τ29.1 9) ≤ 1 := hT.2 28 _
                      have av9 : σ.1 9 ≤ τ29.1 9 := ag.1 9 (by decide)
                      refine h111 _ ?_
                      refine ⟨fun c19 => ?_, fun c19 => ?_⟩
                      ·
                        exact ih_0 _ (show (3 * ((τ29.1 0) - (τ29.1 16)) + z_0 ((τ29.1 20)) + 1 - z_0 ((τ29.1 19)) : Int) < ((m_0 : Nat) : Int) from by (have zz0 := z_e ((τ29.1 20)); have zz1 := z_e ((τ29.1 19)); (first | omega | (simp only [st_s] <;> omega) | assumption | omega | fail))) hT ag (show τ29.1 0 = σ.1 0 from by first | exact W0 | omega) (show τ29.1 3 = σ.1 3 from by first | exact W3 | omega) (show τ29.1 5 = σ.1 5 from by first | exact W5 | omega) (show τ29.1 6 = σ.1 6 from by first | exact W6 | omega) (show τ29.1 7 = σ.1 7 from by first | exact W7 | omega) (show τ29.1 8 = σ.1 8 from by first | exact W8 | omega) (show τ29.1 22 = σ.1 22 from by first | exact W22 | omega) G0 G6 G7 G25 (show (τ29.1 16) ≤ (τ29.1 0) from by (first | omega | (simp only [st_s] <;> omega) | assumption | omega | fail)) (show (τ29.1 17) + (τ29.1 18) ≤ (τ29.1 0) from by (first | omega | (simp only [st_s] <;> omega) | assumption | omega | fail)) (show oc (τ29.2.1 6) < 4096 from by (first | omega | (simp only [st_s] <;> omega) | assumption | omega | fail)) (show oc (τ29.2.1 7) < 4096 from by (first | omega | (simp only [st_s] <;> omega) | assumption | omega | fail)) (show τ29.2.1 25 (τ29.1 22) + τ29.2.1 26 (τ29.1 22) = (τ29.1 9) from Z4) (show ¬ (σ.1 20) = 0 → (τ29.1 20) = (σ.1 20) from by (first | omega | (simp only [st_s] <;> omega) | assumption | omega | fail)) (show j_eq ((σ.1 9)) (σ.2.1 28) (τ29.2.1 28) from Y8) (show ca (τ29.2.1 28) ((τ29.1 9)) = ca (σ.2.1 28) ((σ.1 9)) from Y9) (show (σ.1 16) ≤ (τ29.1 16) from by (first | omega | (simp only [st_s] <;> omega) | assumption | omega | fail)) (show n_sp2 (τ29.2.1 25 (τ29.1 22)) (τ29.1 9) (τ29.1 22) (τ29.2.1 27) (τ29.2.1 28) from NSP)
                      ·
                        refine ⟨_, K_X13_next hT (show (τ29.1 16) ≤ (τ29.1 0) from by (first | omega | (simp only [st_s] <;> omega) | assumption | omega | fail)), ?_⟩
                        intro τ22 hn_τ22 hf_τ22 hq
                        obtain ⟨hT, q20_1, q20_2, q20_3, q20_4, q20_5⟩ := hq
                        replace q20_1 : (τ22.1 16) ≤ (τ22.1 0) := q20_1
                        replace q20_2 : (τ22.1 17) + (τ22.1 18) ≤ (τ22.1 0) := q20_2
                        replace q20_3 : (τ29.1 16) ≤ (τ22.1 16) := q20_3
                        replace q20_4 : ¬ (τ29.1 20) = 0 → (τ22.1 20) = (τ29.1 20) := q20_4
                        replace q20_5 : (τ22.1 20) = 0 → ¬ (τ22.1 19) = 0 → (τ29.1 16) < (τ22.1 16) ∧ 0 < (τ22.1 18) := q20_5
                        replace ag : m_ag σ τ22 := ag_r ag hf_τ22 rfl rfl
                        have w0_τ22 : τ22.1 0 = τ29.1 0 := hf_τ22.1 0 (by decide)
                        have w3_τ22 : τ22.1 3 = τ29.1 3 := hf_τ22.1 3 (by decide)
                        have w5_τ22 : τ22.1 5 = τ29.1 5 := hf_τ22.1 5 (by decide)
                        have w6_τ22 : τ22.1 6 = τ29.1 6 := hf_τ22.1 6 (by decide)
                        have w7_τ22 : τ22.1 7 = τ29.1 7 := hf_τ22.1 7 (by decide)
                        have w8_τ22 : τ22.1 8 = τ29.1 8 := hf_τ22.1 8 (by decide)
                        have w9_τ22 : τ22.1 9 = τ29.1 9 := hf_τ22.1 9 (by decide)
                        have w22_τ22 : τ22.1 22 = τ29.1 22 := hf_τ22.1 22 (by decide)
                        have g0_τ22 : τ22.2.1 0 = τ29.2.1 0 := hf_τ22.2.1 0 (by decide)
                        have g6_τ22 : τ22.2.1 6 = τ29.2.1 6 := hf_τ22.2.1 6 (by decide)
                        have g7_τ22 : τ22.2.1 7 = τ29.2.1 7 := hf_τ22.2.1 7 (by decide)
                        have g25_τ22 : τ22.2.1 25 = τ29.2.1 25 := hf_τ22.2.1 25 (by decide)
                        have g26_τ22 : τ22.2.1 26 = τ29.2.1 26 := hf_τ22.2.1 26 (by decide)
                        have g27_τ22 : τ22.2.1 27 = τ29.2.1 27 := hf_τ22.2.1 27 (by decide)
                        have g28_τ22 : τ22.2.1 28 = τ29.2.1 28 := hf_τ22.2.1 28 (by decide)
                        first | (have o6_τ22 := congrArg oc g6_τ22) | skip
                        first | (have o7_τ22 := congrArg oc g7_τ22) | skip
                        have W0 : τ22.1 0 = σ.1 0 := by first | exact w0_τ22.trans W0 | omega
                        have W3 : τ22.1 3 = σ.1 3 := by first | exact w3_τ22.trans W3 | omega
                        have W5 : τ22.1 5 = σ.1 5 := by first | exact w5_τ22.trans W5 | omega
                        have W6 : τ22.1 6 = σ.1 6 := by first | exact w6_τ22.trans W6 | omega
                        have W7 : τ22.1 7 = σ.1 7 := by first | exact w7_τ22.trans W7 | omega
                        have W8 : τ22.1 8 = σ.1 8 := by first | exact w8_τ22.trans W8 | omega
                        have W22 : τ22.1 22 = σ.1 22 := by first | exact w22_τ22.trans W22 | omega
                        have G0 : τ22.2.1 0 = σ.2.1 0 := (g0_τ22).trans G0
                        have G6 : τ22.2.1 6 = σ.2.1 6 := (g6_τ22).trans G6
                        have G7 : τ22.2.1 7 = σ.2.1 7 := (g7_τ22).trans G7
                        have G25 : τ22.2.1 25 = σ.2.1 25 := (g25_τ22).trans G25
                        have y25_22_τ22 : τ22.2.1 25 (τ22.1 22) = (τ29.2.1 25) (τ29.1 22) := by rw [g25_τ22, w22_τ22]
                        have y26_22_τ22 : τ22.2.1 26 (τ22.1 22) = (τ29.2.1 26) (τ29.1 22) := by rw [g26_τ22, w22_τ22]
                        have y28_9_τ22 : τ22.2.1 28 (τ22.1 9) = (τ29.2.1 28) (τ29.1 9) := by rw [g28_τ22, w9_τ22]
                        have Z4 : τ22.2.1 25 (τ22.1 22) + τ22.2.1 26 (τ22.1 22) = (τ22.1 9) := by rw [show (τ22.2.1 25 (τ22.1 22) + τ22.2.1 26 (τ22.1 22) = (τ22.1 9)) = (τ29.2.1 25 (τ29.1 22) + τ29.2.1 26 (τ29.1 22) = (τ29.1 9)) from by rw [w9_τ22, w22_τ22, g25_τ22, g26_τ22]]; exact Z4
                        have Y8 : j_eq ((σ.1 9)) (σ.2.1 28) (τ22.2.1 28) := by rw [show (j_eq ((σ.1 9)) (σ.2.1 28) (τ22.2.1 28)) = (j_eq ((σ.1 9)) (σ.2.1 28) (τ29.2.1 28)) from by rw [g28_τ22]]; exact Y8
                        have Y9 : ca (τ22.2.1 28) ((τ22.1 9)) = ca (σ.2.1 28) ((σ.1 9)) := by rw [show (ca (τ22.2.1 28) ((τ22.1 9)) = ca (σ.2.1 28) ((σ.1 9))) = (ca (τ29.2.1 28) ((τ29.1 9)) = ca (σ.2.1 28) ((σ.1 9))) from by rw [w9_τ22, g28_τ22]]; exact Y9
                        have NSP : n_sp2 (τ22.2.1 25 (τ22.1 22)) (τ22.1 9) (τ22.1 22) (τ22.2.1 27) (τ22.2.1 28) := by rw [show (n_sp2 (τ22.2.1 25 (τ22.1 22)) (τ22.1 9) (τ22.1 22) (τ22.2.1 27) (τ22.2.1 28)) = (n_sp2 (τ29.2.1 25 (τ29.1 22)) (τ29.1 9) (τ29.1 22) (τ29.2.1 27) (τ29.2.1 28)) from by rw [w9_τ22, w22_τ22, g25_τ22, g27_τ22, g28_τ22]]; exact NSP
                        have A0 : ∀ j, 0 ≤ τ22.2.1 0 j ∧ τ22.2.1 0 j ≤ 255 := fun j => hT.2 0 j
                        have A6 : ∀ j, (-1) ≤ τ22.2.1 6 j ∧ τ22.2.1 6 j ≤ 999 := fun j => hT.2 6 j
                        have A7 : ∀ j, (-1) ≤ τ22.2.1 7 j ∧ τ22.2.1 7 j ≤ 1499 := fun j => hT.2 7 j
                        have A25 : ∀ j, 0 ≤ τ22.2.1 25 j ∧ τ22.2.1 25 j ≤ 20000 := fun j => hT.2 25 j
                        have A26 : ∀ j, 0 ≤ τ22.2.1 26 j ∧ τ22.2.1 26 j ≤ 20000 := fun j => hT.2 26 j
                        have A27 : ∀ j, (-300) ≤ τ22.2.1 27 j ∧ τ22.2.1 27 j ≤ 1499 := fun j => hT.2 27 j
                        have A28 : ∀ j, 0 ≤ τ22.2.1 28 j ∧ τ22.2.1 28 j ≤ 1 := fun j => hT.2 28 j
                        have v0 : 0 ≤ τ22.1 0 ∧ τ22.1 0 ≤ 60000 := hT.1 0
                        have v3 : 0 ≤ τ22.1 3 ∧ τ22.1 3 ≤ 1000 := hT.1 3
                        have v5 : 0 ≤ τ22.1 5 ∧ τ22.1 5 ≤ 1500 := hT.1 5
                        have v6 : 0 ≤ τ22.1 6 ∧ τ22.1 6 ≤ 30000 := hT.1 6
                        have v7 : 0 ≤ τ22.1 7 ∧ τ22.1 7 ≤ 90000 := hT.1 7
                        have v8 : 0 ≤ τ22.1 8 ∧ τ22.1 8 ≤ 20000 := hT.1 8
                        have v9 : 0 ≤ τ22.1 9 ∧ τ22.1 9 ≤ 20000 := hT.1 9
                        have v16 : 0 ≤ τ22.1 16 ∧ τ22.1 16 ≤ 60000 := hT.1 16
                        have v17 : 0 ≤ τ22.1 17 ∧ τ22.1 17 ≤ 60000 := hT.1 17
                        have v18 : 0 ≤ τ22.1 18 ∧ τ22.1 18 ≤ 60000 := hT.1 18
                        have v19 : (-1) ≤ τ22.1 19 ∧ τ22.1 19 ≤ 125 := hT.1 19
                        have v20 : 0 ≤ τ22.1 20 ∧ τ22.1 20 ≤ 19 := hT.1 20
                        have v22 : 0 ≤ τ22.1 22 ∧ τ22.1 22 ≤ 1499 := hT.1 22
                        have a0_17 : 0 ≤ τ22.2.1 0 (τ22.1 17) ∧ τ22.2.1 0 (τ22.1 17) ≤ 255 := hT.2 0 _
                        have a25_22 : 0 ≤ τ22.2.1 25 (τ22.1 22) ∧ τ22.2.1 25 (τ22.1 22) ≤ 20000 := hT.2 25 _
                        have a26_22 : 0 ≤ τ22.2.1 26 (τ22.1 22) ∧ τ22.2.1 26 (τ22.1 22) ≤ 20000 := hT.2 26 _
                        have a28_9 : 0 ≤ τ22.2.1 28 (τ22.1 9) ∧ τ22.2.1 28 (τ22.1 9) ≤ 1 := hT.2 28 _
                        have av9 : σ.1 9 ≤ τ22.1 9 := ag.1 9 (by decide)
                        exact ih_0 _ (show (3 * ((τ22.1 0) - (τ22.1 16)) + z_0 ((τ22.1 20)) + 1 - z_0 ((τ22.1 19)) : Int) < ((m_0 : Nat) : Int) from by (have zz0 := z_e ((τ22.1 20)); have zz1 := z_e ((τ22.1 19)); (first | omega | (simp only [st_s] <;> omega) | assumption | omega | fail))) hT ag (show τ22.1 0 = σ.1 0 from by first | exact W0 | omega) (show τ22.1 3 = σ.1 3 from by first | exact W3 | omega) (show τ22.1 5 = σ.1 5 from by first | exact W5 | omega) (show τ22.1 6 = σ.1 6 from by first | exact W6 | omega) (show τ22.1 7 = σ.1 7 from by first | exact W7 | omega) (show τ22.1 8 = σ.1 8 from by first | exact W8 | omega) (show τ22.1 22 = σ.1 22 from by first | exact W22 | omega) G0 G6 G7 G25 (show (τ22.1 16) ≤ (τ22.1 0) from by (first | omega | (simp only [st_s] <;> omega) | assumption | omega | fail)) (show (τ22.1 17) + (τ22.1 18) ≤ (τ22.1 0) from by (first | omega | (simp only [st_s] <;> omega) | assumption | omega | fail)) (show oc (τ22.2.1 6) < 4096 from by (first | omega | (simp only [st_s] <;> omega) | assumption | omega | fail)) (show oc (τ22.2.1 7) < 4096 from by (first | omega | (simp only [st_s] <;> omega) | assumption | omega | fail)) (show τ22.2.1 25 (τ22.1 22) + τ22.2.1 26 (τ22.1 22) = (τ22.1 9) from Z4) (show ¬ (σ.1 20) = 0 → (τ22.1 20) = (σ.1 20) from by (first | omega | (simp only [st_s] <;> omega) | assumption | omega | fail)) (show j_eq ((σ.1 9)) (σ.2.1 28) (τ22.2.1 28) from Y8) (show ca (τ22.2.1 28) ((τ22.1 9)) = ca (σ.2.1 28) ((σ.1 9)) from Y9) (show (σ.1 16) ≤ (τ22.1 16) from by (first | omega | (simp only [st_s] <;> omega) | assumption | omega | fail)) (show n_sp2 (τ22.2.1 25 (τ22.1 22)) (τ22.1 9) (τ22.1 22) (τ22.2.1 27) (τ22.2.1 28) from NSP)
                  ·
                    refine ⟨_, K_X13_failHere hT (show 0 ≤ (5 : Int) from by (first | omega | (simp only [st_s] <;> omega) | assumption | omega | fail)) (show (5 : Int) ≤ 19 from by (first | omega | (simp only [st_s] <;> omega) | assumption | omega | fail)), ?_⟩
                    intro τ18 hn_τ18 hf_τ18 hq
                    obtain ⟨hT, q16_1, q16_2⟩ := hq
                    replace q16_1 : ¬ (τ_0.1 20) = 0 → (τ18.1 20) = (τ_0.1 20) := q16_1
                    replace q16_2 : (τ_0.1 20) = 0 → (τ18.1 20) = (5 : Int) := q16_2
                    replace ag : m_ag σ τ18 := ag_r ag hf_τ18 rfl rfl
                    have w0_τ18 : τ18.1 0 = τ_0.1 0 := hf_τ18.1 0 (by decide)
                    have w3_τ18 : τ18.1 3 = τ_0.1 3 := hf_τ18.1 3 (by decide)
                    have w5_τ18 : τ18.1 5 = τ_0.1 5 := hf_τ18.1 5 (by decide)
                    have w6_τ18 : τ18.1 6 = τ_0.1 6 := hf_τ18.1 6 (by decide)
                    have w7_τ18 : τ18.1 7 = τ_0.1 7 := hf_τ18.1 7 (by decide)
                    have w8_τ18 : τ18.1 8 = τ_0.1 8 := hf_τ18.1 8 (by decide)
                    have w9_τ18 : τ18.1 9 = τ_0.1 9 := hf_τ18.1 9 (by decide)
                    have w16_τ18 : τ18.1 16 = τ_0.1 16 := hf_τ18.1 16 (by decide)
                    have w17_τ18 : τ18.1 17 = τ_0.1 17 := hf_τ18.1 17 (by decide)
                    have w18_τ18 : τ18.1 18 = τ_0.1 18 := hf_τ18.1 18 (by decide)
                    have w19_τ18 : τ18.1 19 = τ_0.1 19 := hf_τ18.1 19 (by decide)
                    have w22_τ18 : τ18.1 22 = τ_0.1 22 := hf_τ18.1 22 (by decide)
                    have g0_τ18 : τ18.2.1 0 = τ_0.2.1 0 := hf_τ18.2.1 0 (by decide)
                    have g6_τ18 : τ18.2.1 6 = τ_0.2.1 6 := hf_τ18.2.1 6 (by decide)
                    have g7_τ18 : τ18.2.1 7 = τ_0.2.1 7 := hf_τ18.2.1 7 (by decide)
                    have g25_τ18 : τ18.2.1 25 = τ_0.2.1 25 := hf_τ18.2.1 25 (by decide)
                    have g26_τ18 : τ18.2.1 26 = τ_0.2.1 26 := hf_τ18.2.1 26 (by decide)
                    have g27_τ18 : τ18.2.1 27 = τ_0.2.1 27 := hf_τ18.2.1 27 (by decide)
                    have g28_τ18 : τ18.2.1 28 = τ_0.2.1 28 := hf_τ18.2.1 28 (by decide)
                    first | (have o6_τ18 := congrArg oc g6_τ18) | skip
                    first | (have o7_τ18 := congrArg oc g7_τ18) | skip
                    have W0 : τ18.1 0 = σ.1 0 := by first | exact w0_τ18.trans W0 | omega
                    have W3 : τ18.1 3 = σ.1 3 := by first | exact w3_τ18.trans W3 | omega
                    have W5 : τ18.1 5 = σ.1 5 := by first | exact w5_τ18.trans W5 | omega
                    have W6 : τ18.1 6 = σ.1 6 := by first | exact w6_τ18.trans W6 | omega
                    have W7 : τ18.1 7 = σ.1 7 := by first | exact w7_τ18.trans W7 | omega
                    have W8 : τ18.1 8 = σ.1 8 := by first | exact w8_τ18.trans W8 | omega
                    have W22 : τ18.1 22 = σ.1 22 := by first | exact w22_τ18.trans W22 | omega
                    have G0 : τ18.2.1 0 = σ.2.1 0 := (g0_τ18).trans G0
                    have G6 : τ18.2.1 6 = σ.2.1 6 := (g6_τ18).trans G6
                    have G7 : τ18.2.1 7 = σ.2.1 7 := (g7_τ18).trans G7
                    have G25 : τ18.2.1 25 = σ.2.1 25 := (g25_τ18).trans G25
                    have y0_17_τ18 : τ18.2.1 0 (τ18.1 17) = (τ_0.2.1 0) (τ_0.1 17) := by rw [g0_τ18, w17_τ18]
                    have y25_22_τ18 : τ18.2.1 25 (τ18.1 22) = (τ_0.2.1 25) (τ_0.1 22) := by rw [g25_τ18, w22_τ18]
                    have y26_22_τ18 : τ18.2.1 26 (τ18.1 22) = (τ_0.2.1 26) (τ_0.1 22) := by rw [g26_τ18, w22_τ18]
                    have y28_9_τ18 : τ18.2.1 28 (τ18.1 9) = (τ_0.2.1 28) (τ_0.1 9) := by rw [g28_τ18, w9_τ18]
                    have Z4 : τ18.2.1 25 (τ18.1 22) + τ18.2.1 26 (τ18.1 22) = (τ18.1 9) := by rw [show (τ18.2.1 25 (τ18.1 22) + τ18.2.1 26 (τ18.1 22) = (τ18.1 9)) = (τ_0.2.1 25 (τ_0.1 22) + τ_0.2.1 26 (τ_0.1 22) = (τ_0.1 9)) from by rw [w9_τ18, w22_τ18, g25_τ18, g26_τ18]]; exact Z4
                    have Y8 : j_eq ((σ.1 9)) (σ.2.1 28) (τ18.2.1 28) := by rw [show (j_eq ((σ.1 9)) (σ.2.1 28) (τ18.2.1 28)) = (j_eq ((σ.1 9)) (σ.2.1 28) (τ_0.2.1 28)) from by rw [g28_τ18]]; exact Y8
                    have Y9 : ca (τ18.2.1 28) ((τ18.1 9)) = ca (σ.2.1 28) ((σ.1 9)) := by rw [show (ca (τ18.2.1 28) ((τ18.1 9)) = ca (σ.2.1 28) ((σ.1 9))) = (ca (τ_0.2.1 28) ((τ_0.1 9)) = ca (σ.2.1 28) ((σ.1 9))) from by rw [w9_τ18, g28_τ18]]; exact Y9
                    have NSP : n_sp2 (τ18.2.1 25 (τ18.1 22)) (τ18.1 9) (τ18.1 22) (τ18.2.1 27) (τ18.2.1 28) := by rw [show (n_sp2 (τ18.2.1 25 (τ18.1 22)) (τ18.1 9) (τ18.1 22) (τ18.2.1 27) (τ18.2.1 28)) = (n_sp2 (τ_0.2.1 25 (τ_0.1 22)) (τ_0.1 9) (τ_0.1 22) (τ_0.2.1 27) (τ_0.2.1 28)) from by rw [w9_τ18, w22_τ18, g25_τ18, g27_τ18, g28_τ18]]; exact NSP
                    have A0 : ∀ j, 0 ≤ τ18.2.1 0 j ∧ τ18.2.1 0 j ≤ 255 := fun j => hT.2 0 j
                    have A6 : ∀ j, (-1) ≤ τ18.2.1 6 j ∧ τ18.2.1 6 j ≤ 999 := fun j => hT.2 6 j
                    have A7 : ∀ j, (-1) ≤ τ18.2.1 7 j ∧ τ18.2.1 7 j ≤ 1499 := fun j => hT.2 7 j
                    have A25 : ∀ j, 0 ≤ τ18.2.1 25 j ∧ τ18.2.1 25 j ≤ 20000 := fun j => hT.2 25 j
                    have A26 : ∀ j, 0 ≤ τ18.2.1 26 j ∧ τ18.2.1 26 j ≤ 20000 := fun j => hT.2 26 j
                    have A27 : ∀ j, (-300) ≤ τ18.2.1 27 j ∧ τ18.2.1 27 j ≤ 1499 := fun j => hT.2 27 j
                    have A28 : ∀ j, 0 ≤ τ18.2.1 28 j ∧ τ18.2.1 28 j ≤ 1 := fun j => hT.2 28 j
                    have v0 : 0 ≤ τ18.1 0 ∧ τ18.1 0 ≤ 60000 := hT.1 0
                    have v3 : 0 ≤ τ18.1 3 ∧ τ18.1 3 ≤ 1000 := hT.1 3
                    have v5 : 0 ≤ τ18.1 5 ∧ τ18.1 5 ≤ 1500 := hT.1 5
                    have v6 : 0 ≤ τ18.1 6 ∧ τ18.1 6 ≤ 30000 := hT.1 6
                    have v7 : 0 ≤ τ18.1 7 ∧ τ18.1 7 ≤ 90000 := hT.1 7
                    have v8 : 0 ≤ τ18.1 8 ∧ τ18.1 8 ≤ 20000 := hT.1 8
                    have v9 : 0 ≤ τ18.1 9 ∧ τ18.1 9 ≤ 20000 := hT.1 9
                    have v16 : 0 ≤ τ18.1 16 ∧ τ18.1 16 ≤ 60000 := hT.1 16
                    have v17 : 0 ≤ τ18.1 17 ∧ τ18.1 17 ≤ 60000 := hT.1 17
                    have v18 : 0 ≤ τ18.1 18 ∧ τ18.1 18 ≤ 60000 := hT.1 18
                    have v19 : (-1) ≤ τ18.1 19 ∧ τ18.1 19 ≤ 125 := hT.1 19
                    have v20 : 0 ≤ τ18.1 20 ∧ τ18.1 20 ≤ 19 := hT.1 20
                    have v22 : 0 ≤ τ18.1 22 ∧ τ18.1 22 ≤ 1499 := hT.1 22
                    have a0_17 : 0 ≤ τ18.2.1 0 (τ18.1 17) ∧ τ18.2.1 0 (τ18.1 17) ≤ 255 := hT.2 0 _
                    have a25_22 : 0 ≤ τ18.2.1 25 (τ18.1 22) ∧ τ18.2.1 25 (τ18.1 22) ≤ 20000 := hT.2 25 _
                    have a26_22 : 0 ≤ τ18.2.1 26 (τ18.1 22) ∧ τ18.2.1 26 (τ18.1 22) ≤ 20000 := hT.2 26 _
                    have a28_9 : 0 ≤ τ18.2.1 28 (τ18.1 9) ∧ τ18.2.1 28 (τ18.1 9) ≤ 1 := hT.2 28 _
                    have av9 : σ.1 9 ≤ τ18.1 9 := ag.1 9 (by decide)
                    refine h111 _ ?_
                    refine ⟨fun c19 => ?_, fun c19 => ?_⟩
                    ·
                      exact ih_0 _ (show (3 * ((τ18.1 0) - (τ18.1 16)) + z_0 ((τ18.1 20)) + 1 - z_0 ((τ18.1 19)) : Int) < ((m_0 : Nat) : Int) from by (have zz0 := z_e ((τ18.1 20)); have zz1 := z_e ((τ18.1 19)); (first | omega | (simp only [st_s] <;> omega) | assumption | omega | fail))) hT ag (show τ18.1 0 = σ.1 0 from by first | exact W0 | omega) (show τ18.1 3 = σ.1 3 from by first | exact W3 | omega) (show τ18.1 5 = σ.1 5 from by first | exact W5 | omega) (show τ18.1 6 = σ.1 6 from by first | exact W6 | omega) (show τ18.1 7 = σ.1 7 from by first | exact W7 | omega) (show τ18.1 8 = σ.1 8 from by first | exact W8 | omega) (show τ18.1 22 = σ.1 22 from by first | exact W22 | omega) G0 G6 G7 G25 (show (τ18.1 16) ≤ (τ18.1 0) from by (first | omega | (simp only [st_s] <;> omega) | assumption | omega | fail)) (show (τ18.1 17) + (τ18.1 18) ≤ (τ18.1 0) from by (first | omega | (simp only [st_s] <;> omega) | assumption | omega | fail)) (show oc (τ18.2.1 6) < 4096 from by (first | omega | (simp only [st_s] <;> omega) | assumption | omega | fail)) (show oc (τ18.2.1 7) < 4096 from by (first | omega | (simp only [st_s] <;> omega) | assumption | omega | fail)) (show τ18.2.1 25 (τ18.1 22) + τ18.2.1 26 (τ18.1 22) = (τ18.1 9) from Z4) (show ¬ (σ.1 20) = 0 → (τ18.1 20) = (σ.1 20) from by (first | omega | (simp only [st_s] <;> omega) | assumption | omega | fail)) (show j_eq ((σ.1 9)) (σ.2.1 28) (τ18.2.1 28) from Y8) (show ca (τ18.2.1 28) ((τ18.1 9)) = ca (σ.2.1 28) ((σ.1 9)) from Y9) (show (σ.1 16) ≤ (τ18.1 16) from by (first | omega | (simp only [st_s] <;> omega) | assumption | omega | fail)) (show n_sp2 (τ18.2.1 25 (τ18.1 22)) (τ18.1 9) (τ18.1 22) (τ18.2.1 27) (τ18.2.1 28) from NSP)
                    ·
                      refine ⟨_, K_X13_next hT (show (τ18.1 16) ≤ (τ18.1 0) from by (first | omega | (simp only [st_s] <;> omega) | assumption | omega | fail)), ?_⟩
                      intro τ22 hn_τ22 hf_τ22 hq
                      obtain ⟨hT, q20_1, q20_2, q20_3, q20_4, q20_5⟩ := hq
                      replace q20_1 : (τ22.1 16) ≤ (τ22.1 0) := q20_1
                      replace q20_2 : (τ22.1 17) + (τ22.1 18) ≤ (τ22.1 0) := q20_2
                      replace q20_3 : (τ18.1 16) ≤ (τ22.1 16) := q20_3
                      replace q20_4 : ¬ (τ18.1 20) = 0 → (τ22.1 20) = (τ18.1 20) := q20_4
                      replace q20_5 : (τ22.1 20) = 0 → ¬ (τ22.1 19) = 0 → (τ18.1 16) < (τ22.1 16) ∧ 0 < (τ22.1 18) := q20_5
                      replace ag : m_ag σ τ22 := ag_r ag hf_τ22 rfl rfl
                      have w0_τ22 : τ22.1 0 = τ18.1 0 := hf_τ22.1 0 (by decide)
                      have w3_τ22 : τ22.1 3 = τ18.1 3 := hf_τ22.1 3 (by decide)
                      have w5_τ22 : τ22.1 5 = τ18.1 5 := hf_τ22.1 5 (by decide)
                      have w6_τ22 : τ22.1 6 = τ18.1 6 := hf_τ22.1 6 (by decide)
                      have w7_τ22 : τ22.1 7 = τ18.1 7 := hf_τ22.1 7 (by decide)
                      have w8_τ22 : τ22.1 8 = τ18.1 8 := hf_τ22.1 8 (by decide)
                      have w9_τ22 : τ22.1 9 = τ18.1 9 := hf_τ22.1 9 (by decide)
                      have w22_τ22 : τ22.1 22 = τ18.1 22 := hf_τ22.1 22 (by decide)
                      have g0_τ22 : τ22.2.1 0 = τ18.2.1 0 := hf_τ22.2.1 0 (by decide)
                      have g6_τ22 : τ22.2.1 6 = τ18.2.1 6 := hf_τ22.2.1 6 (by decide)
                      have g7_τ22 : τ22.2.1 7 = τ18.2.1 7 := hf_τ22.2.1 7 (by decide)
                      have g25_τ22 : τ22.2.1 25 = τ18.2.1 25 := hf_τ22.2.1 25 (by decide)
                      have g26_τ22 : τ22.2.1 26 = τ18.2.1 26 := hf_τ22.2.1 26 (by decide)
                      have g27_τ22 : τ22.2.1 27 = τ18.2.1 27 := hf_τ22.2.1 27 (by decide)
                      have g28_τ22 : τ22.2.1 28 = τ18.2.1 28 := hf_τ22.2.1 28 (by decide)
                      first | (have o6_τ22 := congrArg oc g6_τ22) | skip
                      first | (have o7_τ22 := congrArg oc g7_τ22) | skip
                      have W0 : τ22.1 0 = σ.1 0 := by first | exact w0_τ22.trans W0 | omega
                      have W3 : τ22.1 3 = σ.1 3 := by first | exact w3_τ22.trans W3 | omega
                      have W5 : τ22.1 5 = σ.1 5 := by first | exact w5_τ22.trans W5 | omega
                      have W6 : τ22.1 6 = σ.1 6 := by first | exact w6_τ22.trans W6 | omega
                      have W7 : τ22.1 7 = σ.1 7 := by first | exact w7_τ22.trans W7 | omega
                      have W8 : τ22.1 8 = σ.1 8 := by first | exact w8_τ22.trans W8 | omega
                      have W22 : τ22.1 22 = σ.1 22 := by first | exact w22_τ22.trans W22 | omega
                      have G0 : τ22.2.1 0 = σ.2.1 0 := (g0_τ22).trans G0
                      have G6 : τ22.2.1 6 = σ.2.1 6 := (g6_τ22).trans G6
                      have G7 : τ22.2.1 7 = σ.2.1 7 := (g7_τ22).trans G7
                      have G25 : τ22.2.1 25 = σ.2.1 25 := (g25_τ22).trans G25
                      have y25_22_τ22 : τ22.2.1 25 (τ22.1 22) = (τ18.2.1 25) (τ18.1 22) := by rw [g25_τ22, w22_τ22]
                      have y26_22_τ22 : τ22.2.1 26 (τ22.1 22) = (τ18.2.1 26) (τ18.1 22) := by rw [g26_τ22, w22_τ22]
                      have y28_9_τ22 : τ22.2.1 28 (τ22.1 9) = (τ18.2.1 28) (τ18.1 9) := by rw [g28_τ22, w9_τ22]
                      have Z4 : τ22.2.1 25 (τ22.1 22) + τ22.2.1 26 (τ22.1 22) = (τ22.1 9) := by rw [show (τ22.2.1 25 (τ22.1 22) + τ22.2.1 26 (τ22.1 22) = (τ22.1 9)) = (τ18.2.1 25 (τ18.1 22) + τ18.2.1 26 (τ18.1 22) = (τ18.1 9)) from by rw [w9_τ22, w22_τ22, g25_τ22, g26_τ22]]; exact Z4
                      have Y8 : j_eq ((σ.1 9)) (σ.2.1 28) (τ22.2.1 28) := by rw [show (j_eq ((σ.1 9)) (σ.2.1 28) (τ22.2.1 28)) = (j_eq ((σ.1 9)) (σ.2.1 28) (τ18.2.1 28)) from by rw [g28_τ22]]; exact Y8
                      have Y9 : ca (τ22.2.1 28) ((τ22.1 9)) = ca (σ.2.1 28) ((σ.1 9)) := by rw [show (ca (τ22.2.1 28) ((τ22.1 9)) = ca (σ.2.1 28) ((σ.1 9))) = (ca (τ18.2.1 28) ((τ18.1 9)) = ca (σ.2.1 28) ((σ.1 9))) from by rw [w9_τ22, g28_τ22]]; exact Y9
                      have NSP : n_sp2 (τ22.2.1 25 (τ22.1 22)) (τ22.1 9) (τ22.1 22) (τ22.2.1 27) (τ22.2.1 28) := by rw [show (n_sp2 (τ22.2.1 25 (τ22.1 22)) (τ22.1 9) (τ22.1 22) (τ22.2.1 27) (τ22.2.1 28)) = (n_sp2 (τ18.2.1 25 (τ18.1 22)) (τ18.1 9) (τ18.1 22) (τ18.2.1 27) (τ18.2.1 28)) from by rw [w9_τ22, w22_τ22, g25_τ22, g27_τ22, g28_τ22]]; exact NSP
                      have A0 : ∀ j, 0 ≤ τ22.2.1 0 j ∧ τ22.2.1 0 j ≤ 255 := fun j => hT.2 0 j
                      have A6 : ∀ j, (-1) ≤ τ22.2.1 6 j ∧ τ22.2.1 6 j ≤ 999 := fun j => hT.2 6 j
                      have A7 : ∀ j, (-1) ≤ τ22.2.1 7 j ∧ τ22.2.1 7 j ≤ 1499 := fun j => hT.2 7 j
                      have A25 : ∀ j, 0 ≤ τ22.2.1 25 j ∧ τ22.2.1 25 j ≤ 20000 := fun j => hT.2 25 j
                      have A26 : ∀ j, 0 ≤ τ22.2.1 26 j ∧ τ22.2.1 26 j ≤ 20000 := fun j => hT.2 26 j
                      have A27 : ∀ j, (-300) ≤ τ22.2.1 27 j ∧ τ22.2.1 27 j ≤ 1499 := fun j => hT.2 27 j
                      have A28 : ∀ j, 0 ≤ τ22.2.1 28 j ∧ τ22.2.1 28 j ≤ 1 := fun j => hT.2 28 j
                      have v0 : 0 ≤ τ22.1 0 ∧ τ22.1 0 ≤ 60000 := hT.1 0
                      have v3 : 0 ≤ τ22.1 3 ∧ τ22.1 3 ≤ 1000 := hT.1 3
                      have v5 : 0 ≤ τ22.1 5 ∧ τ22.1 5 ≤ 1500 := hT.1 5
                      have v6 : 0 ≤ τ22.1 6 ∧ τ22.1 6 ≤ 30000 := hT.1 6
                      have v7 : 0 ≤ τ22.1 7 ∧ τ22.1 7 ≤ 90000 := hT.1 7
                      have v8 : 0 ≤ τ22.1 8 ∧ τ22.1 8 ≤ 20000 := hT.1 8
                      have v9 : 0 ≤ τ22.1 9 ∧ τ22.1 9 ≤ 20000 := hT.1 9
                      have v16 : 0 ≤ τ22.1 16 ∧ τ22.1 16 ≤ 60000 := hT.1 16
                      have v17 : 0 ≤ τ22.1 17 ∧ τ22.1 17 ≤ 60000 := hT.1 17
                      have v18 : 0 ≤ τ22.1 18 ∧ τ22.1 18 ≤ 60000 := hT.1 18
                      have v19 : (-1) ≤ τ22.1 19 ∧ τ22.1 19 ≤ 125 := hT.1 19
                      have v20 : 0 ≤ τ22.1 20 ∧ τ22.1 20 ≤ 19 := hT.1 20
                      have v22 : 0 ≤ τ22.1 22 ∧ τ22.1 22 ≤ 1499 := hT.1 22
                      have a0_17 : 0 ≤ τ22.2.1 0 (τ22.1 17) ∧ τ22.2.1 0 (τ22.1 17) ≤ 255 := hT.2 0 _
                      have a25_22 : 0 ≤ τ22.2.1 25 (τ22.1 22) ∧ τ22.2.1 25 (τ22.1 22) ≤ 20000 := hT.2 25 _
                      have a26_22 : 0 ≤ τ22.2.1 26 (τ22.1 22) ∧ τ22.2.1 26 (τ22.1 22) ≤ 20000 := hT.2 26 _
                      have a28_9 : 0 ≤ τ22.2.1 28 (τ22.1 9) ∧ τ22.2.1 28 (τ22.1 9) ≤ 1 := hT.2 28 _
                      have av9 : σ.1 9 ≤ τ22.1 9 := ag.1 9 (by decide)
                      exact ih_0 _ (show (3 * ((τ22.1 0) - (τ22.1 16)) + z_0 ((τ22.1 20)) + 1 - z_0 ((τ22.1 19)) : Int) < ((m_0 : Nat) : Int) from by (have zz0 := z_e ((τ22.1 20)); have zz1 := z_e ((τ22.1 19)); (first | omega | (simp only [st_s] <;> omega) | assumption | omega | fail))) hT ag (show τ22.1 0 = σ.1 0 from by first | exact W0 | omega) (show τ22.1 3 = σ.1 3 from by first | exact W3 | omega) (show τ22.1 5 = σ.1 5 from by first | exact W5 | omega) (show τ22.1 6 = σ.1 6 from by first | exact W6 | omega) (show τ22.1 7 = σ.1 7 from by first | exact W7 | omega) (show τ22.1 8 = σ.1 8 from by first | exact W8 | omega) (show τ22.1 22 = σ.1 22 from by first | exact W22 | omega) G0 G6 G7 G25 (show (τ22.1 16) ≤ (τ22.1 0) from by (first | omega | (simp only [st_s] <;> omega) | assumption | omega | fail)) (show (τ22.1 17) + (τ22.1 18) ≤ (τ22.1 0) from by (first | omega | (simp only [st_s] <;> omega) | assumption | omega | fail)) (show oc (τ22.2.1 6) < 4096 from by (first | omega | (simp only [st_s] <;> omega) | assumption | omega | fail)) (show oc (τ22.2.1 7) < 4096 from by (first | omega | (simp only [st_s] <;> omega) | assumption | omega | fail)) (show τ22.2.1 25 (τ22.1 22) + τ22.2.1 26 (τ22.1 22) = (τ22.1 9) from Z4) (show ¬ (σ.1 20) = 0 → (τ22.1 20) = (σ.1 20) from by (first | omega | (simp only [st_s] <;> omega) | assumption | omega | fail)) (show j_eq ((σ.1 9)) (σ.2.1 28) (τ22.2.1 28) from Y8) (show ca (τ22.2.1 28) ((τ22.1 9)) = ca (σ.2.1 28) ((σ.1 9)) from Y9) (show (σ.1 16) ≤ (τ22.1 16) from by (first | omega | (simp only [st_s] <;> omega) | assumption | omega | fail)) (show n_sp2 (τ22.2.1 25 (τ22.1 22)) (τ22.1 9) (τ22.1 22) (τ22.2.1 27) (τ22.2.1 28) from NSP)
              ·
                replace ag := ag_v (i := 23) (x := 1) ag (Or.inl rfl)
                replace hT := mT_v (i := 23) hT (show (0 : Int) ≤ 1 ∧ 1 ≤ 1 from by (first | omega | (simp only [st_s] <;> omega) | assumption | omega | fail))
                obtain ⟨τ_111, e_τ_111⟩ : ∃ z : S0, z = s_v τ_0 23 1 := ⟨_, rfl⟩
                rw [← e_τ_111]
                replace hT : m_T τ_111 := by rw [e_τ_111]; exact hT
                replace ag : m_ag σ τ_111 := by rw [e_τ_111]; exact ag
                have w0_τ_111 : τ_111.1 0 = τ_0.1 0 := by rw [e_τ_111]; rfl
                have w3_τ_111 : τ_111.1 3 = τ_0.1 3 := by rw [e_τ_111]; rfl
                have w5_τ_111 : τ_111.1 5 = τ_0.1 5 := by rw [e_τ_111]; rfl
                have w6_τ_111 : τ_111.1 6 = τ_0.1 6 := by rw [e_τ_111]; rfl
                have w7_τ_111 : τ_111.1 7 = τ_0.1 7 := by rw [e_τ_111]; rfl
                have w8_τ_111 : τ_111.1 8 = τ_0.1 8 := by rw [e_τ_111]; rfl
                have w9_τ_111 : τ_111.1 9 = τ_0.1 9 := by rw [e_τ_111]; rfl
                have w16_τ_111 : τ_111.1 16 = τ_0.1 16 := by rw [e_τ_111]; rfl
                have w17_τ_111 : τ_111.1 17 = τ_0.1 17 := by rw [e_τ_111]; rfl
                have w18_τ_111 : τ_111.1 18 = τ_0.1 18 := by rw [e_τ_111]; rfl
                have w19_τ_111 : τ_111.1 19 = τ_0.1 19 := by rw [e_τ_111]; rfl
                have w20_τ_111 : τ_111.1 20 = τ_0.1 20 := by rw [e_τ_111]; rfl
                have w22_τ_111 : τ_111.1 22 = τ_0.1 22 := by rw [e_τ_111]; rfl
                have g0_τ_111 : τ_111.2.1 0 = τ_0.2.1 0 := by rw [e_τ_111]; rfl
                have g6_τ_111 : τ_111.2.1 6 = τ_0.2.1 6 := by rw [e_τ_111]; rfl
                have g7_τ_111 : τ_111.2.1 7 = τ_0.2.1 7 := by rw [e_τ_111]; rfl
                have g25_τ_111 : τ_111.2.1 25 = τ_0.2.1 25 := by rw [e_τ_111]; rfl
                have g26_τ_111 : τ_111.2.1 26 = τ_0.2.1 26 := by rw [e_τ_111]; rfl
                have g27_τ_111 : τ_111.2.1 27 = τ_0.2.1 27 := by rw [e_τ_111]; rfl
                have g28_τ_111 : τ_111.2.1 28 = τ_0.2.1 28 := by rw [e_τ_111]; rfl
                first | (have o6_τ_111 := congrArg oc g6_τ_111) | skip
                first | (have o7_τ_111 := congrArg oc g7_τ_111) | skip
                have W0 : τ_111.1 0 = σ.1 0 := by first | exact w0_τ_111.trans W0 | omega
                have W3 : τ_111.1 3 = σ.1 3 := by first | exact w3_τ_111.trans W3 | omega
                have W5 : τ_111.1 5 = σ.1 5 := by first | exact w5_τ_111.trans W5 | omega
                have W6 : τ_111.1 6 = σ.1 6 := by first | exact w6_τ_111.trans W6 | omega
                have W7 : τ_111.1 7 = σ.1 7 := by first | exact w7_τ_111.trans W7 | omega
                have W8 : τ_111.1 8 = σ.1 8 := by first | exact w8_τ_111.trans W8 | omega
                have W22 : τ_111.1 22 = σ.1 22 := by first | exact w22_τ_111.trans W22 | omega
                have G0 : τ_111.2.1 0 = σ.2.1 0 := (g0_τ_111).trans G0
                have G6 : τ_111.2.1 6 = σ.2.1 6 := (g6_τ_111).trans G6
                have G7 : τ_111.2.1 7 = σ.2.1 7 := (g7_τ_111).trans G7
                have G25 : τ_111.2.1 25 = σ.2.1 25 := (g25_τ_111).trans G25
                have y0_17_τ_111 : τ_111.2.1 0 (τ_111.1 17) = (τ_0.2.1 0) (τ_0.1 17) := by rw [g0_τ_111, w17_τ_111]
                have y25_22_τ_111 : τ_111.2.1 25 (τ_111.1 22) = (τ_0.2.1 25) (τ_0.1 22) := by rw [g25_τ_111, w22_τ_111]
                have y26_22_τ_111 : τ_111.2.1 26 (τ_111.1 22) = (τ_0.2.1 26) (τ_0.1 22) := by rw [g26_τ_111, w22_τ_111]
                have y28_9_τ_111 : τ_111.2.1 28 (τ_111.1 9) = (τ_0.2.1 28) (τ_0.1 9) := by rw [g28_τ_111, w9_τ_111]
                have Z4 : τ_111.2.1 25 (τ_111.1 22) + τ_111.2.1 26 (τ_111.1 22) = (τ_111.1 9) := by rw [show (τ_111.2.1 25 (τ_111.1 22) + τ_111.2.1 26 (τ_111.1 22) = (τ_111.1 9)) = (τ_0.2.1 25 (τ_0.1 22) + τ_0.2.1 26 (τ_0.1 22) = (τ_0.1 9)) from by rw [w9_τ_111, w22_τ_111, g25_τ_111, g26_τ_111]]; exact Z4
                have Y8 : j_eq ((σ.1 9)) (σ.2.1 28) (τ_111.2.1 28) := by rw [show (j_eq ((σ.1 9)) (σ.2.1 28) (τ_111.2.1 28)) = (j_eq ((σ.1 9)) (σ.2.1 28) (τ_0.2.1 28)) from by rw [g28_τ_111]]; exact Y8
                have Y9 : ca (τ_111.2.1 28) ((τ_111.1 9)) = ca (σ.2.1 28) ((σ.1 9)) := by rw [show (ca (τ_111.2.1 28) ((τ_111.1 9)) = ca (σ.2.1 28) ((σ.1 9))) = (ca (τ_0.2.1 28) ((τ_0.1 9)) = ca (σ.2.1 28) ((σ.1 9))) from by rw [w9_τ_111, g28_τ_111]]; exact Y9
                have NSP : n_sp2 (τ_111.2.1 25 (τ_111.1 22)) (τ_111.1 9) (τ_111.1 22) (τ_111.2.1 27) (τ_111.2.1 28) := by rw [show (n_sp2 (τ_111.2.1 25 (τ_111.1 22)) (τ_111.1 9) (τ_111.1 22) (τ_111.2.1 27) (τ_111.2.1 28)) = (n_sp2 (τ_0.2.1 25 (τ_0.1 22)) (τ_0.1 9) (τ_0.1 22) (τ_0.2.1 27) (τ_0.2.1 28)) from by rw [w9_τ_111, w22_τ_111, g25_τ_111, g27_τ_111, g28_τ_111]]; exact NSP
                have A0 : ∀ j, 0 ≤ τ_111.2.1 0 j ∧ τ_111.2.1 0 j ≤ 255 := fun j => hT.2 0 j
                have A6 : ∀ j, (-1) ≤ τ_111.2.1 6 j ∧ τ_111.2.1 6 j ≤ 999 := fun j => hT.2 6 j
                have A7 : ∀ j, (-1) ≤ τ_111.2.1 7 j ∧ τ_111.2.1 7 j ≤ 1499 := fun j => hT.2 7 j
                have A25 : ∀ j, 0 ≤ τ_111.2.1 25 j ∧ τ_111.2.1 25 j ≤ 20000 := fun j => hT.2 25 j
                have A26 : ∀ j, 0 ≤ τ_111.2.1 26 j ∧ τ_111.2.1 26 j ≤ 20000 := fun j => hT.2 26 j
                have A27 : ∀ j, (-300) ≤ τ_111.2.1 27 j ∧ τ_111.2.1 27 j ≤ 1499 := fun j => hT.2 27 j
                have A28 : ∀ j, 0 ≤ τ_111.2.1 28 j ∧ τ_111.2.1 28 j ≤ 1 := fun j => hT.2 28 j
                have v0 : 0 ≤ τ_111.1 0 ∧ τ_111.1 0 ≤ 60000 := hT.1 0
                have v3 : 0 ≤ τ_111.1 3 ∧ τ_111.1 3 ≤ 1000 := hT.1 3
                have v5 : 0 ≤ τ_111.1 5 ∧ τ_111.1 5 ≤ 1500 := hT.1 5
                have v6 : 0 ≤ τ_111.1 6 ∧ τ_111.1 6 ≤ 30000 := hT.1 6
                have v7 : 0 ≤ τ_111.1 7 ∧ τ_111.1 7 ≤ 90000 := hT.1 7
                have v8 : 0 ≤ τ_111.1 8 ∧ τ_111.1 8 ≤ 20000 := hT.1 8
                have v9 : 0 ≤ τ_111.1 9 ∧ τ_111.1 9 ≤ 20000 := hT.1 9
                have v16 : 0 ≤ τ_111.1 16 ∧ τ_111.1 16 ≤ 60000 := hT.1 16
                have v17 : 0 ≤ τ_111.1 17 ∧ τ_111.1 17 ≤ 60000 := hT.1 17
                have v18 : 0 ≤ τ_111.1 18 ∧ τ_111.1 18 ≤ 60000 := hT.1 18
                have v19 : (-1) ≤ τ_111.1 19 ∧ τ_111.1 19 ≤ 125 := hT.1 19
                have v20 : 0 ≤ τ_111.1 20 ∧ τ_111.1 20 ≤ 19 := hT.1 20
                have v22 : 0 ≤ τ_111.1 22 ∧ τ_111.1 22 ≤ 1499 := hT.1 22
                have a0_17 : 0 ≤ τ_111.2.1 0 (τ_111.1 17) ∧ τ_111.2.1 0 (τ_111.1 17) ≤ 255 := hT.2 0 _
                have a25_22 : 0 ≤ τ_111.2.1 25 (τ_111.1 22) ∧ τ_111.2.1 25 (τ_111.1 22) ≤ 20000 := hT.2 25 _
                have a26_22 : 0 ≤ τ_111.2.1 26 (τ_111.1 22) ∧ τ_111.2.1 26 (τ_111.1 22) ≤ 20000 := hT.2 26 _
                have a28_9 : 0 ≤ τ_111.2.1 28 (τ_111.1 9) ∧ τ_111.2.1 28 (τ_111.1 9) ≤ 1 := hT.2 28 _
                have av9 : σ.1 9 ≤ τ_111.1 9 := ag.1 9 (by decide)
                refine h111 _ ?_
                refine ⟨fun c19 => ?_, fun c19 => ?_⟩
                ·
                  exact ih_0 _ (show (3 * ((τ_111.1 0) - (τ_111.1 16)) + z_0 ((τ_111.1 20)) + 1 - z_0 ((τ_111.1 19)) : Int) < ((m_0 : Nat) : Int) from by (have zz0 := z_e ((τ_111.1 20)); have zz1 := z_e ((τ_111.1 19)); (first | omega | (simp only [st_s] <;> omega) | assumption | omega | fail))) hT ag (show τ_111.1 0 = σ.1 0 from by first | exact W0 | omega) (show τ_111.1 3 = σ.1 3 from by first | exact W3 | omega) (show τ_111.1 5 = σ.1 5 from by first | exact W5 | omega) (show τ_111.1 6 = σ.1 6 from by first | exact W6 | omega) (show τ_111.1 7 = σ.1 7 from by first | exact W7 | omega) (show τ_111.1 8 = σ.1 8 from by first | exact W8 | omega) (show τ_111.1 22 = σ.1 22 from by first | exact W22 | omega) G0 G6 G7 G25 (show (τ_111.1 16) ≤ (τ_111.1 0) from by (first | omega | (simp only [st_s] <;> omega) | assumption | omega | fail)) (show (τ_111.1 17) + (τ_111.1 18) ≤ (τ_111.1 0) from by (first | omega | (simp only [st_s] <;> omega) | assumption | omega | fail)) (show oc (τ_111.2.1 6) < 4096 from by (first | omega | (simp only [st_s] <;> omega) | assumption | omega | fail)) (show oc (τ_111.2.1 7) < 4096 from by (first | omega | (simp only [st_s] <;> omega) | assumption | omega | fail)) (show τ_111.2.1 25 (τ_111.1 22) + τ_111.2.1 26 (τ_111.1 22) = (τ_111.1 9) from Z4) (show ¬ (σ.1 20) = 0 → (τ_111.1 20) = (σ.1 20) from by (first | omega | (simp only [st_s] <;> omega) | assumption | omega | fail)) (show j_eq ((σ.1 9)) (σ.2.1 28) (τ_111.2.1 28) from Y8) (show ca (τ_111.2.1 28) ((τ_111.1 9)) = ca (σ.2.1 28) ((σ.1 9)) from Y9) (show (σ.1 16) ≤ (τ_111.1 16) from by (first | omega | (simp only [st_s] <;> omega) | assumption | omega | fail)) (show n_sp2 (τ_111.2.1 25 (τ_111.1 22)) (τ_111.1 9) (τ_111.1 22) (τ_111.2.1 27) (τ_111.2.1 28) from NSP)
                ·
                  refine ⟨_, K_X13_next hT (show (τ_111.1 16) ≤ (τ_111.1 0) from by (first | omega | (simp only [st_s] <;> omega) | assumption | omega | fail)), ?_⟩
                  intro τ22 hn_τ22 hf_τ22 hq
                  obtain ⟨hT, q20_1, q20_2, q20_3, q20_4, q20_5⟩ := hq
                  replace q20_1 : (τ22.1 16) ≤ (τ22.1 0) := q20_1
                  replace q20_2 : (τ22.1 17) + (τ22.1 18) ≤ (τ22.1 0) := q20_2
                  replace q20_3 : (τ_111.1 16) ≤ (τ22.1 16) := q20_3
                  replace q20_4 : ¬ (τ_111.1 20) = 0 → (τ22.1 20) = (τ_111.1 20) := q20_4
                  replace q20_5 : (τ22.1 20) = 0 → ¬ (τ22.1 19) = 0 → (τ_111.1 16) < (τ22.1 16) ∧ 0 < (τ22.1 18) := q20_5
                  replace ag : m_ag σ τ22 := ag_r ag hf_τ22 rfl rfl
                  have w0_τ22 : τ22.1 0 = τ_111.1 0 := hf_τ22.1 0 (by decide)
                  have w3_τ22 : τ22.1 3 = τ_111.1 3 := hf_τ22.1 3 (by decide)
                  have w5_τ22 : τ22.1 5 = τ_111.1 5 := hf_τ22.1 5 (by decide)
                  have w6_τ22 : τ22.1 6 = τ_111.1 6 := hf_τ22.1 6 (by decide)
                  have w7_τ22 : τ22.1 7 = τ_111.1 7 := hf_τ22.1 7 (by decide)
                  have w8_τ22 : τ22.1 8 = τ_111.1 8 := hf_τ22.1 8 (by decide)
                  have w9_τ22 : τ22.1 9 = τ_111.1 9 := hf_τ22.1 9 (by decide)
                  have w22_τ22 : τ22.1 22 = τ_111.1 22 := hf_τ22.1 22 (by decide)
                  have g0_τ22 : τ22.2.1 0 = τ_111.2.1 0 := hf_τ22.2.1 0 (by decide)
                  have g6_τ22 : τ22.2.1 6 = τ_111.2.1 6 := hf_τ22.2.1 6 (by decide)
                  have g7_τ22 : τ22.2.1 7 = τ_111.2.1 7 := hf_τ22.2.1 7 (by decide)
                  have g25_τ22 : τ22.2.1 25 = τ_111.2.1 25 := hf_τ22.2.1 25 (by decide)
                  have g26_τ22 : τ22.2.1 26 = τ_111.2.1 26 := hf_τ22.2.1 26 (by decide)
                  have g27_τ22 : τ22.2.1 27 = τ_111.2.1 27 := hf_τ22.2.1 27 (by decide)
                  have g28_τ22 : τ22.2.1 28 = τ_111.2.1 28 := hf_τ22.2.1 28 (by decide)
                  first | (have o6_τ22 := congrArg oc g6_τ22) | skip
                  first | (have o7_τ22 := congrArg oc g7_τ22) | skip
                  have W0 : τ22.1 0 = σ.1 0 := by first | exact w0_τ22.trans W0 | omega
                  have W3 : τ22.1 3 = σ.1 3 := by first | exact w3_τ22.trans W3 | omega
                  have W5 : τ22.1 5 = σ.1 5 := by first | exact w5_τ22.trans W5 | omega
                  have W6 : τ22.1 6 = σ.1 6 := by first | exact w6_τ22.trans W6 | omega
                  have W7 : τ22.1 7 = σ.1 7 := by first | exact w7_τ22.trans W7 | omega
                  have W8 : τ22.1 8 = σ.1 8 := by first | exact w8_τ22.trans W8 | omega
                  have W22 : τ22.1 22 = σ.1 22 := by first | exact w22_τ22.trans W22 | omega
                  have G0 : τ22.2.1 0 = σ.2.1 0 := (g0_τ22).trans G0
                  have G6 : τ22.2.1 6 = σ.2.1 6 := (g6_τ22).trans G6
                  have G7 : τ22.2.1 7 = σ.2.1 7 := (g7_τ22).trans G7
                  have G25 : τ22.2.1 25 = σ.2.1 25 := (g25_τ22).trans G25
                  have y25_22_τ22 : τ22.2.1 25 (τ22.1 22) = (τ_111.2.1 25) (τ_111.1 22) := by rw [g25_τ22, w22_τ22]
                  have y26_22_τ22 : τ22.2.1 26 (τ22.1 22) = (τ_111.2.1 26) (τ_111.1 22) := by rw [g26_τ22, w22_τ22]
                  have y28_9_τ22 : τ22.2.1 28 (τ22.1 9) = (τ_111.2.1 28) (τ_111.1 9) := by rw [g28_τ22, w9_τ22]
                  have Z4 : τ22.2.1 25 (τ22.1 22) + τ22.2.1 26 (τ22.1 22) = (τ22.1 9) := by rw [show (τ22.2.1 25 (τ22.1 22) + τ22.2.1 26 (τ22.1 22) = (τ22.1 9)) = (τ_111.2.1 25 (τ_111.1 22) + τ_111.2.1 26 (τ_111.1 22) = (τ_111.1 9)) from by rw [w9_τ22, w22_τ22, g25_τ22, g26_τ22]]; exact Z4
                  have Y8 : j_eq ((σ.1 9)) (σ.2.1 28) (τ22.2.1 28) := by rw [show (j_eq ((σ.1 9)) (σ.2.1 28) (τ22.2.1 28)) = (j_eq ((σ.1 9)) (σ.2.1 28) (τ_111.2.1 28)) from by rw [g28_τ22]]; exact Y8
                  have Y9 : ca (τ22.2.1 28) ((τ22.1 9)) = ca (σ.2.1 28) ((σ.1 9)) := by rw [show (ca (τ22.2.1 28) ((τ22.1 9)) = ca (σ.2.1 28) ((σ.1 9))) = (ca (τ_111.2.1 28) ((τ_111.1 9)) = ca (σ.2.1 28) ((σ.1 9))) from by rw [w9_τ22, g28_τ22]]; exact Y9
                  have NSP : n_sp2 (τ22.2.1 25 (τ22.1 22)) (τ22.1 9) (τ22.1 22) (τ22.2.1 27) (τ22.2.1 28) := by rw [show (n_sp2 (τ22.2.1 25 (τ22.1 22)) (τ22.1 9) (τ22.1 22) (τ22.2.1 27) (τ22.2.1 28)) = (n_sp2 (τ_111.2.1 25 (τ_111.1 22)) (τ_111.1 9) (τ_111.1 22) (τ_111.2.1 27) (τ_111.2.1 28)) from by rw [w9_τ22, w22_τ22, g25_τ22, g27_τ22, g28_τ22]]; exact NSP
                  have A0 : ∀ j, 0 ≤ τ22.2.1 0 j ∧ τ22.2.1 0 j ≤ 255 := fun j => hT.2 0 j
                  have A6 : ∀ j, (-1) ≤ τ22.2.1 6 j ∧ τ22.2.1 6 j ≤ 999 := fun j => hT.2 6 j
                  have A7 : ∀ j, (-1) ≤ τ22.2.1 7 j ∧ τ22.2.1 7 j ≤ 1499 := fun j => hT.2 7 j
                  have A25 : ∀ j, 0 ≤ τ22.2.1 25 j ∧ τ22.2.1 25 j ≤ 20000 := fun j => hT.2 25 j
                  have A26 : ∀ j, 0 ≤ τ22.2.1 26 j ∧ τ22.2.1 26 j ≤ 20000 := fun j => hT.2 26 j
                  have A27 : ∀ j, (-300) ≤ τ22.2.1 27 j ∧ τ22.2.1 27 j ≤ 1499 := fun j => hT.2 27 j
                  have A28 : ∀ j, 0 ≤ τ22.2.1 28 j ∧ τ22.2.1 28 j ≤ 1 := fun j => hT.2 28 j
                  have v0 : 0 ≤ τ22.1 0 ∧ τ22.1 0 ≤ 60000 := hT.1 0
                  have v3 : 0 ≤ τ22.1 3 ∧ τ22.1 3 ≤ 1000 := hT.1 3
                  have v5 : 0 ≤ τ22.1 5 ∧ τ22.1 5 ≤ 1500 := hT.1 5
                  have v6 : 0 ≤ τ22.1 6 ∧ τ22.1 6 ≤ 30000 := hT.1 6
                  have v7 : 0 ≤ τ22.1 7 ∧ τ22.1 7 ≤ 90000 := hT.1 7
                  have v8 : 0 ≤ τ22.1 8 ∧ τ22.1 8 ≤ 20000 := hT.1 8
                  have v9 : 0 ≤ τ22.1 9 ∧ τ22.1 9 ≤ 20000 := hT.1 9
                  have v16 : 0 ≤ τ22.1 16 ∧ τ22.1 16 ≤ 60000 := hT.1 16
                  have v17 : 0 ≤ τ22.1 17 ∧ τ22.1 17 ≤ 60000 := hT.1 17
                  have v18 : 0 ≤ τ22.1 18 ∧ τ22.1 18 ≤ 60000 := hT.1 18
                  have v19 : (-1) ≤ τ22.1 19 ∧ τ22.1 19 ≤ 125 := hT.1 19
                  have v20 : 0 ≤ τ22.1 20 ∧ τ22.1 20 ≤ 19 := hT.1 20
                  have v22 : 0 ≤ τ22.1 22 ∧ τ22.1 22 ≤ 1499 := hT.1 22
                  have a0_17 : 0 ≤ τ22.2.1 0 (τ22.1 17) ∧ τ22.2.1 0 (τ22.1 17) ≤ 255 := hT.2 0 _
                  have a25_22 : 0 ≤ τ22.2.1 25 (τ22.1 22) ∧ τ22.2.1 25 (τ22.1 22) ≤ 20000 := hT.2 25 _
                  have a26_22 : 0 ≤ τ22.2.1 26 (τ22.1 22) ∧ τ22.2.1 26 (τ22.1 22) ≤ 20000 := hT.2 26 _
                  have a28_9 : 0 ≤ τ22.2.1 28 (τ22.1 9) ∧ τ22.2.1 28 (τ22.1 9) ≤ 1 := hT.2 28 _
                  have av9 : σ.1 9 ≤ τ22.1 9 := ag.1 9 (by decide)
                  exact ih_0 _ (show (3 * ((τ22.1 0) - (τ22.1 16)) + z_0 ((τ22.1 20)) + 1 - z_0 ((τ22.1 19)) : Int) < ((m_0 : Nat) : Int) from by (have zz0 := z_e ((τ22.1 20)); have zz1 := z_e ((τ22.1 19)); (first | omega | (simp only [st_s] <;> omega) | assumption | omega | fail))) hT ag (show τ22.1 0 = σ.1 0 from by first | exact W0 | omega) (show τ22.1 3 = σ.1 3 from by first | exact W3 | omega) (show τ22.1 5 = σ.1 5 from by first | exact W5 | omega) (show τ22.1 6 = σ.1 6 from by first | exact W6 | omega) (show τ22.1 7 = σ.1 7 from by first | exact W7 | omega) (show τ22.1 8 = σ.1 8 from by first | exact W8 | omega) (show τ22.1 22 = σ.1 22 from by first | exact W22 | omega) G0 G6 G7 G25 (show (τ22.1 16) ≤ (τ22.1 0) from by (first | omega | (simp only [st_s] <;> omega) | assumption | omega | fail)) (show (τ22.1 17) + (τ22.1 18) ≤ (τ22.1 0) from by (first | omega | (simp only [st_s] <;> omega) | assumption | omega | fail)) (show oc (τ22.2.1 6) < 4096 from by (first | omega | (simp only [st_s] <;> omega) | assumption | omega | fail)) (show oc (τ22.2.1 7) < 4096 from by (first | omega | (simp only [st_s] <;> omega) | assumption | omega | fail)) (show τ22.2.1 25 (τ22.1 22) + τ22.2.1 26 (τ22.1 22) = (τ22.1 9) from Z4) (show ¬ (σ.1 20) = 0 → (τ22.1 20) = (σ.1 20) from by (first | omega | (simp only [st_s] <;> omega) | assumption | omega | fail)) (show j_eq ((σ.1 9)) (σ.2.1 28) (τ22.2.1 28) from Y8) (show ca (τ22.2.1 28) ((τ22.1 9)) = ca (σ.2.1 28) ((σ.1 9)) from Y9) (show (σ.1 16) ≤ (τ22.1 16) from by (first | omega | (simp only [st_s] <;> omega) | assumption | omega | fail)) (show n_sp2 (τ22.2.1 25 (τ22.1 22)) (τ22.1 9) (τ22.1 22) (τ22.2.1 27) (τ22.2.1 28) from NSP)
          ·
            refine ⟨_, K_X13_failHere hT (show 0 ≤ (4 : Int) from by (first | omega | (simp only [st_s] <;> omega) | assumption | omega | fail)) (show (4 : Int) ≤ 19 from by (first | omega | (simp only [st_s] <;> omega) | assumption | omega | fail)), ?_⟩
            intro τ10 hn_τ10 hf_τ10 hq
            obtain ⟨hT, q8_1, q8_2⟩ := hq
            replace q8_1 : ¬ (τ_0.1 20) = 0 → (τ10.1 20) = (τ_0.1 20) := q8_1
            replace q8_2 : (τ_0.1 20) = 0 → (τ10.1 20) = (4 : Int) := q8_2
            replace ag : m_ag σ τ10 := ag_r ag hf_τ10 rfl rfl
            have w0_τ10 : τ10.1 0 = τ_0.1 0 := hf_τ10.1 0 (by decide)
            have w3_τ10 : τ10.1 3 = τ_0.1 3 := hf_τ10.1 3 (by decide)
            have w5_τ10 : τ10.1 5 = τ_0.1 5 := hf_τ10.1 5 (by decide)
            have w6_τ10 : τ10.1 6 = τ_0.1 6 := hf_τ10.1 6 (by decide)
            have w7_τ10 : τ10.1 7 = τ_0.1 7 := hf_τ10.1 7 (by decide)
            have w8_τ10 : τ10.1 8 = τ_0.1 8 := hf_τ10.1 8 (by decide)
            have w9_τ10 : τ10.1 9 = τ_0.1 9 := hf_τ10.1 9 (by decide)
            have w16_τ10 : τ10.1 16 = τ_0.1 16 := hf_τ10.1 16 (by decide)
            have w17_τ10 : τ10.1 17 = τ_0.1 17 := hf_τ10.1 17 (by decide)
            have w18_τ10 : τ10.1 18 = τ_0.1 18 := hf_τ10.1 18 (by decide)
            have w19_τ10 : τ10.1 19 = τ_0.1 19 := hf_τ10.1 19 (by decide)
            have w22_τ10 : τ10.1 22 = τ_0.1 22 := hf_τ10.1 22 (by decide)
            have g0_τ10 : τ10.2.1 0 = τ_0.2.1 0 := hf_τ10.2.1 0 (by decide)
            have g6_τ10 : τ10.2.1 6 = τ_0.2.1 6 := hf_τ10.2.1 6 (by decide)
            have g7_τ10 : τ10.2.1 7 = τ_0.2.1 7 := hf_τ10.2.1 7 (by decide)
            have g25_τ10 : τ10.2.1 25 = τ_0.2.1 25 := hf_τ10.2.1 25 (by decide)
            have g26_τ10 : τ10.2.1 26 = τ_0.2.1 26 := hf_τ10.2.1 26 (by decide)
            have g27_τ10 : τ10.2.1 27 = τ_0.2.1 27 := hf_τ10.2.1 27 (by decide)
            have g28_τ10 : τ10.2.1 28 = τ_0.2.1 28 := hf_τ10.2.1 28 (by decide)
            first | (have o6_τ10 := congrArg oc g6_τ10) | skip
            first | (have o7_τ10 := congrArg oc g7_τ10) | skip
            have W0 : τ10.1 0 = σ.1 0 := by first | exact w0_τ10.trans W0 | omega
            have W3 : τ10.1 3 = σ.1 3 := by first | exact w3_τ10.trans W3 | omega
            have W5 : τ10.1 5 = σ.1 5 := by first | exact w5_τ10.trans W5 | omega
            have W6 : τ10.1 6 = σ.1 6 := by first | exact w6_τ10.trans W6 | omega
            have W7 : τ10.1 7 = σ.1 7 := by first | exact w7_τ10.trans W7 | omega
            have W8 : τ10.1 8 = σ.1 8 := by first | exact w8_τ10.trans W8 | omega
            have W22 : τ10.1 22 = σ.1 22 := by first | exact w22_τ10.trans W22 | omega
            have G0 : τ10.2.1 0 = σ.2.1 0 := (g0_τ10).trans G0
            have G6 : τ10.2.1 6 = σ.2.1 6 := (g6_τ10).trans G6
            have G7 : τ10.2.1 7 = σ.2.1 7 := (g7_τ10).trans G7
            have G25 : τ10.2.1 25 = σ.2.1 25 := (g25_τ10).trans G25
            have y0_17_τ10 : τ10.2.1 0 (τ10.1 17) = (τ_0.2.1 0) (τ_0.1 17) := by rw [g0_τ10, w17_τ10]
            have y25_22_τ10 : τ10.2.1 25 (τ10.1 22) = (τ_0.2.1 25) (τ_0.1 22) := by rw [g25_τ10, w22_τ10]
            have y26_22_τ10 : τ10.2.1 26 (τ10.1 22) = (τ_0.2.1 26) (τ_0.1 22) := by rw [g26_τ10, w22_τ10]
            have y28_9_τ10 : τ10.2.1 28 (τ10.1 9) = (τ_0.2.1 28) (τ_0.1 9) := by rw [g28_τ10, w9_τ10]
            have Z4 : τ10.2.1 25 (τ10.1 22) + τ10.2.1 26 (τ10.1 22) = (τ10.1 9) := by rw [show (τ10.2.1 25 (τ10.1 22) + τ10.2.1 26 (τ10.1 22) = (τ10.1 9)) = (τ_0.2.1 25 (τ_0.1 22) + τ_0.2.1 26 (τ_0.1 22) = (τ_0.1 9)) from by rw [w9_τ10, w22_τ10, g25_τ10, g26_τ10]]; exact Z4
            have Y8 : j_eq ((σ.1 9)) (σ.2.1 28) (τ10.2.1 28) := by rw [show (j_eq ((σ.1 9)) (σ.2.1 28) (τ10.2.1 28)) = (j_eq ((σ.1 9)) (σ.2.1 28) (τ_0.2.1 28)) from by rw [g28_τ10]]; exact Y8
            have Y9 : ca (τ10.2.1 28) ((τ10.1 9)) = ca (σ.2.1 28) ((σ.1 9)) := by rw [show (ca (τ10.2.1 28) ((τ10.1 9)) = ca (σ.2.1 28) ((σ.1 9))) = (ca (τ_0.2.1 28) ((τ_0.1 9)) = ca (σ.2.1 28) ((σ.1 9))) from by rw [w9_τ10, g28_τ10]]; exact Y9
            have NSP : n_sp2 (τ10.2.1 25 (τ10.1 22)) (τ10.1 9) (τ10.1 22) (τ10.2.1 27) (τ10.2.1 28) := by rw [show (n_sp2 (τ10.2.1 25 (τ10.1 22)) (τ10.1 9) (τ10.1 22) (τ10.2.1 27) (τ10.2.1 28)) = (n_sp2 (τ_0.2.1 25 (τ_0.1 22)) (τ_0.1 9) (τ_0.1 22) (τ_0.2.1 27) (τ_0.2.1 28)) from by rw [w9_τ10, w22_τ10, g25_τ10, g27_τ10, g28_τ10]]; exact NSP
            have A0 : ∀ j, 0 ≤ τ10.2.1 0 j ∧ τ10.2.1 0 j ≤ 255 := fun j => hT.2 0 j
            have A6 : ∀ j, (-1) ≤ τ10.2.1 6 j ∧ τ10.2.1 6 j ≤ 999 := fun j => hT.2 6 j
            have A7 : ∀ j, (-1) ≤ τ10.2.1 7 j ∧ τ10.2.1 7 j ≤ 1499 := fun j => hT.2 7 j
            have A25 : ∀ j, 0 ≤ τ10.2.1 25 j ∧ τ10.2.1 25 j ≤ 20000 := fun j => hT.2 25 j
            have A26 : ∀ j, 0 ≤ τ10.2.1 26 j ∧ τ10.2.1 26 j ≤ 20000 := fun j => hT.2 26 j
            have A27 : ∀ j, (-300) ≤ τ10.2.1 27 j ∧ τ10.2.1 27 j ≤ 1499 := fun j => hT.2 27 j
            have A28 : ∀ j, 0 ≤ τ10.2.1 28 j ∧ τ10.2.1 28 j ≤ 1 := fun j => hT.2 28 j
            have v0 : 0 ≤ τ10.1 0 ∧ τ10.1 0 ≤ 60000 := hT.1 0
            have v3 : 0 ≤ τ10.1 3 ∧ τ10.1 3 ≤ 1000 := hT.1 3
            have v5 : 0 ≤ τ10.1 5 ∧ τ10.1 5 ≤ 1500 := hT.1 5
            have v6 : 0 ≤ τ10.1 6 ∧ τ10.1 6 ≤ 30000 := hT.1 6
            have v7 : 0 ≤ τ10.1 7 ∧ τ10.1 7 ≤ 90000 := hT.1 7
            have v8 : 0 ≤ τ10.1 8 ∧ τ10.1 8 ≤ 20000 := hT.1 8
            have v9 : 0 ≤ τ10.1 9 ∧ τ10.1 9 ≤ 20000 := hT.1 9
            have v16 : 0 ≤ τ10.1 16 ∧ τ10.1 16 ≤ 60000 := hT.1 16
            have v17 : 0 ≤ τ10.1 17 ∧ τ10.1 17 ≤ 60000 := hT.1 17
            have v18 : 0 ≤ τ10.1 18 ∧ τ10.1 18 ≤ 60000 := hT.1 18
            have v19 : (-1) ≤ τ10.1 19 ∧ τ10.1 19 ≤ 125 := hT.1 19
            have v20 : 0 ≤ τ10.1 20 ∧ τ10.1 20 ≤ 19 := hT.1 20
            have v22 : 0 ≤ τ10.1 22 ∧ τ10.1 22 ≤ 1499 := hT.1 22
            have a0_17 : 0 ≤ τ10.2.1 0 (τ10.1 17) ∧ τ10.2.1 0 (τ10.1 17) ≤ 255 := hT.2 0 _
            have a25_22 : 0 ≤ τ10.2.1 25 (τ10.1 22) ∧ τ10.2.1 25 (τ10.1 22) ≤ 20000 := hT.2 25 _
            have a26_22 : 0 ≤ τ10.2.1 26 (τ10.1 22) ∧ τ10.2.1 26 (τ10.1 22) ≤ 20000 := hT.2 26 _
            have a28_9 : 0 ≤ τ10.2.1 28 (τ10.1 9) ∧ τ10.2.1 28 (τ10.1 9) ≤ 1 := hT.2 28 _
            have av9 : σ.1 9 ≤ τ10.1 9 := ag.1 9 (by decide)
            exact ⟨hT, (show (τ10.1 16) ≤ (τ10.1 0) from by (first | omega | (simp only [st_s] <;> omega) | assumption | omega | fail)), (show (τ10.1 17) + (τ10.1 18) ≤ (τ10.1 0) from by (first | omega | (simp only [st_s] <;> omega) | assumption | omega | fail)), (show ¬ (σ.1 20) = 0 → (τ10.1 20) = (σ.1 20) from by (first | omega | (simp only [st_s] <;> omega) | assumption | omega | fail)), (show τ10.2.1 25 (τ10.1 22) + τ10.2.1 26 (τ10.1 22) = (τ10.1 9) from Z4), (show j_eq ((σ.1 9)) (σ.2.1 28) (τ10.2.1 28) from Y8), (show ca (τ10.2.1 28) ((τ10.1 9)) = ca (σ.2.1 28) ((σ.1 9)) from Y9), (show (σ.1 16) ≤ (τ10.1 16) from by (first | omega | (simp only [st_s] <;> omega) | assumption | omega | fail)), ag, (show n_sp2 (τ10.2.1 25 (τ10.1 22)) (τ10.1 9) (τ10.1 22) (τ10.2.1 27) (τ10.2.1 28) from NSP)⟩
  exact l_0 ((3 * ((σ.1 0) - (σ.1 16)) + z_0 ((σ.1 20)) + 1 - z_0 ((σ.1 19)) : Int).toNat + 1) _ (show (3 * ((σ.1 0) - (σ.1 16)) + z_0 ((σ.1 20)) + 1 - z_0 ((σ.1 19)) : Int) < (((3 * ((σ.1 0) - (σ.1 16)) + z_0 ((σ.1 20)) + 1 - z_0 ((σ.1 19)) : Int).toNat + 1 : Nat) : Int) from by (have zz0 := z_e ((σ.1 20)); have zz1 := z_e ((σ.1 19)); (first | omega | (simp only [st_s] <;> omega) | assumption | omega | fail))) hT ag (show σ.1 0 = σ.1 0 from by first | exact W0 | omega) (show σ.1 3 = σ.1 3 from by first | exact W3 | omega) (show σ.1 5 = σ.1 5 from by first | exact W5 | omega) (show σ.1 6 = σ.1 6 from by first | exact W6 | omega) (show σ.1 7 = σ.1 7 from by first | exact W7 | omega) (show σ.1 8 = σ.1 8 from by first | exact W8 | omega) (show σ.1 22 = σ.1 22 from by first | exact W22 | omega) G0 G6 G7 G25 (show (σ.1 16) ≤ (σ.1 0) from by (first | omega | (simp only [st_s] <;> omega) | assumption | omega | fail)) (show (σ.1 17) + (σ.1 18) ≤ (σ.1 0) from by (first | omega | (simp only [st_s] <;> omega) | assumption | omega | fail)) (show oc (σ.2.1 6) < 4096 from by (first | omega | (simp only [st_s] <;> omega) | assumption | omega | fail)) (show oc (σ.2.1 7) < 4096 from by (first | omega | (simp only [st_s] <;> omega) | assumption | omega | fail)) (show σ.2.1 25 (σ.1 22) + σ.2.1 26 (σ.1 22) = (σ.1 9) from Z4) (show ¬ (σ.1 20) = 0 → (σ.1 20) = (σ.1 20) from by (first | omega | (simp only [st_s] <;> omega) | assumption | omega | fail)) (show j_eq ((σ.1 9)) (σ.2.1 28) (σ.2.1 28) from Y8) (show ca (σ.2.1 28) ((σ.1 9)) = ca (σ.2.1 28) ((σ.1 9)) from Y9) (show (σ.1 16) ≤ (σ.1 16) from by (first | omega | (simp only [st_s] <;> omega) | assumption | omega | fail)) (show n_sp2 (σ.2.1 25 (σ.1 22)) (σ.1 9) (σ.1 22) (σ.2.1 27) (σ.2.1 28) from NSP)
set_option maxHeartbeats 1000000 in
theorem K3_X13_readPackedLabels {σ : S0} (hT : m_T σ) (p1 : (σ.1 16) ≤ (σ.1 0)) (p2 : (σ.1 17) + (σ.1 18) ≤ (σ.1 0)) (p3 : oc (σ.2.1 6) < 4096) (p4 : oc (σ.2.1 7) < 4096) (p5 : σ.2.1 18 (σ.1 22) + σ.2.1 19 (σ.1 22) ≤ 90100) : W_X13_readPackedLabels σ (fun (τ : S0) => (m_T τ) ∧ ((τ.1 16) ≤ (τ.1 0)) ∧ ((τ.1 17) + (τ.1 18) ≤ (τ.1 0)) ∧ (¬ (σ.1 20) = 0 → (τ.1 20) = (σ.1 20)) ∧ (oc (τ.2.1 6) < 4096) ∧ (oc (τ.2.1 7) < 4096) ∧ ((σ.1 16) ≤ (τ.1 16)) ∧ (∀ k : Int, 0 ≤ k → k < (τ.1 25) → τ.2.1 39 k < (τ.1 22))) := by
  have A0 : ∀ j, 0 ≤ σ.2.1 0 j ∧ σ.2.1 0 j ≤ 255 := fun j => hT.2 0 j
  have A6 : ∀ j, (-1) ≤ σ.2.1 6 j ∧ σ.2.1 6 j ≤ 999 := fun j => hT.2 6 j
  have A7 : ∀ j, (-1) ≤ σ.2.1 7 j ∧ σ.2.1 7 j ≤ 1499 := fun j => hT.2 7 j
  have A18 : ∀ j, 0 ≤ σ.2.1 18 j ∧ σ.2.1 18 j ≤ 90000 := fun j => hT.2 18 j
  have A19 : ∀ j, 0 ≤ σ.2.1 19 j ∧ σ.2.1 19 j ≤ 60 := fun j => hT.2 19 j
  have A39 : ∀ j, 0 ≤ σ.2.1 39 j ∧ σ.2.1 39 j ≤ 1499 := fun j => hT.2 39 j
  have v0 : 0 ≤ σ.1 0 ∧ σ.1 0 ≤ 60000 := hT.1 0
  have v16 : 0 ≤ σ.1 16 ∧ σ.1 16 ≤ 60000 := hT.1 16
  have v17 : 0 ≤ σ.1 17 ∧ σ.1 17 ≤ 60000 := hT.1 17
  have v18 : 0 ≤ σ.1 18 ∧ σ.1 18 ≤ 60000 := hT.1 18
  have v19 : (-1) ≤ σ.1 19 ∧ σ.1 19 ≤ 125 := hT.1 19
  have v20 : 0 ≤ σ.1 20 ∧ σ.1 20 ≤ 19 := hT.1 20
  have v22 : 0 ≤ σ.1 22 ∧ σ.1 22 ≤ 1499 := hT.1 22
  have v25 : 0 ≤ σ.1 25 ∧ σ.1 25 ≤ 300 := hT.1 25
  have a0_17 : 0 ≤ σ.2.1 0 (σ.1 17) ∧ σ.2.1 0 (σ.1 17) ≤ 255 := hT.2 0 _
  have a18_22 : 0 ≤ σ.2.1 18 (σ.1 22) ∧ σ.2.1 18 (σ.1 22) ≤ 90000 := hT.2 18 _
  have a19_22 : 0 ≤ σ.2.1 19 (σ.1 22) ∧ σ.2.1 19 (σ.1 22) ≤ 60 := hT.2 19 _
  have W0 : σ.1 0 = σ.1 0 := rfl
  have W22 : σ.1 22 = σ.1 22 := rfl
  have G0 : σ.2.1 0 = σ.2.1 0 := rfl
  have G6 : σ.2.1 6 = σ.2.1 6 := rfl
  have G7 : σ.2.1 7 = σ.2.1 7 := rfl
  have G18 : σ.2.1 18 = σ.2.1 18 := rfl
  have G19 : σ.2.1 19 = σ.2.1 19 := rfl
  intro P9 P46 P90 h9 h46 h90
  have l_9 : ∀ (m_9 : Nat) (τ_9 : S0), 3 * ((τ_9.1 0) - (τ_9.1 16)) + z_0 ((τ_9.1 20)) + 1 - z_0 ((τ_9.1 19)) < (m_9 : Int) → (m_T τ_9) → (τ_9.1 0 = σ.1 0) → (τ_9.1 22 = σ.1 22) → (τ_9.2.1 0 = σ.2.1 0) → (τ_9.2.1 6 = σ.2.1 6) → (τ_9.2.1 7 = σ.2.1 7) → (τ_9.2.1 18 = σ.2.1 18) → (τ_9.2.1 19 = σ.2.1 19) → ((τ_9.1 16) ≤ (τ_9.1 0)) → ((τ_9.1 17) + (τ_9.1 18) ≤ (τ_9.1 0)) → (oc (τ_9.2.1 6) < 4096) → (oc (τ_9.2.1 7) < 4096) → (¬ (σ.1 20) = 0 → (τ_9.1 20) = (σ.1 20)) → ((σ.1 16) ≤ (τ_9.1 16)) → (∀ k : Int, 0 ≤ k → k < (τ_9.1 25) → τ_9.2.1 39 k < (τ_9.1 22)) → P9 τ_9 := by
    intro m_9
    induction m_9 with
    | zero =>
      intro τ_9 hm hT W0 W22 G0 G6 G7 G18 G19 i9_1 i9_2 i9_3 i9_4 i9_5 i9_6 i9_7
      have A0 : ∀ j, 0 ≤ τ_9.2.1 0 j ∧ τ_9.2.1 0 j ≤ 255 := fun j => hT.2 0 j
      have A6 : ∀ j, (-1) ≤ τ_9.2.1 6 j ∧ τ_9.2.1 6 j ≤ 999 := fun j => hT.2 6 j
      have A7 : ∀ j, (-1) ≤ τ_9.2.1 7 j ∧ τ_9.2.1 7 j ≤ 1499 := fun j => hT.2 7 j
      have A18 : ∀ j, 0 ≤ τ_9.2.1 18 j ∧ τ_9.2.1 18 j ≤ 90000 := fun j => hT.2 18 j
      have A19 : ∀ j, 0 ≤ τ_9.2.1 19 j ∧ τ_9.2.1 19 j ≤ 60 := fun j => hT.2 19 j
      have A39 : ∀ j, 0 ≤ τ_9.2.1 39 j ∧ τ_9.2.1 39 j ≤ 1499 := fun j => hT.2 39 j
      have v0 : 0 ≤ τ_9.1 0 ∧ τ_9.1 0 ≤ 60000 := hT.1 0
      have v16 : 0 ≤ τ_9.1 16 ∧ τ_9.1 16 ≤ 60000 := hT.1 16
      have v17 : 0 ≤ τ_9.1 17 ∧ τ_9.1 17 ≤ 60000 := hT.1 17
      have v18 : 0 ≤ τ_9.1 18 ∧ τ_9.1 18 ≤ 60000 := hT.1 18
      have v19 : (-1) ≤ τ_9.1 19 ∧ τ_9.1 19 ≤ 125 := hT.1 19
      have v20 : 0 ≤ τ_9.1 20 ∧ τ_9.1 20 ≤ 19 := hT.1 20
      have v22 : 0 ≤ τ_9.1 22 ∧ τ_9.1 22 ≤ 1499 := hT.1 22
      have v25 : 0 ≤ τ_9.1 25 ∧ τ_9.1 25 ≤ 300 := hT.1 25
      have a0_17 : 0 ≤ τ_9.2.1 0 (τ_9.1 17) ∧ τ_9.2.1 0 (τ_9.1 17) ≤ 255 := hT.2 0 _
      have a18_22 : 0 ≤ τ_9.2.1 18 (τ_9.1 22) ∧ τ_9.2.1 18 (τ_9.1 22) ≤ 90000 := hT.2 18 _
      have a19_22 : 0 ≤ τ_9.2.1 19 (τ_9.1 22) ∧ τ_9.2.1 19 (τ_9.1 22) ≤ 60 := hT.2 19 _
      have zz0 := z_e ((τ_9.1 20))
      have zz1 := z_e ((τ_9.1 19))
      exfalso; (first | omega | (simp only [st_s] <;> omega) | assumption | omega | fail)
    | succ m_9 ih_9 =>
      intro τ_9 hm_9 hT W0 W22 G0 G6 G7 G18 G19 i9_1 i9_2 i9_3 i9_4 i9_5 i9_6 i9_7
      have A0 : ∀ j, 0 ≤ τ_9.2.1 0 j ∧ τ_9.2.1 0 j ≤ 255 := fun j => hT.2 0 j
      have A6 : ∀ j, (-1) ≤ τ_9.2.1 6 j ∧ τ_9.2.1 6 j ≤ 999 := fun j => hT.2 6 j
      have A7 : ∀ j, (-1) ≤ τ_9.2.1 7 j ∧ τ_9.2.1 7 j ≤ 1499 := fun j => hT.2 7 j
      have A18 : ∀ j, 0 ≤ τ_9.2.1 18 j ∧ τ_9.2.1 18 j ≤ 90000 := fun j => hT.2 18 j
      have A19 : ∀ j, 0 ≤ τ_9.2.1 19 j ∧ τ_9.2.1 19 j ≤ 60 := fun j => hT.2 19 j
      have A39 : ∀ j, 0 ≤ τ_9.2.1 39 j ∧ τ_9.2.1 39 j ≤ 1499 := fun j => hT.2 39 j
      have v0 : 0 ≤ τ_9.1 0 ∧ τ_9.1 0 ≤ 60000 := hT.1 0
      have v16 : 0 ≤ τ_9.1 16 ∧ τ_9.1 16 ≤ 60000 := hT.1 16
      have v17 : 0 ≤ τ_9.1 17 ∧ τ_9.1 17 ≤ 60000 := hT.1 17
      have v18 : 0 ≤ τ_9.1 18 ∧ τ_9.1 18 ≤ 60000 := hT.1 18
      have v19 : (-1) ≤ τ_9.1 19 ∧ τ_9.1 19 ≤ 125 := hT.1 19
      have v20 : 0 ≤ τ_9.1 20 ∧ τ_9.1 20 ≤ 19 := hT.1 20
      have v22 : 0 ≤ τ_9.1 22 ∧ τ_9.1 22 ≤ 1499 := hT.1 22
      have v25 : 0 ≤ τ_9.1 25 ∧ τ_9.1 25 ≤ 300 := hT.1 25
      have a0_17 : 0 ≤ τ_9.2.1 0 (τ_9.1 17) ∧ τ_9.2.1 0 (τ_9.1 17) ≤ 255 := hT.2 0 _
      have a18_22 : 0 ≤ τ_9.2.1 18 (τ_9.1 22) ∧ τ_9.2.1 18 (τ_9.1 22) ≤ 90000 := hT.2 18 _
      have a19_22 : 0 ≤ τ_9.2.1 19 (τ_9.1 22) ∧ τ_9.2.1 19 (τ_9.1 22) ≤ 60 := hT.2 19 _
      have zy9_0 := z_e ((τ_9.1 20))
      have zy9_1 := z_e ((τ_9.1 19))
      have y18_22_τ_9 : τ_9.2.1 18 (τ_9.1 22) = σ.2.1 18 (σ.1 22) := by rw [G18, W22]
      have y19_22_τ_9 : τ_9.2.1 19 (τ_9.1 22) = σ.2.1 19 (σ.1 22) := by rw [G19, W22]
      have o6_τ_9 := congrArg oc G6
      have o7_τ_9 := congrArg oc G7
      have PK : ∀ k : Int, 0 ≤ k → k < (τ_9.1 25) → τ_9.2.1 39 k < (τ_9.1 22) := i9_7
      have l_90 : ∀ (m_90 : Nat) (u1_90 : Int) (u2_90 : Int) (u3_90 : Int) (τ_90 : S0), 301 - u3_90 < (m_90 : Int) → (m_T τ_90) → (τ_90.1 0 = σ.1 0) → (τ_90.1 22 = σ.1 22) → (τ_90.2.1 0 = σ.2.1 0) → (τ_90.2.1 6 = σ.2.1 6) → (τ_90.2.1 7 = σ.2.1 7) → (τ_90.2.1 18 = σ.2.1 18) → (τ_90.2.1 19 = σ.2.1 19) → ((τ_90.1 16) ≤ (τ_90.1 0)) → ((τ_90.1 17) + (τ_90.1 18) ≤ (τ_90.1 0)) → (oc (τ_90.2.1 6) < 4096) → (oc (τ_90.2.1 7) < 4096) → (¬ (σ.1 20) = 0 → (τ_90.1 20) = (σ.1 20)) → (-1 ≤ u1_90 ∧ u1_90 ≤ 1499) → (0 ≤ u2_90 ∧ u2_90 ≤ 1) → (0 ≤ u3_90) → (u3_90 ≤ 300) → ((τ_90.1 20) = 0) → ((τ_90.1 19) = 1) → (3 * ((τ_90.1 0) - (τ_90.1 16)) + z_0 ((τ_90.1 20)) + 1 - z_0 ((τ_90.1 19)) ≤ (m_9 : Int)) → ((σ.1 16) ≤ (τ_90.1 16)) → (∀ k : Int, 0 ≤ k → k < (τ_90.1 25) → τ_90.2.1 39 k < (τ_90.1 22)) → (u1_90 = -1 ∨ u1_90 < (σ.1 22)) → P90 u1_90 u2_90 u3_90 τ_90 := by
        intro m_90
        induction m_90 with
        | zero =>
          intro u1_90 u2_90 u3_90 τ_90 hm hT W0 W22 G0 G6 G7 G18 G19 i90_1 i90_2 i90_3 i90_4 i90_5 i90_6 i90_7 i90_8 i90_9 i90_10 i90_11 i90_12 i90_13 i90_14 i90_15
          have A0 : ∀ j, 0 ≤ τ_90.2.1 0 j ∧ τ_90.2.1 0 j ≤ 255 := fun j => hT.2 0 j
          have A6 : ∀ j, (-1) ≤ τ_90.2.1 6 j ∧ τ_90.2.1 6 j ≤ 999 := fun j => hT.2 6 j
          have A7 : ∀ j, (-1) ≤ τ_90.2.1 7 j ∧ τ_90.2.1 7 j ≤ 1499 := fun j => hT.2 7 j
          have A18 : ∀ j, 0 ≤ τ_90.2.1 18 j ∧ τ_90.2.1 18 j ≤ 90000 := fun j => hT.2 18 j
          have A19 : ∀ j, 0 ≤ τ_90.2.1 19 j ∧ τ_90.2.1 19 j ≤ 60 := fun j => hT.2 19 j
          have A39 : ∀ j, 0 ≤ τ_90.2.1 39 j ∧ τ_90.2.1 39 j ≤ 1499 := fun j => hT.2 39 j
          have v0 : 0 ≤ τ_90.1 0 ∧ τ_90.1 0 ≤ 60000 := hT.1 0
          have v16 : 0 ≤ τ_90.1 16 ∧ τ_90.1 16 ≤ 60000 := hT.1 16
          have v17 : 0 ≤ τ_90.1 17 ∧ τ_90.1 17 ≤ 60000 := hT.1 17
          have v18 : 0 ≤ τ_90.1 18 ∧ τ_90.1 18 ≤ 60000 := hT.1 18
          have v19 : (-1) ≤ τ_90.1 19 ∧ τ_90.1 19 ≤ 125 := hT.1 19
          have v20 : 0 ≤ τ_90.1 20 ∧ τ_90.1 20 ≤ 19 := hT.1 20
          have v22 : 0 ≤ τ_90.1 22 ∧ τ_90.1 22 ≤ 1499 := hT.1 22
          have v25 : 0 ≤ τ_90.1 25 ∧ τ_90.1 25 ≤ 300 := hT.1 25
          have a0_17 : 0 ≤ τ_90.2.1 0 (τ_90.1 17) ∧ τ_90.2.1 0 (τ_90.1 17) ≤ 255 := hT.2 0 _
          have a18_22 : 0 ≤ τ_90.2.1 18 (τ_90.1 22) ∧ τ_90.2.1 18 (τ_90.1 22) ≤ 90000 := hT.2 18 _
          have a19_22 : 0 ≤ τ_90.2.1 19 (τ_90.1 22) ∧ τ_90.2.1 19 (τ_90.1 22) ≤ 60 := hT.2 19 _
          exfalso; (first | omega | (simp only [st_s] <;> omega) | assumption | omega | fail)
        | succ m_90 ih_90 =>
          intro u1_90 u2_90 u3_90 τ_90 hm_90 hT W0 W22 G0 G6 G7 G18 G19 i90_1 i90_2 i90_3 i90_4 i90_5 i90_6 i90_7 i90_8 i90_9 i90_10 i90_11 i90_12 i90_13 i90_14 i90_15
          have A0 : ∀ j, 0 ≤ τ_90.2.1 0 j ∧ τ_90.2.1 0 j ≤ 255 := fun j => hT.2 0 j
          have A6 : ∀ j, (-1) ≤ τ_90.2.1 6 j ∧ τ_90.2.1 6 j ≤ 999 := fun j => hT.2 6 j
          have A7 : ∀ j, (-1) ≤ τ_90.2.1 7 j ∧ τ_90.2.1 7 j ≤ 1499 := fun j => hT.2 7 j
          have A18 : ∀ j, 0 ≤ τ_90.2.1 18 j ∧ τ_90.2.1 18 j ≤ 90000 := fun j => hT.2 18 j
          have A19 : ∀ j, 0 ≤ τ_90.2.1 19 j ∧ τ_90.2.1 19 j ≤ 60 := fun j => hT.2 19 j
          have A39 : ∀ j, 0 ≤ τ_90.2.1 39 j ∧ τ_90.2.1 39 j ≤ 1499 := fun j => hT.2 39 j
          have v0 : 0 ≤ τ_90.1 0 ∧ τ_90.1 0 ≤ 60000 := hT.1 0
          have v16 : 0 ≤ τ_90.1 16 ∧ τ_90.1 16 ≤ 60000 := hT.1 16
          have v17 : 0 ≤ τ_90.1 17 ∧ τ_90.1 17 ≤ 60000 := hT.1 17
          have v18 : 0 ≤ τ_90.1 18 ∧ τ_90.1 18 ≤ 60000 := hT.1 18
          have v19 : (-1) ≤ τ_90.1 19 ∧ τ_90.1 19 ≤ 125 := hT.1 19
          have v20 : 0 ≤ τ_90.1 20 ∧ τ_90.1 20 ≤ 19 := hT.1 20
          have v22 : 0 ≤ τ_90.1 22 ∧ τ_90.1 22 ≤ 1499 := hT.1 22
          have v25 : 0 ≤ τ_90.1 25 ∧ τ_90.1 25 ≤ 300 := hT.1 25
          have a0_17 : 0 ≤ τ_90.2.1 0 (τ_90.1 17) ∧ τ_90.2.1 0 (τ_90.1 17) ≤ 255 := hT.2 0 _
          have a18_22 : 0 ≤ τ_90.2.1 18 (τ_90.1 22) ∧ τ_90.2.1 18 (τ_90.1 22) ≤ 90000 := hT.2 18 _
          have a19_22 : 0 ≤ τ_90.2.1 19 (τ_90.1 22) ∧ τ_90.2.1 19 (τ_90.1 22) ≤ 60 := hT.2 19 _
          have y18_22_τ_90 : τ_90.2.1 18 (τ_90.1 22) = σ.2.1 18 (σ.1 22) := by rw [G18, W22]
          have y19_22_τ_90 : τ_90.2.1 19 (τ_90.1 22) = σ.2.1 19 (σ.1 22) := by rw [G19, W22]
          have o6_τ_90 := congrArg oc G6
          have o7_τ_90 := congrArg oc G7
          have PK : ∀ k : Int, 0 ≤ k → k < (τ_90.1 25) → τ_90.2.1 39 k < (τ_90.1 22) := i90_14
          have zq1 := z_e (τ_90.1 20)
          have zq2 := z_e (τ_90.1 19)
          refine h90 u1_90 u2_90 u3_90 τ_90 ?_
          refine ⟨fun c22 => ?_, fun c22 => ?_⟩
          ·
            refine ⟨fun c23 => ?_, fun c23 => ?_⟩
            ·
              refine ⟨fun c24 => ?_, fun c24 => ?_⟩
              ·
                refine ⟨fun c25 => ?_, fun c25 => ?_⟩
                ·
                  refine ⟨(show 0 ≤ τ_90.1 25 ∧ τ_90.1 25 < 300 from by (first | omega | (simp only [st_s] <;> omega) | assumption | omega | fail)), ?_⟩
                  replace hT := mT_a (k := 39) (j := (τ_90.1 25)) hT (show (0 : Int) ≤ u1_90 ∧ u1_90 ≤ 1499 from by (first | omega | (simp only [st_s] <;> omega) | assumption | omega | fail))
                  refine ⟨(⟨by (first | omega | (simp only [st_s] <;> omega) | assumption | omega | fail), by (first | omega | (simp only [st_s] <;> omega) | assumption | omega | fail)⟩ : rg (τ_90.1 25 + 1)), ?_⟩
                  replace hT := mT_v (i := 25) hT (show 0 ≤ (τ_90.1 25 + 1) ∧ (τ_90.1 25 + 1) ≤ 300 from by (first | omega | (simp only [st_s] <;> omega) | assumption | omega | fail))
                  refine ⟨_, K_X13_next hT (show (τ_90.1 16) ≤ (τ_90.1 0) from by (first | omega | (simp only [st_s] <;> omega) | assumption | omega | fail)), ?_⟩
                  intro τ30 hn_τ30 hf_τ30 hq
                  obtain ⟨hT, q28_1, q28_2, q28_3, q28_4, q28_5⟩ := hq
                  replace q28_1 : (τ30.1 16) ≤ (τ30.1 0) := q28_1
                  replace q28_2 : (τ30.1 17) + (τ30.1 18) ≤ (τ30.1 0) := q28_2
                  replace q28_3 : (τ_90.1 16) ≤ (τ30.1 16) := q28_3
                  replace q28_4 : ¬ (τ_90.1 20) = 0 → (τ30.1 20) = (τ_90.1 20) := q28_4
                  replace q28_5 : (τ30.1 20) = 0 → ¬ (τ30.1 19) = 0 → (τ_90.1 16) < (τ30.1 16) ∧ 0 < (τ30.1 18) := q28_5
                  have w0_τ30 : τ30.1 0 = τ_90.1 0 := hf_τ30.1 0 (by decide)
                  have w22_τ30 : τ30.1 22 = τ_90.1 22 := hf_τ30.1 22 (by decide)
                  have w25_τ30 : τ30.1 25 = (τ_90.1 25 + 1) := hf_τ30.1 25 (by decide)
                  have g0_τ30 : τ30.2.1 0 = τ_90.2.1 0 := hf_τ30.2.1 0 (by decide)
                  have g6_τ30 : τ30.2.1 6 = τ_90.2.1 6 := hf_τ30.2.1 6 (by decide)
                  have g7_τ30 : τ30.2.1 7 = τ_90.2.1 7 := hf_τ30.2.1 7 (by decide)
                  have g18_τ30 : τ30.2.1 18 = τ_90.2.1 18 := hf_τ30.2.1 18 (by decide)
                  have g19_τ30 : τ30.2.1 19 = τ_90.2.1 19 := hf_τ30.2.1 19 (by decide)
                  have g39_τ30 : τ30.2.1 39 = (st (τ_90.2.1 39) (τ_90.1 25) u1_90) := hf_τ30.2.1 39 (by decide)
                  first | (have o6_τ30 := congrArg oc g6_τ30) | skip
                  first | (have o7_τ30 := congrArg oc g7_τ30) | skip
                  have W0 : τ30.1 0 = σ.1 0 := by first | exact w0_τ30.trans W0 | omega
                  have W22 : τ30.1 22 = σ.1 22 := by first | exact w22_τ30.trans W22 | omega
                  have G0 : τ30.2.1 0 = σ.2.1 0 := (g0_τ30).trans G0
                  have G6 : τ30.2.1 6 = σ.2.1 6 := (g6_τ30).trans G6
                  have G7 : τ30.2.1 7 = σ.2.1 7 := (g7_τ30).trans G7
                  have G18 : τ30.2.1 18 = σ.2.1 18 := (g18_τ30).trans G18
                  have G19 : τ30.2.1 19 = σ.2.1 19 := (g19_τ30).trans G19
                  have y18_22_τ30 : τ30.2.1 18 (τ30.1 22) = (τ_90.2.1 18) (τ_90.1 22) := by rw [g18_τ30, w22_τ30]
                  have y19_22_τ30 : τ30.2.1 19 (τ30.1 22) = (τ_90.2.1 19) (τ_90.1 22) := by rw [g19_τ30, w22_τ30]
                  have A0 : ∀ j, 0 ≤ τ30.2.1 0 j ∧ τ30.2.1 0 j ≤ 255 := fun j => hT.2 0 j
                  have A6 : ∀ j, (-1) ≤ τ30.2.1 6 j ∧ τ30.2.1 6 j ≤ 999 := fun j => hT.2 6 j
                  have A7 : ∀ j, (-1) ≤ τ30.2.1 7 j ∧ τ30.2.1 7 j ≤ 1499 := fun j => hT.2 7 j
                  have A18 : ∀ j, 0 ≤ τ30.2.1 18 j ∧ τ30.2.1 18 j ≤ 90000 := fun j => hT.2 18 j
                  have A19 : ∀ j, 0 ≤ τ30.2.1 19 j ∧ τ30.2.1 19 j ≤ 60 := fun j => hT.2 19 j
                  have A39 : ∀ j, 0 ≤ τ30.2.1 39 j ∧ τ30.2.1 39 j ≤ 1499 := fun j => hT.2 39 j
                  have v0 : 0 ≤ τ30.1 0 ∧ τ30.1 0 ≤ 60000 := hT.1 0
                  have v16 : 0 ≤ τ30.1 16 ∧ τ30.1 16 ≤ 60000 := hT.1 16
                  have v17 : 0 ≤ τ30.1 17 ∧ τ30.1 17 ≤ 60000 := hT.1 17
                  have v18 : 0 ≤ τ30.1 18 ∧ τ30.1 18 ≤ 60000 := hT.1 18
                  have v19 : (-1) ≤ τ30.1 19 ∧ τ30.1 19 ≤ 125 := hT.1 19
                  have v20 : 0 ≤ τ30.1 20 ∧ τ30.1 20 ≤ 19 := hT.1 20
                  have v22 : 0 ≤ τ30.1 22 ∧ τ30.1 22 ≤ 1499 := hT.1 22
                  have v25 : 0 ≤ τ30.1 25 ∧ τ30.1 25 ≤ 300 := hT.1 25
                  have a0_17 : 0 ≤ τ30.2.1 0 (τ30.1 17) ∧ τ30.2.1 0 (τ30.1 17) ≤ 255 := hT.2 0 _
                  have a18_22 : 0 ≤ τ30.2.1 18 (τ30.1 22) ∧ τ30.2.1 18 (τ30.1 22) ≤ 90000 := hT.2 18 _
                  have a19_22 : 0 ≤ τ30.2.1 19 (τ30.1 22) ∧ τ30.2.1 19 (τ30.1 22) ≤ 60 := hT.2 19 _
                  exact ih_9 _ (show (3 * ((τ30.1 0) - (τ30.1 16)) + z_0 ((τ30.1 20)) + 1 - z_0 ((τ30.1 19)) : Int) < ((m_9 : Nat) : Int) from by (have zz0 := z_e ((τ30.1 20)); have zz1 := z_e ((τ30.1 19)); (first | omega | (simp only [st_s] <;> omega) | assumption | omega | fail))) hT (show τ30.1 0 = σ.1 0 from by first | exact W0 | omega) (show τ30.1 22 = σ.1 22 from by first | exact W22 | omega) G0 G6 G7 G18 G19 (show (τ30.1 16) ≤ (τ30.1 0) from by (first | omega | (simp only [st_s] <;> omega) | assumption | omega | fail)) (show (τ30.1 17) + (τ30.1 18) ≤ (τ30.1 0) from by (first | omega | (simp only [st_s] <;> omega) | assumption | omega | fail)) (show oc (τ30.2.1 6) < 4096 from by (first | omega | (simp only [st_s] <;> omega) | assumption | omega | fail)) (show oc (τ30.2.1 7) < 4096 from by (first | omega | (simp only [st_s] <;> omega) | assumption | omega | fail)) (show ¬ (σ.1 20) = 0 → (τ30.1 20) = (σ.1 20) from by (first | omega | (simp only [st_s] <;> omega) | assumption | omega | fail)) (show (σ.1 16) ≤ (τ30.1 16) from by (first | omega | (simp only [st_s] <;> omega) | assumption | omega | fail)) (show ∀ k : Int, 0 ≤ k → k < (τ30.1 25) → τ30.2.1 39 k < (τ30.1 22) from by (first | assumption | (rw [w25_τ3, w22_τ3, g39_τ3]; intro k a b; exfalso; (have b2 : k < 0 := b); omega) | (rw [w25_τ30, w22_τ30, g39_τ30]; intro k a b; by_cases z : k = τ_90.1 25; (rw [z, st_s]; have := i90_15; omega); (rw [st_n _ _ z]; have b2 : k < τ_90.1 25 + 1 := b; exact i90_14 k a (by omega))) | (rw [w25_τ33, w22_τ33, g39_τ33]; exact i90_14) | (rw [w25_τ36, w22_τ36, g39_τ36]; exact i90_14) | (rw [w25_τ39, w22_τ39, g39_τ39]; exact i90_14) | fail))
                ·
                  refine ⟨_, K_X13_failHere hT (show 0 ≤ (14 : Int) from by (first | omega | (simp only [st_s] <;> omega) | assumption | omega | fail)) (show (14 : Int) ≤ 19 from by (first | omega | (simp only [st_s] <;> omega) | assumption | omega | fail)), ?_⟩
                  intro τ33 hn_τ33 hf_τ33 hq
                  obtain ⟨hT, q31_1, q31_2⟩ := hq
                  replace q31_1 : ¬ (τ_90.1 20) = 0 → (τ33.1 20) = (τ_90.1 20) := q31_1
                  replace q31_2 : (τ_90.1 20) = 0 → (τ33.1 20) = (14 : Int) := q31_2
                  have w0_τ33 : τ33.1 0 = τ_90.1 0 := hf_τ33.1 0 (by decide)
                  have w16_τ33 : τ33.1 16 = τ_90.1 16 := hf_τ33.1 16 (by decide)
                  have w17_τ33 : τ33.1 17 = τ_90.1 17 := hf_τ33.1 17 (by decide)
                  have w18_τ33 : τ33.1 18 = τ_90.1 18 := hf_τ33.1 18 (by decide)
                  have w19_τ33 : τ33.1 19 = τ_90.1 19 := hf_τ33.1 19 (by decide)
                  have w22_τ33 : τ33.1 22 = τ_90.1 22 := hf_τ33.1 22 (by decide)
                  have w25_τ33 : τ33.1 25 = τ_90.1 25 := hf_τ33.1 25 (by decide)
                  have g0_τ33 : τ33.2.1 0 = τ_90.2.1 0 := hf_τ33.2.1 0 (by decide)
                  have g6_τ33 : τ33.2.1 6 = τ_90.2.1 6 := hf_τ33.2.1 6 (by decide)
                  have g7_τ33 : τ33.2.1 7 = τ_90.2.1 7 := hf_τ33.2.1 7 (by decide)
                  have g18_τ33 : τ33.2.1 18 = τ_90.2.1 18 := hf_τ33.2.1 18 (by decide)
                  have g19_τ33 : τ33.2.1 19 = τ_90.2.1 19 := hf_τ33.2.1 19 (by decide)
                  have g39_τ33 : τ33.2.1 39 = τ_90.2.1 39 := hf_τ33.2.1 39 (by decide)
                  first | (have o6_τ33 := congrArg oc g6_τ33) | skip
                  first | (have o7_τ33 := congrArg oc g7_τ33) | skip
                  have W0 : τ33.1 0 = σ.1 0 := by first | exact w0_τ33.trans W0 | omega
                  have W22 : τ33.1 22 = σ.1 22 := by first | exact w22_τ33.trans W22 | omega
                  have G0 : τ33.2.1 0 = σ.2.1 0 := (g0_τ33).trans G0
                  have G6 : τ33.2.1 6 = σ.2.1 6 := (g6_τ33).trans G6
                  have G7 : τ33.2.1 7 = σ.2.1 7 := (g7_τ33).trans G7
                  have G18 : τ33.2.1 18 = σ.2.1 18 := (g18_τ33).trans G18
                  have G19 : τ33.2.1 19 = σ.2.1 19 := (g19_τ33).trans G19
                  have y0_17_τ33 : τ33.2.1 0 (τ33.1 17) = (τ_90.2.1 0) (τ_90.1 17) := by rw [g0_τ33, w17_τ33]
                  have y18_22_τ33 : τ33.2.1 18 (τ33.1 22) = (τ_90.2.1 18) (τ_90.1 22) := by rw [g18_τ33, w22_τ33]
                  have y19_22_τ33 : τ33.2.1 19 (τ33.1 22) = (τ_90.2.1 19) (τ_90.1 22) := by rw [g19_τ33, w22_τ33]
                  have PK : ∀ k : Int, 0 ≤ k → k < (τ33.1 25) → τ33.2.1 39 k < (τ33.1 22) := by rw [show (∀ k : Int, 0 ≤ k → k < (τ33.1 25) → τ33.2.1 39 k < (τ33.1 22)) = (∀ k : Int, 0 ≤ k → k < (τ_90.1 25) → τ_90.2.1 39 k < (τ_90.1 22)) from by rw [w22_τ33, w25_τ33, g39_τ33]]; exact PK
                  have A0 : ∀ j, 0 ≤ τ33.2.1 0 j ∧ τ33.2.1 0 j ≤ 255 := fun j => hT.2 0 j
                  have A6 : ∀ j, (-1) ≤ τ33.2.1 6 j ∧ τ33.2.1 6 j ≤ 999 := fun j => hT.2 6 j
                  have A7 : ∀ j, (-1) ≤ τ33.2.1 7 j ∧ τ33.2.1 7 j ≤ 1499 := fun j => hT.2 7 j
                  have A18 : ∀ j, 0 ≤ τ33.2.1 18 j ∧ τ33.2.1 18 j ≤ 90000 := fun j => hT.2 18 j
                  have A19 : ∀ j, 0 ≤ τ33.2.1 19 j ∧ τ33.2.1 19 j ≤ 60 := fun j => hT.2 19 j
                  have A39 : ∀ j, 0 ≤ τ33.2.1 39 j ∧ τ33.2.1 39 j ≤ 1499 := fun j => hT.2 39 j
                  have v0 : 0 ≤ τ33.1 0 ∧ τ33.1 0 ≤ 60000 := hT.1 0
                  have v16 : 0 ≤ τ33.1 16 ∧ τ33.1 16 ≤ 60000 := hT.1 16
                  have v17 : 0 ≤ τ33.1 17 ∧ τ33.1 17 ≤ 60000 := hT.1 17
                  have v18 : 0 ≤ τ33.1 18 ∧ τ33.1 18 ≤ 60000 := hT.1 18
                  have v19 : (-1) ≤ τ33.1 19 ∧ τ33.1 19 ≤ 125 := hT.1 19
                  have v20 : 0 ≤ τ33.1 20 ∧ τ33.1 20 ≤ 19 := hT.1 20
                  have v22 : 0 ≤ τ33.1 22 ∧ τ33.1 22 ≤ 1499 := hT.1 22
                  have v25 : 0 ≤ τ33.1 25 ∧ τ33.1 25 ≤ 300 := hT.1 25
                  have a0_17 : 0 ≤ τ33.2.1 0 (τ33.1 17) ∧ τ33.2.1 0 (τ33.1 17) ≤ 255 := hT.2 0 _
                  have a18_22 : 0 ≤ τ33.2.1 18 (τ33.1 22) ∧ τ33.2.1 18 (τ33.1 22) ≤ 90000 := hT.2 18 _
                  have a19_22 : 0 ≤ τ33.2.1 19 (τ33.1 22) ∧ τ33.2.1 19 (τ33.1 22) ≤ 60 := hT.2 19 _
                  exact ih_9 _ (show (3 * ((τ33.1 0) - (τ33.1 16)) + z_0 ((τ33.1 20)) + 1 - z_0 ((τ33.1 19)) : Int) < ((m_9 : Nat) : Int) from by (have zz0 := z_e ((τ33.1 20)); have zz1 := z_e ((τ33.1 19)); (first | omega | (simp only [st_s] <;> omega) | assumption | omega | fail))) hT (show τ33.1 0 = σ.1 0 from by first | exact W0 | omega) (show τ33.1 22 = σ.1 22 from by first | exact W22 | omega) G0 G6 G7 G18 G19 (show (τ33.1 16) ≤ (τ33.1 0) from by (first | omega | (simp only [st_s] <;> omega) | assumption | omega | fail)) (show (τ33.1 17) + (τ33.1 18) ≤ (τ33.1 0) from by (first | omega | (simp only [st_s] <;> omega) | assumption | omega | fail)) (show oc (τ33.2.1 6) < 4096 from by (first | omega | (simp only [st_s] <;> omega) | assumption | omega | fail)) (show oc (τ33.2.1 7) < 4096 from by (first | omega | (simp only [st_s] <;> omega) | assumption | omega | fail)) (show ¬ (σ.1 20) = 0 → (τ33.1 20) = (σ.1 20) from by (first | omega | (simp only [st_s] <;> omega) | assumption | omega | fail)) (show (σ.1 16) ≤ (τ33.1 16) from by (first | omega | (simp only [st_s] <;> omega) | assumption | omega | fail)) (show ∀ k : Int, 0 ≤ k → k < (τ33.1 25) → τ33.2.1 39 k < (τ33.1 22) from PK)
              ·
                refine ⟨_, K_X13_failHere hT (show 0 ≤ (13 : Int) from by (first | omega | (simp only [st_s] <;> omega) | assumption | omega | fail)) (show (13 : Int) ≤ 19 from by (first | omega | (simp only [st_s] <;> omega) | assumption | omega | fail)), ?_⟩
                intro τ36 hn_τ36 hf_τ36 hq
                obtain ⟨hT, q34_1, q34_2⟩ := hq
                replace q34_1 : ¬ (τ_90.1 20) = 0 → (τ36.1 20) = (τ_90.1 20) := q34_1
                replace q34_2 : (τ_90.1 20) = 0 → (τ36.1 20) = (13 : Int) := q34_2
                have w0_τ36 : τ36.1 0 = τ_90.1 0 := hf_τ36.1 0 (by decide)
                have w16_τ36 : τ36.1 16 = τ_90.1 16 := hf_τ36.1 16 (by decide)
                have w17_τ36 : τ36.1 17 = τ_90.1 17 := hf_τ36.1 17 (by decide)
                have w18_τ36 : τ36.1 18 = τ_90.1 18 := hf_τ36.1 18 (by decide)
                have w19_τ36 : τ36.1 19 = τ_90.1 19 := hf_τ36.1 19 (by decide)
                have w22_τ36 : τ36.1 22 = τ_90.1 22 := hf_τ36.1 22 (by decide)
                have w25_τ36 : τ36.1 25 = τ_90.1 25 := hf_τ36.1 25 (by decide)
                have g0_τ36 : τ36.2.1 0 = τ_90.2.1 0 := hf_τ36.2.1 0 (by decide)
                have g6_τ36 : τ36.2.1 6 = τ_90.2.1 6 := hf_τ36.2.1 6 (by decide)
                have g7_τ36 : τ36.2.1 7 = τ_90.2.1 7 := hf_τ36.2.1 7 (by decide)
                have g18_τ36 : τ36.2.1 18 = τ_90.2.1 18 := hf_τ36.2.1 18 (by decide)
                have g19_τ36 : τ36.2.1 19 = τ_90.2.1 19 := hf_τ36.2.1 19 (by decide)
                have g39_τ36 : τ36.2.1 39 = τ_90.2.1 39 := hf_τ36.2.1 39 (by decide)
                first | (have o6_τ36 := congrArg oc g6_τ36) | skip
                first | (have o7_τ36 := congrArg oc g7_τ36) | skip
                have W0 : τ36.1 0 = σ.1 0 := by first | exact w0_τ36.trans W0 | omega
                have W22 : τ36.1 22 = σ.1 22 := by first | exact w22_τ36.trans W22 | omega
                have G0 : τ36.2.1 0 = σ.2.1 0 := (g0_τ36).trans G0
                have G6 : τ36.2.1 6 = σ.2.1 6 := (g6_τ36).trans G6
                have G7 : τ36.2.1 7 = σ.2.1 7 := (g7_τ36).trans G7
                have G18 : τ36.2.1 18 = σ.2.1 18 := (g18_τ36).trans G18
                have G19 : τ36.2.1 19 = σ.2.1 19 := (g19_τ36).trans G19
                have y0_17_τ36 : τ36.2.1 0 (τ36.1 17) = (τ_90.2.1 0) (τ_90.1 17) := by rw [g0_τ36, w17_τ36]
                have y18_22_τ36 : τ36.2.1 18 (τ36.1 22) = (τ_90.2.1 18) (τ_90.1 22) := by rw [g18_τ36, w22_τ36]
                have y19_22_τ36 : τ36.2.1 19 (τ36.1 22) = (τ_90.2.1 19) (τ_90.1 22) := by rw [g19_τ36, w22_τ36]
                have PK : ∀ k : Int, 0 ≤ k → k < (τ36.1 25) → τ36.2.1 39 k < (τ36.1 22) := by rw [show (∀ k : Int, 0 ≤ k → k < (τ36.1 25) → τ36.2.1 39 k < (τ36.1 22)) = (∀ k : Int, 0 ≤ k → k < (τ_90.1 25) → τ_90.2.1 39 k < (τ_90.1 22)) from by rw [w22_τ36, w25_τ36, g39_τ36]]; exact PK
                have A0 : ∀ j, 0 ≤ τ36.2.1 0 j ∧ τ36.2.1 0 j ≤ 255 := fun j => hT.2 0 j
                have A6 : ∀ j, (-1) ≤ τ36.2.1 6 j ∧ τ36.2.1 6 j ≤ 999 := fun j => hT.2 6 j
                have A7 : ∀ j, (-1) ≤ τ36.2.1 7 j ∧ τ36.2.1 7 j ≤ 1499 := fun j => hT.2 7 j
                have A18 : ∀ j, 0 ≤ τ36.2.1 18 j ∧ τ36.2.1 18 j ≤ 90000 := fun j => hT.2 18 j
                have A19 : ∀ j, 0 ≤ τ36.2.1 19 j ∧ τ36.2.1 19 j ≤ 60 := fun j => hT.2 19 j
                have A39 : ∀ j, 0 ≤ τ36.2.1 39 j ∧ τ36.2.1 39 j ≤ 1499 := fun j => hT.2 39 j
                have v0 : 0 ≤ τ36.1 0 ∧ τ36.1 0 ≤ 60000 := hT.1 0
                have v16 : 0 ≤ τ36.1 16 ∧ τ36.1 16 ≤ 60000 := hT.1 16
                have v17 : 0 ≤ τ36.1 17 ∧ τ36.1 17 ≤ 60000 := hT.1 17
                have v18 : 0 ≤ τ36.1 18 ∧ τ36.1 18 ≤ 60000 := hT.1 18
                have v19 : (-1) ≤ τ36.1 19 ∧ τ36.1 19 ≤ 125 := hT.1 19
                have v20 : 0 ≤ τ36.1 20 ∧ τ36.1 20 ≤ 19 := hT.1 20
                have v22 : 0 ≤ τ36.1 22 ∧ τ36.1 22 ≤ 1499 := hT.1 22
                have v25 : 0 ≤ τ36.1 25 ∧ τ36.1 25 ≤ 300 := hT.1 25
                have a0_17 : 0 ≤ τ36.2.1 0 (τ36.1 17) ∧ τ36.2.1 0 (τ36.1 17) ≤ 255 := hT.2 0 _
                have a18_22 : 0 ≤ τ36.2.1 18 (τ36.1 22) ∧ τ36.2.1 18 (τ36.1 22) ≤ 90000 := hT.2 18 _
                have a19_22 : 0 ≤ τ36.2.1 19 (τ36.1 22) ∧ τ36.2.1 19 (τ36.1 22) ≤ 60 := hT.2 19 _
                exact ih_9 _ (show (3 * ((τ36.1 0) - (τ36.1 16)) + z_0 ((τ36.1 20)) + 1 - z_0 ((τ36.1 19)) : Int) < ((m_9 : Nat) : Int) from by (have zz0 := z_e ((τ36.1 20)); have zz1 := z_e ((τ36.1 19)); (first | omega | (simp only [st_s] <;> omega) | assumption | omega | fail))) hT (show τ36.1 0 = σ.1 0 from by first | exact W0 | omega) (show τ36.1 22 = σ.1 22 from by first | exact W22 | omega) G0 G6 G7 G18 G19 (show (τ36.1 16) ≤ (τ36.1 0) from by (first | omega | (simp only [st_s] <;> omega) | assumption | omega | fail)) (show (τ36.1 17) + (τ36.1 18) ≤ (τ36.1 0) from by (first | omega | (simp only [st_s] <;> omega) | assumption | omega | fail)) (show oc (τ36.2.1 6) < 4096 from by (first | omega | (simp only [st_s] <;> omega) | assumption | omega | fail)) (show oc (τ36.2.1 7) < 4096 from by (first | omega | (simp only [st_s] <;> omega) | assumption | omega | fail)) (show ¬ (σ.1 20) = 0 → (τ36.1 20) = (σ.1 20) from by (first | omega | (simp only [st_s] <;> omega) | assumption | omega | fail)) (show (σ.1 16) ≤ (τ36.1 16) from by (first | omega | (simp only [st_s] <;> omega) | assumption | omega | fail)) (show ∀ k : Int, 0 ≤ k → k < (τ36.1 25) → τ36.2.1 39 k < (τ36.1 22) from PK)
            ·
              refine ⟨_, K_X13_failHere hT (show 0 ≤ (5 : Int) from by (first | omega | (simp only [st_s] <;> omega) | assumption | omega | fail)) (show (5 : Int) ≤ 19 from by (first | omega | (simp only [st_s] <;> omega) | assumption | omega | fail)), ?_⟩
              intro τ39 hn_τ39 hf_τ39 hq
              obtain ⟨hT, q37_1, q37_2⟩ := hq
              replace q37_1 : ¬ (τ_90.1 20) = 0 → (τ39.1 20) = (τ_90.1 20) := q37_1
              replace q37_2 : (τ_90.1 20) = 0 → (τ39.1 20) = (5 : Int) := q37_2
              have w0_τ39 : τ39.1 0 = τ_90.1 0 := hf_τ39.1 0 (by decide)
              have w16_τ39 : τ39.1 16 = τ_90.1 16 := hf_τ39.1 16 (by decide)
              have w17_τ39 : τ39.1 17 = τ_90.1 17 := hf_τ39.1 17 (by decide)
              have w18_τ39 : τ39.1 18 = τ_90.1 18 := hf_τ39.1 18 (by decide)
              have w19_τ39 : τ39.1 19 = τ_90.1 19 := hf_τ39.1 19 (by decide)
              have w22_τ39 : τ39.1 22 = τ_90.1 22 := hf_τ39.1 22 (by decide)
              have w25_τ39 : τ39.1 25 = τ_90.1 25 := hf_τ39.1 25 (by decide)
              have g0_τ39 : τ39.2.1 0 = τ_90.2.1 0 := hf_τ39.2.1 0 (by decide)
              have g6_τ39 : τ39.2.1 6 = τ_90.2.1 6 := hf_τ39.2.1 6 (by decide)
              have g7_τ39 : τ39.2.1 7 = τ_90.2.1 7 := hf_τ39.2.1 7 (by decide)
              have g18_τ39 : τ39.2.1 18 = τ_90.2.1 18 := hf_τ39.2.1 18 (by decide)
              have g19_τ39 : τ39.2.1 19 = τ_90.2.1 19 := hf_τ39.2.1 19 (by decide)
              have g39_τ39 : τ39.2.1 39 = τ_90.2.1 39 := hf_τ39.2.1 39 (by decide)
              first | (have o6_τ39 := congrArg oc g6_τ39) | skip
              first | (have o7_τ39 := congrArg oc g7_τ39) | skip
              have W0 : τ39.1 0 = σ.1 0 := by first | exact w0_τ39.trans W0 | omega
              have W22 : τ39.1 22 = σ.1 22 := by first | exact w22_τ39.trans W22 | omega
              have G0 : τ39.2.1 0 = σ.2.1 0 := (g0_τ39).trans G0
              have G6 : τ39.2.1 6 = σ.2.1 6 := (g6_τ39).trans G6
              have G7 : τ39.2.1 7 = σ.2.1 7 := (g7_τ39).trans G7
              have G18 : τ39.2.1 18 = σ.2.1 18 := (g18_τ39).trans G18
              have G19 : τ39.2.1 19 = σ.2.1 19 := (g19_τ39).trans G19
              have y0_17_τ39 : τ39.2.1 0 (τ39.1 17) = (τ_90.2.1 0) (τ_90.1 17) := by rw [g0_τ39, w17_τ39]
              have y18_22_τ39 : τ39.2.1 18 (τ39.1 22) = (τ_90.2.1 18) (τ_90.1 22) := by rw [g18_τ39, w22_τ39]
              have y19_22_τ39 : τ39.2.1 19 (τ39.1 22) = (τ_90.2.1 19) (τ_90.1 22) := by rw [g19_τ39, w22_τ39]
              have PK : ∀ k : Int, 0 ≤ k → k < (τ39.1 25) → τ39.2.1 39 k < (τ39.1 22) := by rw [show (∀ k : Int, 0 ≤ k → k < (τ39.1 25) → τ39.2.1 39 k < (τ39.1 22)) = (∀ k : Int, 0 ≤ k → k < (τ_90.1 25) → τ_90.2.1 39 k < (τ_90.1 22)) from by rw [w22_τ39, w25_τ39, g39_τ39]]; exact PK
              have A0 : ∀ j, 0 ≤ τ39.2.1 0 j ∧ τ39.2.1 0 j ≤ 255 := fun j => hT.2 0 j
              have A6 : ∀ j, (-1) ≤ τ39.2.1 6 j ∧ τ39.2.1 6 j ≤ 999 := fun j => hT.2 6 j
              have A7 : ∀ j, (-1) ≤ τ39.2.1 7 j ∧ τ39.2.1 7 j ≤ 1499 := fun j => hT.2 7 j
              have A18 : ∀ j, 0 ≤ τ39.2.1 18 j ∧ τ39.2.1 18 j ≤ 90000 := fun j => hT.2 18 j
              have A19 : ∀ j, 0 ≤ τ39.2.1 19 j ∧ τ39.2.1 19 j ≤ 60 := fun j => hT.2 19 j
              have A39 : ∀ j, 0 ≤ τ39.2.1 39 j ∧ τ39.2.1 39 j ≤ 1499 := fun j => hT.2 39 j
              have v0 : 0 ≤ τ39.1 0 ∧ τ39.1 0 ≤ 60000 := hT.1 0
              have v16 : 0 ≤ τ39.1 16 ∧ τ39.1 16 ≤ 60000 := hT.1 16
              have v17 : 0 ≤ τ39.1 17 ∧ τ39.1 17 ≤ 60000 := hT.1 17
              have v18 : 0 ≤ τ39.1 18 ∧ τ39.1 18 ≤ 60000 := hT.1 18
              have v19 : (-1) ≤ τ39.1 19 ∧ τ39.1 19 ≤ 125 := hT.1 19
              have v20 : 0 ≤ τ39.1 20 ∧ τ39.1 20 ≤ 19 := hT.1 20
              have v22 : 0 ≤ τ39.1 22 ∧ τ39.1 22 ≤ 1499 := hT.1 22
              have v25 : 0 ≤ τ39.1 25 ∧ τ39.1 25 ≤ 300 := hT.1 25
              have a0_17 : 0 ≤ τ39.2.1 0 (τ39.1 17) ∧ τ39.2.1 0 (τ39.1 17) ≤ 255 := hT.2 0 _
              have a18_22 : 0 ≤ τ39.2.1 18 (τ39.1 22) ∧ τ39.2.1 18 (τ39.1 22) ≤ 90000 := hT.2 18 _
              have a19_22 : 0 ≤ τ39.2.1 19 (τ39.1 22) ∧ τ39.2.1 19 (τ39.1 22) ≤ 60 := hT.2 19 _
              exact ih_9 _ (show (3 * ((τ39.1 0) - (τ39.1 16)) + z_0 ((τ39.1 20)) + 1 - z_0 ((τ39.1 19)) : Int) < ((m_9 : Nat) : Int) from by (have zz0 := z_e ((τ39.1 20)); have zz1 := z_e ((τ39.1 19)); (first | omega | (simp only [st_s] <;> omega) | assumption | omega | fail))) hT (show τ39.1 0 = σ.1 0 from by first | exact W0 | omega) (show τ39.1 22 = σ.1 22 from by first | exact W22 | omega) G0 G6 G7 G18 G19 (show (τ39.1 16) ≤ (τ39.1 0) from by (first | omega | (simp only [st_s] <;> omega) | assumption | omega | fail)) (show (τ39.1 17) + (τ39.1 18) ≤ (τ39.1 0) from by (first | omega | (simp only [st_s] <;> omega) | assumption | omega | fail)) (show oc (τ39.2.1 6) < 4096 from by (first | omega | (simp only [st_s] <;> omega) | assumption | omega | fail)) (show oc (τ39.2.1 7) < 4096 from by (first | omega | (simp only [st_s] <;> omega) | assumption | omega | fail)) (show ¬ (σ.1 20) = 0 → (τ39.1 20) = (σ.1 20) from by (first | omega | (simp only [st_s] <;> omega) | assumption | omega | fail)) (show (σ.1 16) ≤ (τ39.1 16) from by (first | omega | (simp only [st_s] <;> omega) | assumption | omega | fail)) (show ∀ k : Int, 0 ≤ k → k < (τ39.1 25) → τ39.2.1 39 k < (τ39.1 22) from PK)
          ·
            refine ⟨fun c40 => ?_, fun c40 => ?_⟩
            ·
              refine ⟨(⟨by (first | omega | (simp only [st_s] <;> omega) | assumption | omega | fail), by (first | omega | (simp only [st_s] <;> omega) | assumption | omega | fail)⟩ : rg (u3_90 + 1)), ?_⟩
              exact ih_90 _ _ _ _ (show (301 - (u3_90 + 1) : Int) < ((m_90 : Nat) : Int) from by ((first | omega | (simp only [st_s] <;> omega) | assumption | omega | fail))) hT (show τ_90.1 0 = σ.1 0 from by first | exact W0 | omega) (show τ_90.1 22 = σ.1 22 from by first | exact W22 | omega) G0 G6 G7 G18 G19 (show (τ_90.1 16) ≤ (τ_90.1 0) from by (first | omega | (simp only [st_s] <;> omega) | assumption | omega | fail)) (show (τ_90.1 17) + (τ_90.1 18) ≤ (τ_90.1 0) from by (first | omega | (simp only [st_s] <;> omega) | assumption | omega | fail)) (show oc (τ_90.2.1 6) < 4096 from by (first | omega | (simp only [st_s] <;> omega) | assumption | omega | fail)) (show oc (τ_90.2.1 7) < 4096 from by (first | omega | (simp only [st_s] <;> omega) | assumption | omega | fail)) (show ¬ (σ.1 20) = 0 → (τ_90.1 20) = (σ.1 20) from by (first | omega | (simp only [st_s] <;> omega) | assumption | omega | fail)) (show -1 ≤ u1_90 ∧ u1_90 ≤ 1499 from by (first | omega | (simp only [st_s] <;> omega) | assumption | omega | fail)) (show 0 ≤ 1 ∧ 1 ≤ 1 from by (first | omega | (simp only [st_s] <;> omega) | assumption | omega | fail)) (show 0 ≤ (u3_90 + 1) from by (first | omega | (simp only [st_s] <;> omega) | assumption | omega | fail)) (show (u3_90 + 1) ≤ 300 from by (first | omega | (simp only [st_s] <;> omega) | assumption | omega | fail)) (show (τ_90.1 20) = 0 from by (first | omega | (simp only [st_s] <;> omega) | assumption | omega | fail)) (show (τ_90.1 19) = 1 from by (first | omega | (simp only [st_s] <;> omega) | assumption | omega | fail)) (show 3 * ((τ_90.1 0) - (τ_90.1 16)) + z_0 ((τ_90.1 20)) + 1 - z_0 ((τ_90.1 19)) ≤ (m_9 : Int) from by (first | omega | (simp only [st_s] <;> omega) | assumption | omega | fail)) (show (σ.1 16) ≤ (τ_90.1 16) from by (first | omega | (simp only [st_s] <;> omega) | assumption | omega | fail)) (show ∀ k : Int, 0 ≤ k → k < (τ_90.1 25) → τ_90.2.1 39 k < (τ_90.1 22) from PK) (show u1_90 = -1 ∨ u1_90 < (σ.1 22) from by (first | exact i90_15 | omega | fail))
            ·
              refine ⟨(show 0 ≤ u3_90 ∧ u3_90 < 300 from by (first | omega | (simp only [st_s] <;> omega) | assumption | omega | fail)), ?_⟩
              intro x43 r_x43 e_x43
              have b_x43 : 0 ≤ x43 ∧ x43 ≤ 1499 := by rw [e_x43]; exact hT.2 39 _
              refine ⟨fun c44 => ?_, fun c44 => ?_⟩
              ·
                refine ⟨(⟨by (first | omega | (simp only [st_s] <;> omega) | assumption | omega | fail), by (first | omega | (simp only [st_s] <;> omega) | assumption | omega | fail)⟩ : rg (u3_90 + 1)), ?_⟩
                exact ih_90 _ _ _ _ (show (301 - (u3_90 + 1) : Int) < ((m_90 : Nat) : Int) from by ((first | omega | (simp only [st_s] <;> omega) | assumption | omega | fail))) hT (show τ_90.1 0 = σ.1 0 from by first | exact W0 | omega) (show τ_90.1 22 = σ.1 22 from by first | exact W22 | omega) G0 G6 G7 G18 G19 (show (τ_90.1 16) ≤ (τ_90.1 0) from by (first | omega | (simp only [st_s] <;> omega) | assumption | omega | fail)) (show (τ_90.1 17) + (τ_90.1 18) ≤ (τ_90.1 0) from by (first | omega | (simp only [st_s] <;> omega) | assumption | omega | fail)) (show oc (τ_90.2.1 6) < 4096 from by (first | omega | (simp only [st_s] <;> omega) | assumption | omega | fail)) (show oc (τ_90.2.1 7) < 4096 from by (first | omega | (simp only [st_s] <;> omega) | assumption | omega | fail)) (show ¬ (σ.1 20) = 0 → (τ_90.1 20) = (σ.1 20) from by (first | omega | (simp only [st_s] <;> omega) | assumption | omega | fail)) (show -1 ≤ u1_90 ∧ u1_90 ≤ 1499 from by (first | omega | (simp only [st_s] <;> omega) | assumption | omega | fail)) (show 0 ≤ 0 ∧ 0 ≤ 1 from by (first | omega | (simp only [st_s] <;> omega) | assumption | omega | fail)) (show 0 ≤ (u3_90 + 1) from by (first | omega | (simp only [st_s] <;> omega) | assumption | omega | fail)) (show (u3_90 + 1) ≤ 300 from by (first | omega | (simp only [st_s] <;> omega) | assumption | omega | fail)) (show (τ_90.1 20) = 0 from by (first | omega | (simp only [st_s] <;> omega) | assumption | omega | fail)) (show (τ_90.1 19) = 1 from by (first | omega | (simp only [st_s] <;> omega) | assumption | omega | fail)) (show 3 * ((τ_90.1 0) - (τ_90.1 16)) + z_0 ((τ_90.1 20)) + 1 - z_0 ((τ_90.1 19)) ≤ (m_9 : Int) from by (first | omega | (simp only [st_s] <;> omega) | assumption | omega | fail)) (show (σ.1 16) ≤ (τ_90.1 16) from by (first | omega | (simp only [st_s] <;> omega) | assumption | omega | fail)) (show ∀ k : Int, 0 ≤ k → k < (τ_90.1 25) → τ_90.2.1 39 k < (τ_90.1 22) from PK) (show u1_90 = -1 ∨ u1_90 < (σ.1 22) from by (first | exact i90_15 | omega | fail))
              ·
                refine ⟨(⟨by (first | omega | (simp only [st_s] <;> omega) | assumption | omega | fail), by (first | omega | (simp only [st_s] <;> omega) | assumption | omega | fail)⟩ : rg (u3_90 + 1)), ?_⟩
                exact ih_90 _ _ _ _ (show (301 - (u3_90 + 1) : Int) < ((m_90 : Nat) : Int) from by ((first | omega | (simp only [st_s] <;> omega) | assumption | omega | fail))) hT (show τ_90.1 0 = σ.1 0 from by first | exact W0 | omega) (show τ_90.1 22 = σ.1 22 from by first | exact W22 | omega) G0 G6 G7 G18 G19 (show (τ_90.1 16) ≤ (τ_90.1 0) from by (first | omega | (simp only [st_s] <;> omega) | assumption | omega | fail)) (show (τ_90.1 17) + (τ_90.1 18) ≤ (τ_90.1 0) from by (first | omega | (simp only [st_s] <;> omega) | assumption | omega | fail)) (show oc (τ_90.2.1 6) < 4096 from by (first | omega | (simp only [st_s] <;> omega) | assumption | omega | fail)) (show oc (τ_90.2.1 7) < 4096 from by (first | omega | (simp only [st_s] <;> omega) | assumption | omega | fail)) (show ¬ (σ.1 20) = 0 → (τ_90.1 20) = (σ.1 20) from by (first | omega | (simp only [st_s] <;> omega) | assumption | omega | fail)) (show -1 ≤ u1_90 ∧ u1_90 ≤ 1499 from by (first | omega | (simp only [st_s] <;> omega) | assumption | omega | fail)) (show 0 ≤ 1 ∧ 1 ≤ 1 from by (first | omega | (simp only [st_s] <;> omega) | assumption | omega | fail)) (show 0 ≤ (u3_90 + 1) from by (first | omega | (simp only [st_s] <;> omega) | assumption | omega | fail)) (show (u3_90 + 1) ≤ 300 from by (first | omega | (simp only [st_s] <;> omega) | assumption | omega | fail)) (show (τ_90.1 20) = 0 from by (first | omega | (simp only [st_s] <;> omega) | assumption | omega | fail)) (show (τ_90.1 19) = 1 from by (first | omega | (simp only [st_s] <;> omega) | assumption | omega | fail)) (show 3 * ((τ_90.1 0) - (τ_90.1 16)) + z_0 ((τ_90.1 20)) + 1 - z_0 ((τ_90.1 19)) ≤ (m_9 : Int) from by (first | omega | (simp only [st_s] <;> omega) | assumption | omega | fail)) (show (σ.1 16) ≤ (τ_90.1 16) from by (first | omega | (simp only [st_s] <;> omega) | assumption | omega | fail)) (show ∀ k : Int, 0 ≤ k → k < (τ_90.1 25) → τ_90.2.1 39 k < (τ_90.1 22) from PK) (show u1_90 = -1 ∨ u1_90 < (σ.1 22) from by (first | exact i90_15 | omega | fail))
      refine h9 τ_9 ?_
      refine ⟨fun c4 => ?_, fun c4 => ?_⟩
      ·
        exact ⟨hT, (show (τ_9.1 16) ≤ (τ_9.1 0) from by (first | omega | (simp only [st_s] <;> omega) | assumption | omega | fail)), (show (τ_9.1 17) + (τ_9.1 18) ≤ (τ_9.1 0) from by (first | omega | (simp only [st_s] <;> omega) | assumption | omega | fail)), (show ¬ (σ.1 20) = 0 → (τ_9.1 20) = (σ.1 20) from by (first | omega | (simp only [st_s] <;> omega) | assumption | omega | fail)), (show oc (τ_9.2.1 6) < 4096 from by (first | omega | (simp only [st_s] <;> omega) | assumption | omega | fail)), (show oc (τ_9.2.1 7) < 4096 from by (first | omega | (simp only [st_s] <;> omega) | assumption | omega | fail)), (show (σ.1 16) ≤ (τ_9.1 16) from by (first | omega | (simp only [st_s] <;> omega) | assumption | omega | fail)), (show ∀ k : Int, 0 ≤ k → k < (τ_9.1 25) → τ_9.2.1 39 k < (τ_9.1 22) from PK)⟩
      ·
        refine ⟨fun c5 => ?_, fun c5 => ?_⟩
        ·
          refine h46 _ ?_
          refine ⟨fun c10 => ?_, fun c10 => ?_⟩
          ·
            refine ⟨_, K_X13_stepHere hT (show (τ_9.1 17) + (τ_9.1 18) ≤ (τ_9.1 0) from by (first | omega | (simp only [st_s] <;> omega) | assumption | omega | fail)) (show oc (τ_9.2.1 7) < 4096 from by (first | omega | (simp only [st_s] <;> omega) | assumption | omega | fail)), ?_⟩
            intro x12 r_x12 hq
            obtain ⟨q11_1, q11_2⟩ := hq
            replace q11_1 : -1 ≤ x12 ∧ x12 < (τ_9.1 22) ∨ x12 = -1 := q11_1
            replace q11_2 : -1 ≤ x12 ∧ x12 ≤ 1499 := q11_2
            refine ⟨fun c14 => ?_, fun c14 => ?_⟩
            ·
              exact l_90 ((301 - 0 : Int).toNat + 1) _ _ _ _ (show (301 - 0 : Int) < (((301 - 0 : Int).toNat + 1 : Nat) : Int) from by ((first | omega | (simp only [st_s] <;> omega) | assumption | omega | fail))) hT (show τ_9.1 0 = σ.1 0 from by first | exact W0 | omega) (show τ_9.1 22 = σ.1 22 from by first | exact W22 | omega) G0 G6 G7 G18 G19 (show (τ_9.1 16) ≤ (τ_9.1 0) from by (first | omega | (simp only [st_s] <;> omega) | assumption | omega | fail)) (show (τ_9.1 17) + (τ_9.1 18) ≤ (τ_9.1 0) from by (first | omega | (simp only [st_s] <;> omega) | assumption | omega | fail)) (show oc (τ_9.2.1 6) < 4096 from by (first | omega | (simp only [st_s] <;> omega) | assumption | omega | fail)) (show oc (τ_9.2.1 7) < 4096 from by (first | omega | (simp only [st_s] <;> omega) | assumption | omega | fail)) (show ¬ (σ.1 20) = 0 → (τ_9.1 20) = (σ.1 20) from by (first | omega | (simp only [st_s] <;> omega) | assumption | omega | fail)) (show -1 ≤ x12 ∧ x12 ≤ 1499 from by (first | omega | (simp only [st_s] <;> omega) | assumption | omega | fail)) (show 0 ≤ 0 ∧ 0 ≤ 1 from by (first | omega | (simp only [st_s] <;> omega) | assumption | omega | fail)) (show 0 ≤ 0 from by (first | omega | (simp only [st_s] <;> omega) | assumption | omega | fail)) (show 0 ≤ 300 from by (first | omega | (simp only [st_s] <;> omega) | assumption | omega | fail)) (show (τ_9.1 20) = 0 from by (first | omega | (simp only [st_s] <;> omega) | assumption | omega | fail)) (show (τ_9.1 19) = 1 from by (first | omega | (simp only [st_s] <;> omega) | assumption | omega | fail)) (show 3 * ((τ_9.1 0) - (τ_9.1 16)) + z_0 ((τ_9.1 20)) + 1 - z_0 ((τ_9.1 19)) ≤ (m_9 : Int) from by (first | omega | (simp only [st_s] <;> omega) | assumption | omega | fail)) (show (σ.1 16) ≤ (τ_9.1 16) from by (first | omega | (simp only [st_s] <;> omega) | assumption | omega | fail)) (show ∀ k : Int, 0 ≤ k → k < (τ_9.1 25) → τ_9.2.1 39 k < (τ_9.1 22) from PK) (show x12 = -1 ∨ x12 < (σ.1 22) from by (first | exact i90_15 | omega | fail))
            ·
              refine ⟨_, K_X13_isMandatory hT (show 0 ≤ (τ_9.1 22) from by (first | omega | (simp only [st_s] <;> omega) | assumption | omega | fail)) (show (τ_9.1 22) < 1500 from by (first | omega | (simp only [st_s] <;> omega) | assumption | omega | fail)) (show τ_9.2.1 18 (τ_9.1 22) + τ_9.2.1 19 (τ_9.1 22) ≤ 90100 from by (first | omega | (simp only [st_s] <;> omega) | assumption | omega | fail)), ?_⟩
              intro x16 r_x16 hq
              have q15_1 := hq
              replace q15_1 : 0 ≤ x16 ∧ x16 ≤ 1 := q15_1
              refine ⟨fun c18 => ?_, fun c18 => ?_⟩
              ·
                exact l_90 ((301 - 0 : Int).toNat + 1) _ _ _ _ (show (301 - 0 : Int) < (((301 - 0 : Int).toNat + 1 : Nat) : Int) from by ((first | omega | (simp only [st_s] <;> omega) | assumption | omega | fail))) hT (show τ_9.1 0 = σ.1 0 from by first | exact W0 | omega) (show τ_9.1 22 = σ.1 22 from by first | exact W22 | omega) G0 G6 G7 G18 G19 (show (τ_9.1 16) ≤ (τ_9.1 0) from by (first | omega | (simp only [st_s] <;> omega) | assumption | omega | fail)) (show (τ_9.1 17) + (τ_9.1 18) ≤ (τ_9.1 0) from by (first | omega | (simp only [st_s] <;> omega) | assumption | omega | fail)) (show oc (τ_9.2.1 6) < 4096 from by (first | omega | (simp only [st_s] <;> omega) | assumption | omega | fail)) (show oc (τ_9.2.1 7) < 4096 from by (first | omega | (simp only [st_s] <;> omega) | assumption | omega | fail)) (show ¬ (σ.1 20) = 0 → (τ_9.1 20) = (σ.1 20) from by (first | omega | (simp only [st_s] <;> omega) | assumption | omega | fail)) (show -1 ≤ x12 ∧ x12 ≤ 1499 from by (first | omega | (simp only [st_s] <;> omega) | assumption | omega | fail)) (show 0 ≤ 0 ∧ 0 ≤ 1 from by (first | omega | (simp only [st_s] <;> omega) | assumption | omega | fail)) (show 0 ≤ 0 from by (first | omega | (simp only [st_s] <;> omega) | assumption | omega | fail)) (show 0 ≤ 300 from by (first | omega | (simp only [st_s] <;> omega) | assumption | omega | fail)) (show (τ_9.1 20) = 0 from by (first | omega | (simp only [st_s] <;> omega) | assumption | omega | fail)) (show (τ_9.1 19) = 1 from by (first | omega | (simp only [st_s] <;> omega) | assumption | omega | fail)) (show 3 * ((τ_9.1 0) - (τ_9.1 16)) + z_0 ((τ_9.1 20)) + 1 - z_0 ((τ_9.1 19)) ≤ (m_9 : Int) from by (first | omega | (simp only [st_s] <;> omega) | assumption | omega | fail)) (show (σ.1 16) ≤ (τ_9.1 16) from by (first | omega | (simp only [st_s] <;> omega) | assumption | omega | fail)) (show ∀ k : Int, 0 ≤ k → k < (τ_9.1 25) → τ_9.2.1 39 k < (τ_9.1 22) from PK) (show x12 = -1 ∨ x12 < (σ.1 22) from by (first | exact i90_15 | omega | fail))
              ·
                exact l_90 ((301 - 0 : Int).toNat + 1) _ _ _ _ (show (301 - 0 : Int) < (((301 - 0 : Int).toNat + 1 : Nat) : Int) from by ((first | omega | (simp only [st_s] <;> omega) | assumption | omega | fail))) hT (show τ_9.1 0 = σ.1 0 from by first | exact W0 | omega) (show τ_9.1 22 = σ.1 22 from by first | exact W22 | omega) G0 G6 G7 G18 G19 (show (τ_9.1 16) ≤ (τ_9.1 0) from by (first | omega | (simp only [st_s] <;> omega) | assumption | omega | fail)) (show (τ_9.1 17) + (τ_9.1 18) ≤ (τ_9.1 0) from by (first | omega | (simp only [st_s] <;> omega) | assumption | omega | fail)) (show oc (τ_9.2.1 6) < 4096 from by (first | omega | (simp only [st_s] <;> omega) | assumption | omega | fail)) (show oc (τ_9.2.1 7) < 4096 from by (first | omega | (simp only [st_s] <;> omega) | assumption | omega | fail)) (show ¬ (σ.1 20) = 0 → (τ_9.1 20) = (σ.1 20) from by (first | omega | (simp only [st_s] <;> omega) | assumption | omega | fail)) (show -1 ≤ x12 ∧ x12 ≤ 1499 from by (first | omega | (simp only [st_s] <;> omega) | assumption | omega | fail)) (show 0 ≤ 1 ∧ 1 ≤ 1 from by (first | omega | (simp only [st_s] <;> omega) | assumption | omega | fail)) (show 0 ≤ 0 from by (first | omega | (simp only [st_s] <;> omega) | assumption | omega | fail)) (show 0 ≤ 300 from by (first | omega | (simp only [st_s] <;> omega) | assumption | omega | fail)) (show (τ_9.1 20) = 0 from by (first | omega | (simp only [st_s] <;> omega) | assumption | omega | fail)) (show (τ_9.1 19) = 1 from by (first | omega | (simp only [st_s] <;> omega) | assumption | omega | fail)) (show 3 * ((τ_9.1 0) - (τ_9.1 16)) + z_0 ((τ_9.1 20)) + 1 - z_0 ((τ_9.1 19)) ≤ (m_9 : Int) from by (first | omega | (simp only [st_s] <;> omega) | assumption | omega | fail)) (show (σ.1 16) ≤ (τ_9.1 16) from by (first | omega | (simp only [st_s] <;> omega) | assumption | omega | fail)) (show ∀ k : Int, 0 ≤ k → k < (τ_9.1 25) → τ_9.2.1 39 k < (τ_9.1 22) from PK) (show x12 = -1 ∨ x12 < (σ.1 22) from by (first | exact i90_15 | omega | fail))
          ·
            refine ⟨_, K_X13_failHere hT (show 0 ≤ (4 : Int) from by (first | omega | (simp only [st_s] <;> omega) | assumption | omega | fail)) (show (4 : Int) ≤ 19 from by (first | omega | (simp only [st_s] <;> omega) | assumption | omega | fail)), ?_⟩
            intro τ21 hn_τ21 hf_τ21 hq
            obtain ⟨hT, q19_1, q19_2⟩ := hq
            replace q19_1 : ¬ (τ_9.1 20) = 0 → (τ21.1 20) = (τ_9.1 20) := q19_1
            replace q19_2 : (τ_9.1 20) = 0 → (τ21.1 20) = (4 : Int) := q19_2
            have w0_τ21 : τ21.1 0 = τ_9.1 0 := hf_τ21.1 0 (by decide)
            have w16_τ21 : τ21.1 16 = τ_9.1 16 := hf_τ21.1 16 (by decide)
            have w17_τ21 : τ21.1 17 = τ_9.1 17 := hf_τ21.1 17 (by decide)
            have w18_τ21 : τ21.1 18 = τ_9.1 18 := hf_τ21.1 18 (by decide)
            have w19_τ21 : τ21.1 19 = τ_9.1 19 := hf_τ21.1 19 (by decide)
            have w22_τ21 : τ21.1 22 = τ_9.1 22 := hf_τ21.1 22 (by decide)
            have w25_τ21 : τ21.1 25 = τ_9.1 25 := hf_τ21.1 25 (by decide)
            have g0_τ21 : τ21.2.1 0 = τ_9.2.1 0 := hf_τ21.2.1 0 (by decide)
            have g6_τ21 : τ21.2.1 6 = τ_9.2.1 6 := hf_τ21.2.1 6 (by decide)
            have g7_τ21 : τ21.2.1 7 = τ_9.2.1 7 := hf_τ21.2.1 7 (by decide)
            have g18_τ21 : τ21.2.1 18 = τ_9.2.1 18 := hf_τ21.2.1 18 (by decide)
            have g19_τ21 : τ21.2.1 19 = τ_9.2.1 19 := hf_τ21.2.1 19 (by decide)
            have g39_τ21 : τ21.2.1 39 = τ_9.2.1 39 := hf_τ21.2.1 39 (by decide)
            first | (have o6_τ21 := congrArg oc g6_τ21) | skip
            first | (have o7_τ21 := congrArg oc g7_τ21) | skip
            have W0 : τ21.1 0 = σ.1 0 := by first | exact w0_τ21.trans W0 | omega
            have W22 : τ21.1 22 = σ.1 22 := by first | exact w22_τ21.trans W22 | omega
            have G0 : τ21.2.1 0 = σ.2.1 0 := (g0_τ21).trans G0
            have G6 : τ21.2.1 6 = σ.2.1 6 := (g6_τ21).trans G6
            have G7 : τ21.2.1 7 = σ.2.1 7 := (g7_τ21).trans G7
            have G18 : τ21.2.1 18 = σ.2.1 18 := (g18_τ21).trans G18
            have G19 : τ21.2.1 19 = σ.2.1 19 := (g19_τ21).trans G19
            have y0_17_τ21 : τ21.2.1 0 (τ21.1 17) = (τ_9.2.1 0) (τ_9.1 17) := by rw [g0_τ21, w17_τ21]
            have y18_22_τ21 : τ21.2.1 18 (τ21.1 22) = (τ_9.2.1 18) (τ_9.1 22) := by rw [g18_τ21, w22_τ21]
            have y19_22_τ21 : τ21.2.1 19 (τ21.1 22) = (τ_9.2.1 19) (τ_9.1 22) := by rw [g19_τ21, w22_τ21]
            have PK : ∀ k : Int, 0 ≤ k → k < (τ21.1 25) → τ21.2.1 39 k < (τ21.1 22) := by rw [show (∀ k : Int, 0 ≤ k → k < (τ21.1 25) → τ21.2.1 39 k < (τ21.1 22)) = (∀ k : Int, 0 ≤ k → k < (τ_9.1 25) → τ_9.2.1 39 k < (τ_9.1 22)) from by rw [w22_τ21, w25_τ21, g39_τ21]]; exact PK
            have A0 : ∀ j, 0 ≤ τ21.2.1 0 j ∧ τ21.2.1 0 j ≤ 255 := fun j => hT.2 0 j
            have A6 : ∀ j, (-1) ≤ τ21.2.1 6 j ∧ τ21.2.1 6 j ≤ 999 := fun j => hT.2 6 j
            have A7 : ∀ j, (-1) ≤ τ21.2.1 7 j ∧ τ21.2.1 7 j ≤ 1499 := fun j => hT.2 7 j
            have A18 : ∀ j, 0 ≤ τ21.2.1 18 j ∧ τ21.2.1 18 j ≤ 90000 := fun j => hT.2 18 j
            have A19 : ∀ j, 0 ≤ τ21.2.1 19 j ∧ τ21.2.1 19 j ≤ 60 := fun j => hT.2 19 j
            have A39 : ∀ j, 0 ≤ τ21.2.1 39 j ∧ τ21.2.1 39 j ≤ 1499 := fun j => hT.2 39 j
            have v0 : 0 ≤ τ21.1 0 ∧ τ21.1 0 ≤ 60000 := hT.1 0
            have v16 : 0 ≤ τ21.1 16 ∧ τ21.1 16 ≤ 60000 := hT.1 16
            have v17 : 0 ≤ τ21.1 17 ∧ τ21.1 17 ≤ 60000 := hT.1 17
            have v18 : 0 ≤ τ21.1 18 ∧ τ21.1 18 ≤ 60000 := hT.1 18
            have v19 : (-1) ≤ τ21.1 19 ∧ τ21.1 19 ≤ 125 := hT.1 19
            have v20 : 0 ≤ τ21.1 20 ∧ τ21.1 20 ≤ 19 := hT.1 20
            have v22 : 0 ≤ τ21.1 22 ∧ τ21.1 22 ≤ 1499 := hT.1 22
            have v25 : 0 ≤ τ21.1 25 ∧ τ21.1 25 ≤ 300 := hT.1 25
            have a0_17 : 0 ≤ τ21.2.1 0 (τ21.1 17) ∧ τ21.2.1 0 (τ21.1 17) ≤ 255 := hT.2 0 _
            have a18_22 : 0 ≤ τ21.2.1 18 (τ21.1 22) ∧ τ21.2.1 18 (τ21.1 22) ≤ 90000 := hT.2 18 _
            have a19_22 : 0 ≤ τ21.2.1 19 (τ21.1 22) ∧ τ21.2.1 19 (τ21.1 22) ≤ 60 := hT.2 19 _
            exact ⟨hT, (show (τ21.1 16) ≤ (τ21.1 0) from by (first | omega | (simp only [st_s] <;> omega) | assumption | omega | fail)), (show (τ21.1 17) + (τ21.1 18) ≤ (τ21.1 0) from by (first | omega | (simp only [st_s] <;> omega) | assumption | omega | fail)), (show ¬ (σ.1 20) = 0 → (τ21.1 20) = (σ.1 20) from by (first | omega | (simp only [st_s] <;> omega) | assumption | omega | fail)), (show oc (τ21.2.1 6) < 4096 from by (first | omega | (simp only [st_s] <;> omega) | assumption | omega | fail)), (show oc (τ21.2.1 7) < 4096 from by (first | omega | (simp only [st_s] <;> omega) | assumption | omega | fail)), (show (σ.1 16) ≤ (τ21.1 16) from by (first | omega | (simp only [st_s] <;> omega) | assumption | omega | fail)), (show ∀ k : Int, 0 ≤ k → k < (τ21.1 25) → τ21.2.1 39 k < (τ21.1 22) from PK)⟩
        ·
          refine ⟨fun c6 => ?_, fun c6 => ?_⟩
          ·
            refine h46 _ ?_
            refine ⟨fun c10 => ?_, fun c10 => ?_⟩
            ·
              refine ⟨_, K_X13_stepHere hT (show (τ_9.1 17) + (τ_9.1 18) ≤ (τ_9.1 0) from by (first | omega | (simp only [st_s] <;> omega) | assumption | omega | fail)) (show oc (τ_9.2.1 7) < 4096 from by (first | omega | (simp only [st_s] <;> omega) | assumption | omega | fail)), ?_⟩
              intro x12 r_x12 hq
              obtain ⟨q11_1, q11_2⟩ := hq
              replace q11_1 : -1 ≤ x12 ∧ x12 < (τ_9.1 22) ∨ x12 = -1 := q11_1
              replace q11_2 : -1 ≤ x12 ∧ x12 ≤ 1499 := q11_2
              refine ⟨fun c14 => ?_, fun c14 => ?_⟩
              ·
                exact l_90 ((301 - 0 : Int).toNat + 1) _ _ _ _ (show (301 - 0 : Int) < (((301 - 0 : Int).toNat + 1 : Nat) : Int) from by ((first | omega | (simp only [st_s] <;> omega) | assumption | omega | fail))) hT (show τ_9.1 0 = σ.1 0 from by first | exact W0 | omega) (show τ_9.1 22 = σ.1 22 from by first | exact W22 | omega) G0 G6 G7 G18 G19 (show (τ_9.1 16) ≤ (τ_9.1 0) from by (first | omega | (simp only [st_s] <;> omega) | assumption | omega | fail)) (show (τ_9.1 17) + (τ_9.1 18) ≤ (τ_9.1 0) from by (first | omega | (simp only [st_s] <;> omega) | assumption | omega | fail)) (show oc (τ_9.2.1 6) < 4096 from by (first | omega | (simp only [st_s] <;> omega) | assumption | omega | fail)) (show oc (τ_9.2.1 7) < 4096 from by (first | omega | (simp only [st_s] <;> omega) | assumption | omega | fail)) (show ¬ (σ.1 20) = 0 → (τ_9.1 20) = (σ.1 20) from by (first | omega | (simp only [st_s] <;> omega) | assumption | omega | fail)) (show -1 ≤ x12 ∧ x12 ≤ 1499 from by (first | omega | (simp only [st_s] <;> omega) | assumption | omega | fail)) (show 0 ≤ 0 ∧ 0 ≤ 1 from by (first | omega | (simp only [st_s] <;> omega) | assumption | omega | fail)) (show 0 ≤ 0 from by (first | omega | (simp only [st_s] <;> omega) | assumption | omega | fail)) (show 0 ≤ 300 from by (first | omega | (simp only [st_s] <;> omega) | assumption | omega | fail)) (show (τ_9.1 20) = 0 from by (first | omega | (simp only [st_s] <;> omega) | assumption | omega | fail)) (show (τ_9.1 19) = 1 from by (first | omega | (simp only [st_s] <;> omega) | assumption | omega | fail)) (show 3 * ((τ_9.1 0) - (τ_9.1 16)) + z_0 ((τ_9.1 20)) + 1 - z_0 ((τ_9.1 19)) ≤ (m_9 : Int) from by (first | omega | (simp only [st_s] <;> omega) | assumption | omega | fail)) (show (σ.1 16) ≤ (τ_9.1 16) from by (first | omega | (simp only [st_s] <;> omega) | assumption | omega | fail)) (show ∀ k : Int, 0 ≤ k → k < (τ_9.1 25) → τ_9.2.1 39 k < (τ_9.1 22) from PK) (show x12 = -1 ∨ x12 < (σ.1 22) from by (first | exact i90_15 | omega | fail))
              ·
                refine ⟨_, K_X13_isMandatory hT (show 0 ≤ (τ_9.1 22) from by (first | omega | (simp only [st_s] <;> omega) | assumption | omega | fail)) (show (τ_9.1 22) < 1500 from by (first | omega | (simp only [st_s] <;> omega) | assumption | omega | fail)) (show τ_9.2.1 18 (τ_9.1 22) + τ_9.2.1 19 (τ_9.1 22) ≤ 90100 from by (first | omega | (simp only [st_s] <;> omega) | assumption | omega | fail)), ?_⟩
                intro x16 r_x16 hq
                have q15_1 := hq
                replace q15_1 : 0 ≤ x16 ∧ x16 ≤ 1 := q15_1
                refine ⟨fun c18 => ?_, fun c18 => ?_⟩
                ·
                  exact l_90 ((301 - 0 : Int).toNat + 1) _ _ _ _ (show (301 - 0 : Int) < (((301 - 0 : Int).toNat + 1 : Nat) : Int) from by ((first | omega | (simp only [st_s] <;> omega) | assumption | omega | fail))) hT (show τ_9.1 0 = σ.1 0 from by first | exact W0 | omega) (show τ_9.1 22 = σ.1 22 from by first | exact W22 | omega) G0 G6 G7 G18 G19 (show (τ_9.1 16) ≤ (τ_9.1 0) from by (first | omega | (simp only [st_s] <;> omega) | assumption | omega | fail)) (show (τ_9.1 17) + (τ_9.1 18) ≤ (τ_9.1 0) from by (first | omega | (simp only [st_s] <;> omega) | assumption | omega | fail)) (show oc (τ_9.2.1 6) < 4096 from by (first | omega | (simp only [st_s] <;> omega) | assumption | omega | fail)) (show oc (τ_9.2.1 7) < 4096 from by (first | omega | (simp only [st_s] <;> omega) | assumption | omega | fail)) (show ¬ (σ.1 20) = 0 → (τ_9.1 20) = (σ.1 20) from by (first | omega | (simp only [st_s] <;> omega) | assumption | omega | fail)) (show -1 ≤ x12 ∧ x12 ≤ 1499 from by (first | omega | (simp only [st_s] <;> omega) | assumption | omega | fail)) (show 0 ≤ 0 ∧ 0 ≤ 1 from by (first | omega | (simp only [st_s] <;> omega) | assumption | omega | fail)) (show 0 ≤ 0 from by (first | omega | (simp only [st_s] <;> omega) | assumption | omega | fail)) (show 0 ≤ 300 from by (first | omega | (simp only [st_s] <;> omega) | assumption | omega | fail)) (show (τ_9.1 20) = 0 from by (first | omega | (simp only [st_s] <;> omega) | assumption | omega | fail)) (show (τ_9.1 19) = 1 from by (first | omega | (simp only [st_s] <;> omega) | assumption | omega | fail)) (show 3 * ((τ_9.1 0) - (τ_9.1 16)) + z_0 ((τ_9.1 20)) + 1 - z_0 ((τ_9.1 19)) ≤ (m_9 : Int) from by (first | omega | (simp only [st_s] <;> omega) | assumption | omega | fail)) (show (σ.1 16) ≤ (τ_9.1 16) from by (first | omega | (simp only [st_s] <;> omega) | assumption | omega | fail)) (show ∀ k : Int, 0 ≤ k → k < (τ_9.1 25) → τ_9.2.1 39 k < (τ_9.1 22) from PK) (show x12 = -1 ∨ x12 < (σ.1 22) from by (first | exact i90_15 | omega | fail))
                ·
                  exact l_90 ((301 - 0 : Int).toNat + 1) _ _ _ _ (show (301 - 0 : Int) < (((301 - 0 : Int).toNat + 1 : Nat) : Int) from by ((first | omega | (simp only [st_s] <;> omega) | assumption | omega | fail))) hT (show τ_9.1 0 = σ.1 0 from by first | exact W0 | omega) (show τ_9.1 22 = σ.1 22 from by first | exact W22 | omega) G0 G6 G7 G18 G19 (show (τ_9.1 16) ≤ (τ_9.1 0) from by (first | omega | (simp only [st_s] <;> omega) | assumption | omega | fail)) (show (τ_9.1 17) + (τ_9.1 18) ≤ (τ_9.1 0) from by (first | omega | (simp only [st_s] <;> omega) | assumption | omega | fail)) (show oc (τ_9.2.1 6) < 4096 from by (first | omega | (simp only [st_s] <;> omega) | assumption | omega | fail)) (show oc (τ_9.2.1 7) < 4096 from by (first | omega | (simp only [st_s] <;> omega) | assumption | omega | fail)) (show ¬ (σ.1 20) = 0 → (τ_9.1 20) = (σ.1 20) from by (first | omega | (simp only [st_s] <;> omega) | assumption | omega | fail)) (show -1 ≤ x12 ∧ x12 ≤ 1499 from by (first | omega | (simp only [st_s] <;> omega) | assumption | omega | fail)) (show 0 ≤ 1 ∧ 1 ≤ 1 from by (first | omega | (simp only [st_s] <;> omega) | assumption | omega | fail)) (show 0 ≤ 0 from by (first | omega | (simp only [st_s] <;> omega) | assumption | omega | fail)) (show 0 ≤ 300 from by (first | omega | (simp only [st_s] <;> omega) | assumption | omega | fail)) (show (τ_9.1 20) = 0 from by (first | omega | (simp only [st_s] <;> omega) | assumption | omega | fail)) (show (τ_9.1 19) = 1 from by (first | omega | (simp only [st_s] <;> omega) | assumption | omega | fail)) (show 3 * ((τ_9.1 0) - (τ_9.1 16)) + z_0 ((τ_9.1 20)) + 1 - z_0 ((τ_9.1 19)) ≤ (m_9 : Int) from by (first | omega | (simp only [st_s] <;> omega) | assumption | omega | fail)) (show (σ.1 16) ≤ (τ_9.1 16) from by (first | omega | (simp only [st_s] <;> omega) | assumption | omega | fail)) (show ∀ k : Int, 0 ≤ k → k < (τ_9.1 25) → τ_9.2.1 39 k < (τ_9.1 22) from PK) (show x12 = -1 ∨ x12 < (σ.1 22) from by (first | exact i90_15 | omega | fail))
            ·
              refine ⟨_, K_X13_failHere hT (show 0 ≤ (4 : Int) from by (first | omega | (simp only [st_s] <;> omega) | assumption | omega | fail)) (show (4 : Int) ≤ 19 from by (first | omega | (simp only [st_s] <;> omega) | assumption | omega | fail)), ?_⟩
              intro τ21 hn_τ21 hf_τ21 hq
              obtain ⟨hT, q19_1, q19_2⟩ := hq
              replace q19_1 : ¬ (τ_9.1 20) = 0 → (τ21.1 20) = (τ_9.1 20) := q19_1
              replace q19_2 : (τ_9.1 20) = 0 → (τ21.1 20) = (4 : Int) := q19_2
              have w0_τ21 : τ21.1 0 = τ_9.1 0 := hf_τ21.1 0 (by decide)
              have w16_τ21 : τ21.1 16 = τ_9.1 16 := hf_τ21.1 16 (by decide)
              have w17_τ21 : τ21.1 17 = τ_9.1 17 := hf_τ21.1 17 (by decide)
              have w18_τ21 : τ21.1 18 = τ_9.1 18 := hf_τ21.1 18 (by decide)
              have w19_τ21 : τ21.1 19 = τ_9.1 19 := hf_τ21.1 19 (by decide)
              have w22_τ21 : τ21.1 22 = τ_9.1 22 := hf_τ21.1 22 (by decide)
              have w25_τ21 : τ21.1 25 = τ_9.1 25 := hf_τ21.1 25 (by decide)
              have g0_τ21 : τ21.2.1 0 = τ_9.2.1 0 := hf_τ21.2.1 0 (by decide)
              have g6_τ21 : τ21.2.1 6 = τ_9.2.1 6 := hf_τ21.2.1 6 (by decide)
              have g7_τ21 : τ21.2.1 7 = τ_9.2.1 7 := hf_τ21.2.1 7 (by decide)
              have g18_τ21 : τ21.2.1 18 = τ_9.2.1 18 := hf_τ21.2.1 18 (by decide)
              have g19_τ21 : τ21.2.1 19 = τ_9.2.1 19 := hf_τ21.2.1 19 (by decide)
              have g39_τ21 : τ21.2.1 39 = τ_9.2.1 39 := hf_τ21.2.1 39 (by decide)
              first | (have o6_τ21 := congrArg oc g6_τ21) | skip
              first | (have o7_τ21 := congrArg oc g7_τ21) | skip
              have W0 : τ21.1 0 = σ.1 0 := by first | exact w0_τ21.trans W0 | omega
              have W22 : τ21.1 22 = σ.1 22 := by first | exact w22_τ21.trans W22 | omega
              have G0 : τ21.2.1 0 = σ.2.1 0 := (g0_τ21).trans G0
              have G6 : τ21.2.1 6 = σ.2.1 6 := (g6_τ21).trans G6
              have G7 : τ21.2.1 7 = σ.2.1 7 := (g7_τ21).trans G7
              have G18 : τ21.2.1 18 = σ.2.1 18 := (g18_τ21).trans G18
              have G19 : τ21.2.1 19 = σ.2.1 19 := (g19_τ21).trans G19
              have y0_17_τ21 : τ21.2.1 0 (τ21.1 17) = (τ_9.2.1 0) (τ_9.1 17) := by rw [g0_τ21, w17_τ21]
              have y18_22_τ21 : τ21.2.1 18 (τ21.1 22) = (τ_9.2.1 18) (τ_9.1 22) := by rw [g18_τ21, w22_τ21]
              have y19_22_τ21 : τ21.2.1 19 (τ21.1 22) = (τ_9.2.1 19) (τ_9.1 22) := by rw [g19_τ21, w22_τ21]
              have PK : ∀ k : Int, 0 ≤ k → k < (τ21.1 25) → τ21.2.1 39 k < (τ21.1 22) := by rw [show (∀ k : Int, 0 ≤ k → k < (τ21.1 25) → τ21.2.1 39 k < (τ21.1 22)) = (∀ k : Int, 0 ≤ k → k < (τ_9.1 25) → τ_9.2.1 39 k < (τ_9.1 22)) from by rw [w22_τ21, w25_τ21, g39_τ21]]; exact PK
              have A0 : ∀ j, 0 ≤ τ21.2.1 0 j ∧ τ21.2.1 0 j ≤ 255 := fun j => hT.2 0 j
              have A6 : ∀ j, (-1) ≤ τ21.2.1 6 j ∧ τ21.2.1 6 j ≤ 999 := fun j => hT.2 6 j
              have A7 : ∀ j, (-1) ≤ τ21.2.1 7 j ∧ τ21.2.1 7 j ≤ 1499 := fun j => hT.2 7 j
              have A18 : ∀ j, 0 ≤ τ21.2.1 18 j ∧ τ21.2.1 18 j ≤ 90000 := fun j => hT.2 18 j
              have A19 : ∀ j, 0 ≤ τ21.2.1 19 j ∧ τ21.2.1 19 j ≤ 60 := fun j => hT.2 19 j
              have A39 : ∀ j, 0 ≤ τ21.2.1 39 j ∧ τ21.2.1 39 j ≤ 1499 := fun j => hT.2 39 j
              have v0 : 0 ≤ τ21.1 0 ∧ τ21.1 0 ≤ 60000 := hT.1 0
              have v16 : 0 ≤ τ21.1 16 ∧ τ21.1 16 ≤ 60000 := hT.1 16
              have v17 : 0 ≤ τ21.1 17 ∧ τ21.1 17 ≤ 60000 := hT.1 17
              have v18 : 0 ≤ τ21.1 18 ∧ τ21.1 18 ≤ 60000 := hT.1 18
              have v19 : (-1) ≤ τ21.1 19 ∧ τ21.1 19 ≤ 125 := hT.1 19
              have v20 : 0 ≤ τ21.1 20 ∧ τ21.1 20 ≤ 19 := hT.1 20
              have v22 : 0 ≤ τ21.1 22 ∧ τ21.1 22 ≤ 1499 := hT.1 22
              have v25 : 0 ≤ τ21.1 25 ∧ τ21.1 25 ≤ 300 := hT.1 25
              have a0_17 : 0 ≤ τ21.2.1 0 (τ21.1 17) ∧ τ21.2.1 0 (τ21.1 17) ≤ 255 := hT.2 0 _
              have a18_22 : 0 ≤ τ21.2.1 18 (τ21.1 22) ∧ τ21.2.1 18 (τ21.1 22) ≤ 90000 := hT.2 18 _
              have a19_22 : 0 ≤ τ21.2.1 19 (τ21.1 22) ∧ τ21.2.1 19 (τ21.1 22) ≤ 60 := hT.2 19 _
              exact ⟨hT, (show (τ21.1 16) ≤ (τ21.1 0) from by (first | omega | (simp only [st_s] <;> omega) | assumption | omega | fail)), (show (τ21.1 17) + (τ21.1 18) ≤ (τ21.1 0) from by (first | omega | (simp only [st_s] <;> omega) | assumption | omega | fail)), (show ¬ (σ.1 20) = 0 → (τ21.1 20) = (σ.1 20) from by (first | omega | (simp only [st_s] <;> omega) | assumption | omega | fail)), (show oc (τ21.2.1 6) < 4096 from by (first | omega | (simp only [st_s] <;> omega) | assumption | omega | fail)), (show oc (τ21.2.1 7) < 4096 from by (first | omega | (simp only [st_s] <;> omega) | assumption | omega | fail)), (show (σ.1 16) ≤ (τ21.1 16) from by (first | omega | (simp only [st_s] <;> omega) | assumption | omega | fail)), (show ∀ k : Int, 0 ≤ k → k < (τ21.1 25) → τ21.2.1 39 k < (τ21.1 22) from PK)⟩
          ·
            refine ⟨(show 0 ≤ τ_9.1 17 ∧ τ_9.1 17 < 60000 from by (first | omega | (simp only [st_s] <;> omega) | assumption | omega | fail)), ?_⟩
            intro x8 r_x8 e_x8
            have b_x8 : 0 ≤ x8 ∧ x8 ≤ 255 := by rw [e_x8]; exact hT.2 0 _
            refine ⟨fun c9 => ?_, fun c9 => ?_⟩
            ·
              exact ⟨hT, (show (τ_9.1 16) ≤ (τ_9.1 0) from by (first | omega | (simp only [st_s] <;> omega) | assumption | omega | fail)), (show (τ_9.1 17) + (τ_9.1 18) ≤ (τ_9.1 0) from by (first | omega | (simp only [st_s] <;> omega) | assumption | omega | fail)), (show ¬ (σ.1 20) = 0 → (τ_9.1 20) = (σ.1 20) from by (first | omega | (simp only [st_s] <;> omega) | assumption | omega | fail)), (show oc (τ_9.2.1 6) < 4096 from by (first | omega | (simp only [st_s] <;> omega) | assumption | omega | fail)), (show oc (τ_9.2.1 7) < 4096 from by (first | omega | (simp only [st_s] <;> omega) | assumption | omega | fail)), (show (σ.1 16) ≤ (τ_9.1 16) from by (first | omega | (simp only [st_s] <;> omega) | assumption | omega | fail)), (show ∀ k : Int, 0 ≤ k → k < (τ_9.1 25) → τ_9.2.1 39 k < (τ_9.1 22) from PK)⟩
            ·
              refine h46 _ ?_
              refine ⟨fun c10 => ?_, fun c10 => ?_⟩
              ·
                refine ⟨_, K_X13_stepHere hT (show (τ_9.1 17) + (τ_9.1 18) ≤ (τ_9.1 0) from by (first | omega | (simp only [st_s] <;> omega) | assumption | omega | fail)) (show oc (τ_9.2.1 7) < 4096 from by (first | omega | (simp only [st_s] <;> omega) | assumption | omega | fail)), ?_⟩
                intro x12 r_x12 hq
                obtain ⟨q11_1, q11_2⟩ := hq
                replace q11_1 : -1 ≤ x12 ∧ x12 < (τ_9.1 22) ∨ x12 = -1 := q11_1
                replace q11_2 : -1 ≤ x12 ∧ x12 ≤ 1499 := q11_2
                refine ⟨fun c14 => ?_, fun c14 => ?_⟩
                ·
                  exact l_90 ((301 - 0 : Int).toNat + 1) _ _ _ _ (show (301 - 0 : Int) < (((301 - 0 : Int).toNat + 1 : Nat) : Int) from by ((first | omega | (simp only [st_s] <;> omega) | assumption | omega | fail))) hT (show τ_9.1 0 = σ.1 0 from by first | exact W0 | omega) (show τ_9.1 22 = σ.1 22 from by first | exact W22 | omega) G0 G6 G7 G18 G19 (show (τ_9.1 16) ≤ (τ_9.1 0) from by (first | omega | (simp only [st_s] <;> omega) | assumption | omega | fail)) (show (τ_9.1 17) + (τ_9.1 18) ≤ (τ_9.1 0) from by (first | omega | (simp only [st_s] <;> omega) | assumption | omega | fail)) (show oc (τ_9.2.1 6) < 4096 from by (first | omega | (simp only [st_s] <;> omega) | assumption | omega | fail)) (show oc (τ_9.2.1 7) < 4096 from by (first | omega | (simp only [st_s] <;> omega) | assumption | omega | fail)) (show ¬ (σ.1 20) = 0 → (τ_9.1 20) = (σ.1 20) from by (first | omega | (simp only [st_s] <;> omega) | assumption | omega | fail)) (show -1 ≤ x12 ∧ x12 ≤ 1499 from by (first | omega | (simp only [st_s] <;> omega) | assumption | omega | fail)) (show 0 ≤ 0 ∧ 0 ≤ 1 from by (first | omega | (simp only [st_s] <;> omega) | assumption | omega | fail)) (show 0 ≤ 0 from by (first | omega | (simp only [st_s] <;> omega) | assumption | omega | fail)) (show 0 ≤ 300 from by (first | omega | (simp only [st_s] <;> omega) | assumption | omega | fail)) (show (τ_9.1 20) = 0 from by (first | omega | (simp only [st_s] <;> omega) | assumption | omega | fail)) (show (τ_9.1 19) = 1 from by (first | omega | (simp only [st_s] <;> omega) | assumption | omega | fail)) (show 3 * ((τ_9.1 0) - (τ_9.1 16)) + z_0 ((τ_9.1 20)) + 1 - z_0 ((τ_9.1 19)) ≤ (m_9 : Int) from by (first | omega | (simp only [st_s] <;> omega) | assumption | omega | fail)) (show (σ.1 16) ≤ (τ_9.1 16) from by (first | omega | (simp only [st_s] <;> omega) | assumption | omega | fail)) (show ∀ k : Int, 0 ≤ k → k < (τ_9.1 25) → τ_9.2.1 39 k < (τ_9.1 22) from PK) (show x12 = -1 ∨ x12 < (σ.1 22) from by (first | exact i90_15 | omega | fail))
                ·
                  refine ⟨_, K_X13_isMandatory hT (show 0 ≤ (τ_9.1 22) from by (first | omega | (simp only [st_s] <;> omega) | assumption | omega | fail)) (show (τ_9.1 22) < 1500 from by (first | omega | (simp only [st_s] <;> omega) | assumption | omega | fail)) (show τ_9.2.1 18 (τ_9.1 22) + τ_9.2.1 19 (τ_9.1 22) ≤ 90100 from by (first | omega | (simp only [st_s] <;> omega) | assumption | omega | fail)), ?_⟩
                  intro x16 r_x16 hq
                  have q15_1 := hq
                  replace q15_1 : 0 ≤ x16 ∧ x16 ≤ 1 := q15_1
                  refine ⟨fun c18 => ?_, fun c18 => ?_⟩
                  ·
                    exact l_90 ((301 - 0 : Int).toNat + 1) _ _ _ _ (show (301 - 0 : Int) < (((301 - 0 : Int).toNat + 1 : Nat) : Int) from by ((first | omega | (simp only [st_s] <;> omega) | assumption | omega | fail))) hT (show τ_9.1 0 = σ.1 0 from by first | exact W0 | omega) (show τ_9.1 22 = σ.1 22 from by first | exact W22 | omega) G0 G6 G7 G18 G19 (show (τ_9.1 16) ≤ (τ_9.1 0) from by (first | omega | (simp only [st_s] <;> omega) | assumption | omega | fail)) (show (τ_9.1 17) + (τ_9.1 18) ≤ (τ_9.1 0) from by (first | omega | (simp only [st_s] <;> omega) | assumption | omega | fail)) (show oc (τ_9.2.1 6) < 4096 from by (first | omega | (simp only [st_s] <;> omega) | assumption | omega | fail)) (show oc (τ_9.2.1 7) < 4096 from by (first | omega | (simp only [st_s] <;> omega) | assumption | omega | fail)) (show ¬ (σ.1 20) = 0 → (τ_9.1 20) = (σ.1 20) from by (first | omega | (simp only [st_s] <;> omega) | assumption | omega | fail)) (show -1 ≤ x12 ∧ x12 ≤ 1499 from by (first | omega | (simp only [st_s] <;> omega) | assumption | omega | fail)) (show 0 ≤ 0 ∧ 0 ≤ 1 from by (first | omega | (simp only [st_s] <;> omega) | assumption | omega | fail)) (show 0 ≤ 0 from by (first | omega | (simp only [st_s] <;> omega) | assumption | omega | fail)) (show 0 ≤ 300 from by (first | omega | (simp only [st_s] <;> omega) | assumption | omega | fail)) (show (τ_9.1 20) = 0 from by (first | omega | (simp only [st_s] <;> omega) | assumption | omega | fail)) (show (τ_9.1 19) = 1 from by (first | omega | (simp only [st_s] <;> omega) | assumption | omega | fail)) (show 3 * ((τ_9.1 0) - (τ_9.1 16)) + z_0 ((τ_9.1 20)) + 1 - z_0 ((τ_9.1 19)) ≤ (m_9 : Int) from by (first | omega | (simp only [st_s] <;> omega) | assumption | omega | fail)) (show (σ.1 16) ≤ (τ_9.1 16) from by (first | omega | (simp only [st_s] <;> omega) | assumption | omega | fail)) (show ∀ k : Int, 0 ≤ k → k < (τ_9.1 25) → τ_9.2.1 39 k < (τ_9.1 22) from PK) (show x12 = -1 ∨ x12 < (σ.1 22) from by (first | exact i90_15 | omega | fail))
                  ·
                    exact l_90 ((301 - 0 : Int).toNat + 1) _ _ _ _ (show (301 - 0 : Int) < (((301 - 0 : Int).toNat + 1 : Nat) : Int) from by ((first | omega | (simp only [st_s] <;> omega) | assumption | omega | fail))) hT (show τ_9.1 0 = σ.1 0 from by first | exact W0 | omega) (show τ_9.1 22 = σ.1 22 from by first | exact W22 | omega) G0 G6 G7 G18 G19 (show (τ_9.1 16) ≤ (τ_9.1 0) from by (first | omega | (simp only [st_s] <;> omega) | assumption | omega | fail)) (show (τ_9.1 17) + (τ_9.1 18) ≤ (τ_9.1 0) from by (first | omega | (simp only [st_s] <;> omega) | assumption | omega | fail)) (show oc (τ_9.2.1 6) < 4096 from by (first | omega | (simp only [st_s] <;> omega) | assumption | omega | fail)) (show oc (τ_9.2.1 7) < 4096 from by (first | omega | (simp only [st_s] <;> omega) | assumption | omega | fail)) (show ¬ (σ.1 20) = 0 → (τ_9.1 20) = (σ.1 20) from by (first | omega | (simp only [st_s] <;> omega) | assumption | omega | fail)) (show -1 ≤ x12 ∧ x12 ≤ 1499 from by (first | omega | (simp only [st_s] <;> omega) | assumption | omega | fail)) (show 0 ≤ 1 ∧ 1 ≤ 1 from by (first | omega | (simp only [st_s] <;> omega) | assumption | omega | fail)) (show 0 ≤ 0 from by (first | omega | (simp only [st_s] <;> omega) | assumption | omega | fail)) (show 0 ≤ 300 from by (first | omega | (simp only [st_s] <;> omega) | assumption | omega | fail)) (show (τ_9.1 20) = 0 from by (first | omega | (simp only [st_s] <;> omega) | assumption | omega | fail)) (show (τ_9.1 19) = 1 from by (first | omega | (simp only [st_s] <;> omega) | assumption | omega | fail)) (show 3 * ((τ_9.1 0) - (τ_9.1 16)) + z_0 ((τ_9.1 20)) + 1 - z_0 ((τ_9.1 19)) ≤ (m_9 : Int) from by (first | omega | (simp only [st_s] <;> omega) | assumption | omega | fail)) (show (σ.1 16) ≤ (τ_9.1 16) from by (first | omega | (simp only [st_s] <;> omega) | assumption | omega | fail)) (show ∀ k : Int, 0 ≤ k → k < (τ_9.1 25) → τ_9.2.1 39 k < (τ_9.1 22) from PK) (show x12 = -1 ∨ x12 < (σ.1 22) from by (first | exact i90_15 | omega | fail))
              ·
                refine ⟨_, K_X13_failHere hT (show 0 ≤ (4 : Int) from by (first | omega | (simp only [st_s] <;> omega) | assumption | omega | fail)) (show (4 : Int) ≤ 19 from by (first | omega | (simp only [st_s] <;> omega) | assumption | omega | fail)), ?_⟩
                intro τ21 hn_τ21 hf_τ21 hq
                obtain ⟨hT, q19_1, q19_2⟩ := hq
                replace q19_1 : ¬ (τ_9.1 20) = 0 → (τ21.1 20) = (τ_9.1 20) := q19_1
                replace q19_2 : (τ_9.1 20) = 0 → (τ21.1 20) = (4 : Int) := q19_2
                have w0_τ21 : τ21.1 0 = τ_9.1 0 := hf_τ21.1 0 (by decide)
                have w16_τ21 : τ21.1 16 = τ_9.1 16 := hf_τ21.1 16 (by decide)
                have w17_τ21 : τ21.1 17 = τ_9.1 17 := hf_τ21.1 17 (by decide)
                have w18_τ21 : τ21.1 18 = τ_9.1 18 := hf_τ21.1 18 (by decide)
                have w19_τ21 : τ21.1 19 = τ_9.1 19 := hf_τ21.1 19 (by decide)
                have w22_τ21 : τ21.1 22 = τ_9.1 22 := hf_τ21.1 22 (by decide)
                have w25_τ21 : τ21.1 25 = τ_9.1 25 := hf_τ21.1 25 (by decide)
                have g0_τ21 : τ21.2.1 0 = τ_9.2.1 0 := hf_τ21.2.1 0 (by decide)
                have g6_τ21 : τ21.2.1 6 = τ_9.2.1 6 := hf_τ21.2.1 6 (by decide)
                have g7_τ21 : τ21.2.1 7 = τ_9.2.1 7 := hf_τ21.2.1 7 (by decide)
                have g18_τ21 : τ21.2.1 18 = τ_9.2.1 18 := hf_τ21.2.1 18 (by decide)
                have g19_τ21 : τ21.2.1 19 = τ_9.2.1 19 := hf_τ21.2.1 19 (by decide)
                have g39_τ21 : τ21.2.1 39 = τ_9.2.1 39 := hf_τ21.2.1 39 (by decide)
                first | (have o6_τ21 := congrArg oc g6_τ21) | skip
                first | (have o7_τ21 := congrArg oc g7_τ21) | skip
                have W0 : τ21.1 0 = σ.1 0 := by first | exact w0_τ21.trans W0 | omega
                have W22 : τ21.1 22 = σ.1 22 := by first | exact w22_τ21.trans W22 | omega
                have G0 : τ21.2.1 0 = σ.2.1 0 := (g0_τ21).trans G0
                have G6 : τ21.2.1 6 = σ.2.1 6 := (g6_τ21).trans G6
                have G7 : τ21.2.1 7 = σ.2.1 7 := (g7_τ21).trans G7
                have G18 : τ21.2.1 18 = σ.2.1 18 := (g18_τ21).trans G18
                have G19 : τ21.2.1 19 = σ.2.1 19 := (g19_τ21).trans G19
                have y0_17_τ21 : τ21.2.1 0 (τ21.1 17) = (τ_9.2.1 0) (τ_9.1 17) := by rw [g0_τ21, w17_τ21]
                have y18_22_τ21 : τ21.2.1 18 (τ21.1 22) = (τ_9.2.1 18) (τ_9.1 22) := by rw [g18_τ21, w22_τ21]
                have y19_22_τ21 : τ21.2.1 19 (τ21.1 22) = (τ_9.2.1 19) (τ_9.1 22) := by rw [g19_τ21, w22_τ21]
                have PK : ∀ k : Int, 0 ≤ k → k < (τ21.1 25) → τ21.2.1 39 k < (τ21.1 22) := by rw [show (∀ k : Int, 0 ≤ k → k < (τ21.1 25) → τ21.2.1 39 k < (τ21.1 22)) = (∀ k : Int, 0 ≤ k → k < (τ_9.1 25) → τ_9.2.1 39 k < (τ_9.1 22)) from by rw [w22_τ21, w25_τ21, g39_τ21]]; exact PK
                have A0 : ∀ j, 0 ≤ τ21.2.1 0 j ∧ τ21.2.1 0 j ≤ 255 := fun j => hT.2 0 j
                have A6 : ∀ j, (-1) ≤ τ21.2.1 6 j ∧ τ21.2.1 6 j ≤ 999 := fun j => hT.2 6 j
                have A7 : ∀ j, (-1) ≤ τ21.2.1 7 j ∧ τ21.2.1 7 j ≤ 1499 := fun j => hT.2 7 j
                have A18 : ∀ j, 0 ≤ τ21.2.1 18 j ∧ τ21.2.1 18 j ≤ 90000 := fun j => hT.2 18 j
                have A19 : ∀ j, 0 ≤ τ21.2.1 19 j ∧ τ21.2.1 19 j ≤ 60 := fun j => hT.2 19 j
                have A39 : ∀ j, 0 ≤ τ21.2.1 39 j ∧ τ21.2.1 39 j ≤ 1499 := fun j => hT.2 39 j
                have v0 : 0 ≤ τ21.1 0 ∧ τ21.1 0 ≤ 60000 := hT.1 0
                have v16 : 0 ≤ τ21.1 16 ∧ τ21.1 16 ≤ 60000 := hT.1 16
                have v17 : 0 ≤ τ21.1 17 ∧ τ21.1 17 ≤ 60000 := hT.1 17
                have v18 : 0 ≤ τ21.1 18 ∧ τ21.1 18 ≤ 60000 := hT.1 18
                have v19 : (-1) ≤ τ21.1 19 ∧ τ21.1 19 ≤ 125 := hT.1 19
                have v20 : 0 ≤ τ21.1 20 ∧ τ21.1 20 ≤ 19 := hT.1 20
                have v22 : 0 ≤ τ21.1 22 ∧ τ21.1 22 ≤ 1499 := hT.1 22
                have v25 : 0 ≤ τ21.1 25 ∧ τ21.1 25 ≤ 300 := hT.1 25
                have a0_17 : 0 ≤ τ21.2.1 0 (τ21.1 17) ∧ τ21.2.1 0 (τ21.1 17) ≤ 255 := hT.2 0 _
                have a18_22 : 0 ≤ τ21.2.1 18 (τ21.1 22) ∧ τ21.2.1 18 (τ21.1 22) ≤ 90000 := hT.2 18 _
                have a19_22 : 0 ≤ τ21.2.1 19 (τ21.1 22) ∧ τ21.2.1 19 (τ21.1 22) ≤ 60 := hT.2 19 _
                exact ⟨hT, (show (τ21.1 16) ≤ (τ21.1 0) from by (first | omega | (simp only [st_s] <;> omega) | assumption | omega | fail)), (show (τ21.1 17) + (τ21.1 18) ≤ (τ21.1 0) from by (first | omega | (simp only [st_s] <;> omega) | assumption | omega | fail)), (show ¬ (σ.1 20) = 0 → (τ21.1 20) = (σ.1 20) from by (first | omega | (simp only [st_s] <;> omega) | assumption | omega | fail)), (show oc (τ21.2.1 6) < 4096 from by (first | omega | (simp only [st_s] <;> omega) | assumption | omega | fail)), (show oc (τ21.2.1 7) < 4096 from by (first | omega | (simp only [st_s] <;> omega) | assumption | omega | fail)), (show (σ.1 16) ≤ (τ21.1 16) from by (first | omega | (simp only [st_s] <;> omega) | assumption | omega | fail)), (show ∀ k : Int, 0 ≤ k → k < (τ21.1 25) → τ21.2.1 39 k < (τ21.1 22) from PK)⟩
  replace hT := mT_v (i := 25) hT (show (0 : Int) ≤ 0 ∧ 0 ≤ 300 from by (first | omega | (simp only [st_s] <;> omega) | assumption | omega | fail))
  refine ⟨_, K_X13_next hT (show (σ.1 16) ≤ (σ.1 0) from by (first | omega | (simp only [st_s] <;> omega) | assumption | omega | fail)), ?_⟩
  intro τ3 hn_τ3 hf_τ3 hq
  obtain ⟨hT, q1_1, q1_2, q1_3, q1_4, q1_5⟩ := hq
  replace q1_1 : (τ3.1 16) ≤ (τ3.1 0) := q1_1
  replace q1_2 : (τ3.1 17) + (τ3.1 18) ≤ (τ3.1 0) := q1_2
  replace q1_3 : (σ.1 16) ≤ (τ3.1 16) := q1_3
  replace q1_4 : ¬ (σ.1 20) = 0 → (τ3.1 20) = (σ.1 20) := q1_4
  replace q1_5 : (τ3.1 20) = 0 → ¬ (τ3.1 19) = 0 → (σ.1 16) < (τ3.1 16) ∧ 0 < (τ3.1 18) := q1_5
  have w0_τ3 : τ3.1 0 = σ.1 0 := hf_τ3.1 0 (by decide)
  have w22_τ3 : τ3.1 22 = σ.1 22 := hf_τ3.1 22 (by decide)
  have w25_τ3 : τ3.1 25 = 0 := hf_τ3.1 25 (by decide)
  have g0_τ3 : τ3.2.1 0 = σ.2.1 0 := hf_τ3.2.1 0 (by decide)
  have g6_τ3 : τ3.2.1 6 = σ.2.1 6 := hf_τ3.2.1 6 (by decide)
  have g7_τ3 : τ3.2.1 7 = σ.2.1 7 := hf_τ3.2.1 7 (by decide)
  have g18_τ3 : τ3.2.1 18 = σ.2.1 18 := hf_τ3.2.1 18 (by decide)
  have g19_τ3 : τ3.2.1 19 = σ.2.1 19 := hf_τ3.2.1 19 (by decide)
  have g39_τ3 : τ3.2.1 39 = σ.2.1 39 := hf_τ3.2.1 39 (by decide)
  first | (have o6_τ3 := congrArg oc g6_τ3) | skip
  first | (have o7_τ3 := congrArg oc g7_τ3) | skip
  have W0 : τ3.1 0 = σ.1 0 := by first | exact w0_τ3.trans W0 | omega
  have W22 : τ3.1 22 = σ.1 22 := by first | exact w22_τ3.trans W22 | omega
  have G0 : τ3.2.1 0 = σ.2.1 0 := (g0_τ3).trans G0
  have G6 : τ3.2.1 6 = σ.2.1 6 := (g6_τ3).trans G6
  have G7 : τ3.2.1 7 = σ.2.1 7 := (g7_τ3).trans G7
  have G18 : τ3.2.1 18 = σ.2.1 18 := (g18_τ3).trans G18
  have G19 : τ3.2.1 19 = σ.2.1 19 := (g19_τ3).trans G19
  have y18_22_τ3 : τ3.2.1 18 (τ3.1 22) = (σ.2.1 18) (σ.1 22) := by rw [g18_τ3, w22_τ3]
  have y19_22_τ3 : τ3.2.1 19 (τ3.1 22) = (σ.2.1 19) (σ.1 22) := by rw [g19_τ3, w22_τ3]
  have A0 : ∀ j, 0 ≤ τ3.2.1 0 j ∧ τ3.2.1 0 j ≤ 255 := fun j => hT.2 0 j
  have A6 : ∀ j, (-1) ≤ τ3.2.1 6 j ∧ τ3.2.1 6 j ≤ 999 := fun j => hT.2 6 j
  have A7 : ∀ j, (-1) ≤ τ3.2.1 7 j ∧ τ3.2.1 7 j ≤ 1499 := fun j => hT.2 7 j
  have A18 : ∀ j, 0 ≤ τ3.2.1 18 j ∧ τ3.2.1 18 j ≤ 90000 := fun j => hT.2 18 j
  have A19 : ∀ j, 0 ≤ τ3.2.1 19 j ∧ τ3.2.1 19 j ≤ 60 := fun j => hT.2 19 j
  have A39 : ∀ j, 0 ≤ τ3.2.1 39 j ∧ τ3.2.1 39 j ≤ 1499 := fun j => hT.2 39 j
  have v0 : 0 ≤ τ3.1 0 ∧ τ3.1 0 ≤ 60000 := hT.1 0
  have v16 : 0 ≤ τ3.1 16 ∧ τ3.1 16 ≤ 60000 := hT.1 16
  have v17 : 0 ≤ τ3.1 17 ∧ τ3.1 17 ≤ 60000 := hT.1 17
  have v18 : 0 ≤ τ3.1 18 ∧ τ3.1 18 ≤ 60000 := hT.1 18
  have v19 : (-1) ≤ τ3.1 19 ∧ τ3.1 19 ≤ 125 := hT.1 19
  have v20 : 0 ≤ τ3.1 20 ∧ τ3.1 20 ≤ 19 := hT.1 20
  have v22 : 0 ≤ τ3.1 22 ∧ τ3.1 22 ≤ 1499 := hT.1 22
  have v25 : 0 ≤ τ3.1 25 ∧ τ3.1 25 ≤ 300 := hT.1 25
  have a0_17 : 0 ≤ τ3.2.1 0 (τ3.1 17) ∧ τ3.2.1 0 (τ3.1 17) ≤ 255 := hT.2 0 _
  have a18_22 : 0 ≤ τ3.2.1 18 (τ3.1 22) ∧ τ3.2.1 18 (τ3.1 22) ≤ 90000 := hT.2 18 _
  have a19_22 : 0 ≤ τ3.2.1 19 (τ3.1 22) ∧ τ3.2.1 19 (τ3.1 22) ≤ 60 := hT.2 19 _
  exact l_9 ((3 * ((τ3.1 0) - (τ3.1 16)) + z_0 ((τ3.1 20)) + 1 - z_0 ((τ3.1 19)) : Int).toNat + 1) _ (show (3 * ((τ3.1 0) - (τ3.1 16)) + z_0 ((τ3.1 20)) + 1 - z_0 ((τ3.1 19)) : Int) < (((3 * ((τ3.1 0) - (τ3.1 16)) + z_0 ((τ3.1 20)) + 1 - z_0 ((τ3.1 19)) : Int).toNat + 1 : Nat) : Int) from by (have zz0 := z_e ((τ3.1 20)); have zz1 := z_e ((τ3.1 19)); (first | omega | (simp only [st_s] <;> omega) | assumption | omega | fail))) hT (show τ3.1 0 = σ.1 0 from by first | exact W0 | omega) (show τ3.1 22 = σ.1 22 from by first | exact W22 | omega) G0 G6 G7 G18 G19 (show (τ3.1 16) ≤ (τ3.1 0) from by (first | omega | (simp only [st_s] <;> omega) | assumption | omega | fail)) (show (τ3.1 17) + (τ3.1 18) ≤ (τ3.1 0) from by (first | omega | (simp only [st_s] <;> omega) | assumption | omega | fail)) (show oc (τ3.2.1 6) < 4096 from by (first | omega | (simp only [st_s] <;> omega) | assumption | omega | fail)) (show oc (τ3.2.1 7) < 4096 from by (first | omega | (simp only [st_s] <;> omega) | assumption | omega | fail)) (show ¬ (σ.1 20) = 0 → (τ3.1 20) = (σ.1 20) from by (first | omega | (simp only [st_s] <;> omega) | assumption | omega | fail)) (show (σ.1 16) ≤ (τ3.1 16) from by (first | omega | (simp only [st_s] <;> omega) | assumption | omega | fail)) (show ∀ k : Int, 0 ≤ k → k < (τ3.1 25) → τ3.2.1 39 k < (τ3.1 22) from by (first | assumption | (rw [w25_τ3, w22_τ3, g39_τ3]; intro k a b; exfalso; (have b2 : k < 0 := b); omega) | (rw [w25_τ30, w22_τ30, g39_τ30]; intro k a b; by_cases z : k = τ_90.1 25; (rw [z, st_s]; have := i90_15; omega); (rw [st_n _ _ z]; have b2 : k < τ_90.1 25 + 1 := b; exact i90_14 k a (by omega))) | (rw [w25_τ33, w22_τ33, g39_τ33]; exact i90_14) | (rw [w25_τ36, w22_τ36, g39_τ36]; exact i90_14) | (rw [w25_τ39, w22_τ39, g39_τ39]; exact i90_14) | fail))
set_option maxHeartbeats 4000000 in
theorem K3_X13_endNumber {n1 : Int} {n2 : Int} {σ : S0} (hT : m_T σ) (p1 : 1 ≤ n1) (p2 : n1 ≤ 200000000) (p3 : 0 ≤ n2) (p4 : n2 ≤ 60000) (p5 : (σ.1 22) = (σ.1 5)) (p6 : σ.2.1 25 (σ.1 22) + σ.2.1 26 (σ.1 22) = (σ.1 9)) (p7 : ca (σ.2.1 28) ((σ.1 9)) ≤ ca (σ.2.1 28) (σ.2.1 25 (σ.1 22)) + (σ.1 29)) (p8 : ¬ (σ.1 28) = 0 → σ.2.1 25 (σ.1 22) < (σ.1 9) ∧ σ.2.1 28 ((σ.1 9) - 1) = 0) (p9 : n_sp2 (σ.2.1 25 (σ.1 22)) (σ.1 9) (σ.1 22) (σ.2.1 27) (σ.2.1 28)) (p10 : (σ.1 29) + ca (σ.2.1 28) (σ.2.1 25 (σ.1 22)) ≤ ca (σ.2.1 28) (σ.1 9)) (p11 : ∀ k : Int, 0 ≤ k → k < (σ.1 25) → σ.2.1 39 k < (σ.1 22)) (p12 : ∀ k : Int, 0 ≤ k → k < σ.2.1 19 (σ.1 22) → σ.2.1 20 (σ.2.1 18 (σ.1 22) + k) < (σ.1 22)) (p13 : ¬ (σ.1 28) = 0 → 0 ≤ σ.2.1 27 ((σ.1 9) - 1)) : W_X13_endNumber n1 n2 σ (fun (τ : S0) => (m_T τ) ∧ (¬ (σ.1 20) = 0 → (τ.1 20) = (σ.1 20)) ∧ (τ.2.1 25 (τ.1 22) + τ.2.1 26 (τ.1 22) = (τ.1 9)) ∧ (ca (τ.2.1 28) ((τ.1 9)) ≤ ca (τ.2.1 28) (τ.2.1 25 (τ.1 22)) + (τ.1 29)) ∧ (¬ (τ.1 28) = 0 → τ.2.1 25 (τ.1 22) < (τ.1 9) ∧ τ.2.1 28 ((τ.1 9) - 1) = 0) ∧ (j_eq (σ.2.1 25 (σ.1 22)) (σ.2.1 28) (τ.2.1 28)) ∧ ((τ.1 26) = 0) ∧ (m_ag σ τ) ∧ (n_sp2 (τ.2.1 25 (τ.1 22)) (τ.1 9) (τ.1 22) (τ.2.1 27) (τ.2.1 28)) ∧ ((τ.1 29) + ca (τ.2.1 28) (τ.2.1 25 (τ.1 22)) ≤ ca (τ.2.1 28) (τ.1 9)) ∧ (¬ (τ.1 28) = 0 → 0 ≤ τ.2.1 27 ((τ.1 9) - 1))) := by
  have A18 : ∀ j, 0 ≤ σ.2.1 18 j ∧ σ.2.1 18 j ≤ 90000 := fun j => hT.2 18 j
  have A19 : ∀ j, 0 ≤ σ.2.1 19 j ∧ σ.2.1 19 j ≤ 60 := fun j => hT.2 19 j
  have A20 : ∀ j, 0 ≤ σ.2.1 20 j ∧ σ.2.1 20 j ≤ 1499 := fun j => hT.2 20 j
  have A25 : ∀ j, 0 ≤ σ.2.1 25 j ∧ σ.2.1 25 j ≤ 20000 := fun j => hT.2 25 j
  have A26 : ∀ j, 0 ≤ σ.2.1 26 j ∧ σ.2.1 26 j ≤ 20000 := fun j => hT.2 26 j
  have A27 : ∀ j, (-300) ≤ σ.2.1 27 j ∧ σ.2.1 27 j ≤ 1499 := fun j => hT.2 27 j
  have A28 : ∀ j, 0 ≤ σ.2.1 28 j ∧ σ.2.1 28 j ≤ 1 := fun j => hT.2 28 j
  have A39 : ∀ j, 0 ≤ σ.2.1 39 j ∧ σ.2.1 39 j ≤ 1499 := fun j => hT.2 39 j
  have v3 : 0 ≤ σ.1 3 ∧ σ.1 3 ≤ 1000 := hT.1 3
  have v5 : 0 ≤ σ.1 5 ∧ σ.1 5 ≤ 1500 := hT.1 5
  have v6 : 0 ≤ σ.1 6 ∧ σ.1 6 ≤ 30000 := hT.1 6
  have v7 : 0 ≤ σ.1 7 ∧ σ.1 7 ≤ 90000 := hT.1 7
  have v8 : 0 ≤ σ.1 8 ∧ σ.1 8 ≤ 20000 := hT.1 8
  have v9 : 0 ≤ σ.1 9 ∧ σ.1 9 ≤ 20000 := hT.1 9
  have v20 : 0 ≤ σ.1 20 ∧ σ.1 20 ≤ 19 := hT.1 20
  have v22 : 0 ≤ σ.1 22 ∧ σ.1 22 ≤ 1499 := hT.1 22
  have v25 : 0 ≤ σ.1 25 ∧ σ.1 25 ≤ 300 := hT.1 25
  have v26 : 0 ≤ σ.1 26 ∧ σ.1 26 ≤ 5000010 := hT.1 26
  have v28 : 0 ≤ σ.1 28 ∧ σ.1 28 ≤ 1 := hT.1 28
  have v29 : 0 ≤ σ.1 29 ∧ σ.1 29 ≤ 300 := hT.1 29
  have a18_22 : 0 ≤ σ.2.1 18 (σ.1 22) ∧ σ.2.1 18 (σ.1 22) ≤ 90000 := hT.2 18 _
  have a19_22 : 0 ≤ σ.2.1 19 (σ.1 22) ∧ σ.2.1 19 (σ.1 22) ≤ 60 := hT.2 19 _
  have a25_22 : 0 ≤ σ.2.1 25 (σ.1 22) ∧ σ.2.1 25 (σ.1 22) ≤ 20000 := hT.2 25 _
  have a26_22 : 0 ≤ σ.2.1 26 (σ.1 22) ∧ σ.2.1 26 (σ.1 22) ≤ 20000 := hT.2 26 _
  have a28_9 : 0 ≤ σ.2.1 28 (σ.1 9) ∧ σ.2.1 28 (σ.1 9) ≤ 1 := hT.2 28 _
  have W3 : σ.1 3 = σ.1 3 := rfl
  have W5 : σ.1 5 = σ.1 5 := rfl
  have W6 : σ.1 6 = σ.1 6 := rfl
  have W7 : σ.1 7 = σ.1 7 := rfl
  have W8 : σ.1 8 = σ.1 8 := rfl
  have W22 : σ.1 22 = σ.1 22 := rfl
  have W25 : σ.1 25 = σ.1 25 := rfl
  have W29 : σ.1 29 = σ.1 29 := rfl
  have G18 : σ.2.1 18 = σ.2.1 18 := rfl
  have G19 : σ.2.1 19 = σ.2.1 19 := rfl
  have G20 : σ.2.1 20 = σ.2.1 20 := rfl
  have G25 : σ.2.1 25 = σ.2.1 25 := rfl
  have G39 : σ.2.1 39 = σ.2.1 39 := rfl
  have ag : m_ag σ σ := ag_0 σ
  intro P31 P82 P162 P193 P196 h31 h82 h162 h193 h196
  have Y13 := j_eq0 (σ.2.1 25 (σ.1 22)) (σ.2.1 28)
  have Z4 : σ.2.1 25 (σ.1 22) + σ.2.1 26 (σ.1 22) = (σ.1 9) := p6
  have Y10 : ca (σ.2.1 28) ((σ.1 9)) ≤ ca (σ.2.1 28) (σ.2.1 25 (σ.1 22)) + (σ.1 29) := p7
  have Y12 : ¬ (σ.1 28) = 0 → σ.2.1 25 (σ.1 22) < (σ.1 9) ∧ σ.2.1 28 ((σ.1 9) - 1) = 0 := p8
  have NSP : n_sp2 (σ.2.1 25 (σ.1 22)) (σ.1 9) (σ.1 22) (σ.2.1 27) (σ.2.1 28) := p9
  have Y12c : ¬ (σ.1 28) = 0 → 0 ≤ σ.2.1 27 ((σ.1 9) - 1) := p13
  have PK : ∀ k : Int, 0 ≤ k → k < (σ.1 25) → σ.2.1 39 k < (σ.1 22) := p11
  have Y10b : (σ.1 29) + ca (σ.2.1 28) (σ.2.1 25 (σ.1 22)) ≤ ca (σ.2.1 28) (σ.1 9) := p10
  have HYN : ∀ k : Int, 0 ≤ k → k < σ.2.1 19 (σ.1 22) → σ.2.1 20 (σ.2.1 18 (σ.1 22) + k) < (σ.1 22) := p12
  have HYN_0 := HYN
  have NSP_0 := NSP
  have PK_0 := PK
  have Y10_0 := Y10
  have Y10b_0 := Y10b
  have Y12_0 := Y12
  have Y12c_0 := Y12c
  have Y13_0 := Y13
  have Z4_0 := Z4
  refine ⟨(show 0 ≤ σ.1 22 ∧ σ.1 22 < 1501 from by (first | omega | (simp only [st_s] <;> omega) | assumption | omega | fail)), ?_⟩
  intro x2 r_x2 e_x2
  have b_x2 : 0 ≤ x2 ∧ x2 ≤ 60 := by rw [e_x2]; exact hT.2 19 _
  refine ⟨(⟨by (first | omega | (simp only [st_s] <;> omega) | assumption | omega | fail), by (first | omega | (simp only [st_s] <;> omega) | assumption | omega | fail)⟩ : rg (n1 - 1)), ?_⟩
  refine ⟨(⟨by (first | omega | (simp only [st_s] <;> omega) | assumption | omega | fail), by (first | omega | (simp only [st_s] <;> omega) | assumption | omega | fail)⟩ : rg (x2 + σ.1 25)), ?_⟩
  refine ⟨fun c5 => ?_, fun c5 => ?_⟩
  ·
    refine h31 _ _ _ _ _ _ ?_
    refine ⟨fun c6 => ?_, fun c6 => ?_⟩
    ·
      refine ⟨(⟨by (first | omega | (simp only [st_s] <;> omega) | assumption | omega | fail), by (first | omega | (simp only [st_s] <;> omega) | assumption | omega | fail)⟩ : rg ((x2 + σ.1 25) + σ.1 29)), ?_⟩
      refine ⟨fun c8 => ?_, fun c8 => ?_⟩
      ·
        refine ⟨fun c9 => ?_, fun c9 => ?_⟩
        ·
          refine ⟨fun c10 => ?_, fun c10 => ?_⟩
          ·
            refine ⟨fun c11 => ?_, fun c11 => ?_⟩
            ·
              refine ⟨(show 0 ≤ ((n1 - 1) - x2) ∧ ((n1 - 1) - x2) < 300 from by (first | omega | (simp only [st_s] <;> omega) | assumption | omega | fail)), ?_⟩
              intro x13 r_x13 e_x13
              have b_x13 : 0 ≤ x13 ∧ x13 ≤ 1499 := by rw [e_x13]; exact hT.2 39 _
              refine h162 _ _ _ _ ?_
              have kn : x13 < σ.1 22 := by first | (rw [e_x13]; exact PK _ (by omega) (by omega)) | (rw [e_x17, e_x15]; exact HYN _ (by omega) (by omega)) | omega
              refine ⟨_, K_X13_addStep hT (show -300 ≤ x13 from by (first | omega | (simp only [st_s] <;> omega) | assumption | omega | fail)) (show x13 ≤ 1499 from by (first | omega | (simp only [st_s] <;> omega) | assumption | omega | fail)) (show 0 ≤ n2 from by (first | omega | (simp only [st_s] <;> omega) | assumption | omega | fail)) (show n2 ≤ 60000 from by (first | omega | (simp only [st_s] <;> omega) | assumption | omega | fail)) (show (σ.1 9) < 20000 from by (first | omega | (simp only [st_s] <;> omega) | assumption | omega | fail)) (show σ.2.1 26 (σ.1 22) < 20000 from by (first | omega | (simp only [st_s] <;> omega) | assumption | omega | fail)) (show (σ.1 22) = (σ.1 5) from by (first | omega | (simp only [st_s] <;> omega) | assumption | omega | fail)), ?_⟩
              intro τ28 hn_τ28 hf_τ28 hq
              obtain ⟨hT, q26_1, q26_2, q26_3, q26_4, q26_5, q26_6, q26_7⟩ := hq
              replace q26_1 : (τ28.1 9) = (σ.1 9) + 1 := q26_1
              replace q26_2 : τ28.2.1 26 (τ28.1 22) = σ.2.1 26 (σ.1 22) + 1 := q26_2
              replace q26_3 : τ28.2.1 27 = st (σ.2.1 27) (σ.1 9) x13 := q26_3
              replace q26_4 : j_eq ((σ.1 9)) (σ.2.1 28) (τ28.2.1 28) := q26_4
              replace q26_5 : ca (τ28.2.1 28) ((τ28.1 9)) = ca (σ.2.1 28) ((σ.1 9)) := q26_5
              replace q26_6 : τ28.2.1 28 (σ.1 9) = 0 := q26_6
              replace q26_7 : m_ag σ τ28 := q26_7
              replace ag : m_ag σ τ28 := ag_t ag q26_7 rfl
              have w3_τ28 : τ28.1 3 = σ.1 3 := hf_τ28.1 3 (by decide)
              have w5_τ28 : τ28.1 5 = σ.1 5 := hf_τ28.1 5 (by decide)
              have w6_τ28 : τ28.1 6 = σ.1 6 := hf_τ28.1 6 (by decide)
              have w7_τ28 : τ28.1 7 = σ.1 7 := hf_τ28.1 7 (by decide)
              have w8_τ28 : τ28.1 8 = σ.1 8 := hf_τ28.1 8 (by decide)
              have w20_τ28 : τ28.1 20 = σ.1 20 := hf_τ28.1 20 (by decide)
              have w22_τ28 : τ28.1 22 = σ.1 22 := hf_τ28.1 22 (by decide)
              have w25_τ28 : τ28.1 25 = σ.1 25 := hf_τ28.1 25 (by decide)
              have w26_τ28 : τ28.1 26 = σ.1 26 := hf_τ28.1 26 (by decide)
              have w28_τ28 : τ28.1 28 = σ.1 28 := hf_τ28.1 28 (by decide)
              have w29_τ28 : τ28.1 29 = σ.1 29 := hf_τ28.1 29 (by decide)
              have g18_τ28 : τ28.2.1 18 = σ.2.1 18 := hf_τ28.2.1 18 (by decide)
              have g19_τ28 : τ28.2.1 19 = σ.2.1 19 := hf_τ28.2.1 19 (by decide)
              have g20_τ28 : τ28.2.1 20 = σ.2.1 20 := hf_τ28.2.1 20 (by decide)
              have g25_τ28 : τ28.2.1 25 = σ.2.1 25 := hf_τ28.2.1 25 (by decide)
              have g39_τ28 : τ28.2.1 39 = σ.2.1 39 := hf_τ28.2.1 39 (by decide)
              have W3 : τ28.1 3 = σ.1 3 := by first | exact w3_τ28.trans W3 | omega
              have W5 : τ28.1 5 = σ.1 5 := by first | exact w5_τ28.trans W5 | omega
              have W6 : τ28.1 6 = σ.1 6 := by first | exact w6_τ28.trans W6 | omega
              have W7 : τ28.1 7 = σ.1 7 := by first | exact w7_τ28.trans W7 | omega
              have W8 : τ28.1 8 = σ.1 8 := by first | exact w8_τ28.trans W8 | omega
              have W22 : τ28.1 22 = σ.1 22 := by first | exact w22_τ28.trans W22 | omega
              have W25 : τ28.1 25 = σ.1 25 := by first | exact w25_τ28.trans W25 | omega
              have W29 : τ28.1 29 = σ.1 29 := by first | exact w29_τ28.trans W29 | omega
              have G18 : τ28.2.1 18 = σ.2.1 18 := (g18_τ28).trans G18
              have G19 : τ28.2.1 19 = σ.2.1 19 := (g19_τ28).trans G19
              have G20 : τ28.2.1 20 = σ.2.1 20 := (g20_τ28).trans G20
              have G25 : τ28.2.1 25 = σ.2.1 25 := (g25_τ28).trans G25
              have G39 : τ28.2.1 39 = σ.2.1 39 := (g39_τ28).trans G39
              have y18_22_τ28 : τ28.2.1 18 (τ28.1 22) = (σ.2.1 18) (σ.1 22) := by rw [g18_τ28, w22_τ28]
              have y19_22_τ28 : τ28.2.1 19 (τ28.1 22) = (σ.2.1 19) (σ.1 22) := by rw [g19_τ28, w22_τ28]
              have y25_22_τ28 : τ28.2.1 25 (τ28.1 22) = (σ.2.1 25) (σ.1 22) := by rw [g25_τ28, w22_τ28]
              have PK : ∀ k : Int, 0 ≤ k → k < (τ28.1 25) → τ28.2.1 39 k < (τ28.1 22) := by rw [show (∀ k : Int, 0 ≤ k → k < (τ28.1 25) → τ28.2.1 39 k < (τ28.1 22)) = (∀ k : Int, 0 ≤ k → k < (σ.1 25) → σ.2.1 39 k < (σ.1 22)) from by rw [w22_τ28, w25_τ28, g39_τ28]]; exact PK
              have HYN : ∀ k : Int, 0 ≤ k → k < τ28.2.1 19 (τ28.1 22) → τ28.2.1 20 (τ28.2.1 18 (τ28.1 22) + k) < (τ28.1 22) := by rw [show (∀ k : Int, 0 ≤ k → k < τ28.2.1 19 (τ28.1 22) → τ28.2.1 20 (τ28.2.1 18 (τ28.1 22) + k) < (τ28.1 22)) = (∀ k : Int, 0 ≤ k → k < σ.2.1 19 (σ.1 22) → σ.2.1 20 (σ.2.1 18 (σ.1 22) + k) < (σ.1 22)) from by rw [w22_τ28, g18_τ28, g19_τ28, g20_τ28]]; exact HYN
              have A18 : ∀ j, 0 ≤ τ28.2.1 18 j ∧ τ28.2.1 18 j ≤ 90000 := fun j => hT.2 18 j
              have A19 : ∀ j, 0 ≤ τ28.2.1 19 j ∧ τ28.2.1 19 j ≤ 60 := fun j => hT.2 19 j
              have A20 : ∀ j, 0 ≤ τ28.2.1 20 j ∧ τ28.2.1 20 j ≤ 1499 := fun j => hT.2 20 j
              have A25 : ∀ j, 0 ≤ τ28.2.1 25 j ∧ τ28.2.1 25 j ≤ 20000 := fun j => hT.2 25 j
              have A26 : ∀ j, 0 ≤ τ28.2.1 26 j ∧ τ28.2.1 26 j ≤ 20000 := fun j => hT.2 26 j
              have A27 : ∀ j, (-300) ≤ τ28.2.1 27 j ∧ τ28.2.1 27 j ≤ 1499 := fun j => hT.2 27 j
              have A28 : ∀ j, 0 ≤ τ28.2.1 28 j ∧ τ28.2.1 28 j ≤ 1 := fun j => hT.2 28 j
              have A39 : ∀ j, 0 ≤ τ28.2.1 39 j ∧ τ28.2.1 39 j ≤ 1499 := fun j => hT.2 39 j
              have v3 : 0 ≤ τ28.1 3 ∧ τ28.1 3 ≤ 1000 := hT.1 3
              have v5 : 0 ≤ τ28.1 5 ∧ τ28.1 5 ≤ 1500 := hT.1 5
              have v6 : 0 ≤ τ28.1 6 ∧ τ28.1 6 ≤ 30000 := hT.1 6
              have v7 : 0 ≤ τ28.1 7 ∧ τ28.1 7 ≤ 90000 := hT.1 7
              have v8 : 0 ≤ τ28.1 8 ∧ τ28.1 8 ≤ 20000 := hT.1 8
              have v9 : 0 ≤ τ28.1 9 ∧ τ28.1 9 ≤ 20000 := hT.1 9
              have v20 : 0 ≤ τ28.1 20 ∧ τ28.1 20 ≤ 19 := hT.1 20
              have v22 : 0 ≤ τ28.1 22 ∧ τ28.1 22 ≤ 1499 := hT.1 22
              have v25 : 0 ≤ τ28.1 25 ∧ τ28.1 25 ≤ 300 := hT.1 25
              have v26 : 0 ≤ τ28.1 26 ∧ τ28.1 26 ≤ 5000010 := hT.1 26
              have v28 : 0 ≤ τ28.1 28 ∧ τ28.1 28 ≤ 1 := hT.1 28
              have v29 : 0 ≤ τ28.1 29 ∧ τ28.1 29 ≤ 300 := hT.1 29
              have a18_22 : 0 ≤ τ28.2.1 18 (τ28.1 22) ∧ τ28.2.1 18 (τ28.1 22) ≤ 90000 := hT.2 18 _
              have a19_22 : 0 ≤ τ28.2.1 19 (τ28.1 22) ∧ τ28.2.1 19 (τ28.1 22) ≤ 60 := hT.2 19 _
              have a25_22 : 0 ≤ τ28.2.1 25 (τ28.1 22) ∧ τ28.2.1 25 (τ28.1 22) ≤ 20000 := hT.2 25 _
              have a26_22 : 0 ≤ τ28.2.1 26 (τ28.1 22) ∧ τ28.2.1 26 (τ28.1 22) ≤ 20000 := hT.2 26 _
              have a28_9 : 0 ≤ τ28.2.1 28 (τ28.1 9) ∧ τ28.2.1 28 (τ28.1 9) ≤ 1 := hT.2 28 _
              have av9 : σ.1 9 ≤ τ28.1 9 := ag.1 9 (by decide)
              have hz : τ28.2.1 28 (τ28.1 9 - 1) = 0 := by rw [show τ28.1 9 - 1 = σ.1 9 from by omega]; exact q26_6
              have Z4 : τ28.2.1 25 (τ28.1 22) + τ28.2.1 26 (τ28.1 22) = τ28.1 9 := by omega
              have ce := ca_eq q26_4 (n := σ.2.1 25 (σ.1 22)) (by omega)
              have Y10 : ca (τ28.2.1 28) (τ28.1 9) ≤ ca (τ28.2.1 28) (τ28.2.1 25 (τ28.1 22)) + τ28.1 29 := by rw [y25_22_τ28, ce, q26_5]; omega
              have Y12 : ¬ τ28.1 28 = 0 → τ28.2.1 25 (τ28.1 22) < τ28.1 9 ∧ τ28.2.1 28 (τ28.1 9 - 1) = 0 := fun _ => ⟨by omega, hz⟩
              have Y13 := j_eqw q26_4 (show σ.2.1 25 (σ.1 22) ≤ σ.1 9 from by omega)
              have NSP : n_sp2 (τ28.2.1 25 (τ28.1 22)) (τ28.1 9) (τ28.1 22) (τ28.2.1 27) (τ28.2.1 28) := by (rw [show τ28.2.1 25 (τ28.1 22) = σ.2.1 25 (σ.1 22) from by omega, show τ28.1 9 = σ.1 9 + 1 from by omega, show τ28.1 22 = σ.1 22 from by omega]; exact n_sp2_a p9 q26_3 q26_4 (by omega) (by omega) (fun z => by omega) (fun y => absurd q26_6 y))
              have st27 : τ28.2.1 27 (τ28.1 9 - 1) = x13 := by (rw [q26_3, show τ28.1 9 - 1 = σ.1 9 from by omega, st_s])
              have Y10b : τ28.1 29 + ca (τ28.2.1 28) (τ28.2.1 25 (τ28.1 22)) ≤ ca (τ28.2.1 28) (τ28.1 9) := by (rw [y25_22_τ28, ce, q26_5]; have := p10; omega)
              refine ⟨fun c29 => ?_, fun c29 => ?_⟩
              ·
                refine h193 _ _ ?_
                refine ⟨(show 0 ≤ 0 ∧ 0 ≤ 1 from by (first | omega | (simp only [st_s] <;> omega) | assumption | omega | fail)), ?_⟩
                replace ag := ag_v (i := 28) (x := 0) ag (Or.inl rfl)
                replace hT := mT_v (i := 28) hT (show (0 : Int) ≤ 0 ∧ 0 ≤ 1 from by (first | omega | (simp only [st_s] <;> omega) | assumption | omega | fail))
                obtain ⟨τ_196, e_τ_196⟩ : ∃ z : S0, z = s_v τ28 28 0 := ⟨_, rfl⟩
                rw [← e_τ_196]
                replace hT : m_T τ_196 := by rw [e_τ_196]; exact hT
                replace ag : m_ag σ τ_196 := by rw [e_τ_196]; exact ag
                have w3_τ_196 : τ_196.1 3 = τ28.1 3 := by rw [e_τ_196]; rfl
                have w5_τ_196 : τ_196.1 5 = τ28.1 5 := by rw [e_τ_196]; rfl
                have w6_τ_196 : τ_196.1 6 = τ28.1 6 := by rw [e_τ_196]; rfl
                have w7_τ_196 : τ_196.1 7 = τ28.1 7 := by rw [e_τ_196]; rfl
                have w8_τ_196 : τ_196.1 8 = τ28.1 8 := by rw [e_τ_196]; rfl
                have w9_τ_196 : τ_196.1 9 = τ28.1 9 := by rw [e_τ_196]; rfl
                have w20_τ_196 : τ_196.1 20 = τ28.1 20 := by rw [e_τ_196]; rfl
                have w22_τ_196 : τ_196.1 22 = τ28.1 22 := by rw [e_τ_196]; rfl
                have w25_τ_196 : τ_196.1 25 = τ28.1 25 := by rw [e_τ_196]; rfl
                have w26_τ_196 : τ_196.1 26 = τ28.1 26 := by rw [e_τ_196]; rfl
                have w28_τ_196 : τ_196.1 28 = 0 := by rw [e_τ_196]; rfl
                have w29_τ_196 : τ_196.1 29 = τ28.1 29 := by rw [e_τ_196]; rfl
                have g18_τ_196 : τ_196.2.1 18 = τ28.2.1 18 := by rw [e_τ_196]; rfl
                have g19_τ_196 : τ_196.2.1 19 = τ28.2.1 19 := by rw [e_τ_196]; rfl
                have g20_τ_196 : τ_196.2.1 20 = τ28.2.1 20 := by rw [e_τ_196]; rfl
                have g25_τ_196 : τ_196.2.1 25 = τ28.2.1 25 := by rw [e_τ_196]; rfl
                have g26_τ_196 : τ_196.2.1 26 = τ28.2.1 26 := by rw [e_τ_196]; rfl
                have g27_τ_196 : τ_196.2.1 27 = τ28.2.1 27 := by rw [e_τ_196]; rfl
                have g28_τ_196 : τ_196.2.1 28 = τ28.2.1 28 := by rw [e_τ_196]; rfl
                have g39_τ_196 : τ_196.2.1 39 = τ28.2.1 39 := by rw [e_τ_196]; rfl
                have W3 : τ_196.1 3 = σ.1 3 := by first | exact w3_τ_196.trans W3 | omega
                have W5 : τ_196.1 5 = σ.1 5 := by first | exact w5_τ_196.trans W5 | omega
                have W6 : τ_196.1 6 = σ.1 6 := by first | exact w6_τ_196.trans W6 | omega
                have W7 : τ_196.1 7 = σ.1 7 := by first | exact w7_τ_196.trans W7 | omega
                have W8 : τ_196.1 8 = σ.1 8 := by first | exact w8_τ_196.trans W8 | omega
                have W22 : τ_196.1 22 = σ.1 22 := by first | exact w22_τ_196.trans W22 | omega
                have W25 : τ_196.1 25 = σ.1 25 := by first | exact w25_τ_196.trans W25 | omega
                have W29 : τ_196.1 29 = σ.1 29 := by first | exact w29_τ_196.trans W29 | omega
                have G18 : τ_196.2.1 18 = σ.2.1 18 := (g18_τ_196).trans G18
                have G19 : τ_196.2.1 19 = σ.2.1 19 := (g19_τ_196).trans G19
                have G20 : τ_196.2.1 20 = σ.2.1 20 := (g20_τ_196).trans G20
                have G25 : τ_196.2.1 25 = σ.2.1 25 := (g25_τ_196).trans G25
                have G39 : τ_196.2.1 39 = σ.2.1 39 := (g39_τ_196).trans G39
                have y18_22_τ_196 : τ_196.2.1 18 (τ_196.1 22) = (τ28.2.1 18) (τ28.1 22) := by rw [g18_τ_196, w22_τ_196]
                have y19_22_τ_196 : τ_196.2.1 19 (τ_196.1 22) = (τ28.2.1 19) (τ28.1 22) := by rw [g19_τ_196, w22_τ_196]
                have y25_22_τ_196 : τ_196.2.1 25 (τ_196.1 22) = (τ28.2.1 25) (τ28.1 22) := by rw [g25_τ_196, w22_τ_196]
                have y26_22_τ_196 : τ_196.2.1 26 (τ_196.1 22) = (τ28.2.1 26) (τ28.1 22) := by rw [g26_τ_196, w22_τ_196]
                have y28_9_τ_196 : τ_196.2.1 28 (τ_196.1 9) = (τ28.2.1 28) (τ28.1 9) := by rw [g28_τ_196, w9_τ_196]
                have Z4 : τ_196.2.1 25 (τ_196.1 22) + τ_196.2.1 26 (τ_196.1 22) = (τ_196.1 9) := by rw [show (τ_196.2.1 25 (τ_196.1 22) + τ_196.2.1 26 (τ_196.1 22) = (τ_196.1 9)) = (τ28.2.1 25 (τ28.1 22) + τ28.2.1 26 (τ28.1 22) = (τ28.1 9)) from by rw [w9_τ_196, w22_τ_196, g25_τ_196, g26_τ_196]]; exact Z4
                have Y10 : ca (τ_196.2.1 28) ((τ_196.1 9)) ≤ ca (τ_196.2.1 28) (τ_196.2.1 25 (τ_196.1 22)) + (τ_196.1 29) := by rw [show (ca (τ_196.2.1 28) ((τ_196.1 9)) ≤ ca (τ_196.2.1 28) (τ_196.2.1 25 (τ_196.1 22)) + (τ_196.1 29)) = (ca (τ28.2.1 28) ((τ28.1 9)) ≤ ca (τ28.2.1 28) (τ28.2.1 25 (τ28.1 22)) + (τ28.1 29)) from by rw [w9_τ_196, w22_τ_196, w29_τ_196, g25_τ_196, g28_τ_196]]; exact Y10
                have Y13 : j_eq (σ.2.1 25 (σ.1 22)) (σ.2.1 28) (τ_196.2.1 28) := by rw [show (j_eq (σ.2.1 25 (σ.1 22)) (σ.2.1 28) (τ_196.2.1 28)) = (j_eq (σ.2.1 25 (σ.1 22)) (σ.2.1 28) (τ28.2.1 28)) from by rw [g28_τ_196]]; exact Y13
                have NSP : n_sp2 (τ_196.2.1 25 (τ_196.1 22)) (τ_196.1 9) (τ_196.1 22) (τ_196.2.1 27) (τ_196.2.1 28) := by rw [show (n_sp2 (τ_196.2.1 25 (τ_196.1 22)) (τ_196.1 9) (τ_196.1 22) (τ_196.2.1 27) (τ_196.2.1 28)) = (n_sp2 (τ28.2.1 25 (τ28.1 22)) (τ28.1 9) (τ28.1 22) (τ28.2.1 27) (τ28.2.1 28)) from by rw [w9_τ_196, w22_τ_196, g25_τ_196, g27_τ_196, g28_τ_196]]; exact NSP
                have PK : ∀ k : Int, 0 ≤ k → k < (τ_196.1 25) → τ_196.2.1 39 k < (τ_196.1 22) := by rw [show (∀ k : Int, 0 ≤ k → k < (τ_196.1 25) → τ_196.2.1 39 k < (τ_196.1 22)) = (∀ k : Int, 0 ≤ k → k < (τ28.1 25) → τ28.2.1 39 k < (τ28.1 22)) from by rw [w22_τ_196, w25_τ_196, g39_τ_196]]; exact PK
                have Y10b : (τ_196.1 29) + ca (τ_196.2.1 28) (τ_196.2.1 25 (τ_196.1 22)) ≤ ca (τ_196.2.1 28) (τ_196.1 9) := by rw [show ((τ_196.1 29) + ca (τ_196.2.1 28) (τ_196.2.1 25 (τ_196.1 22)) ≤ ca (τ_196.2.1 28) (τ_196.1 9)) = ((τ28.1 29) + ca (τ28.2.1 28) (τ28.2.1 25 (τ28.1 22)) ≤ ca (τ28.2.1 28) (τ28.1 9)) from by rw [w9_τ_196, w22_τ_196, w29_τ_196, g25_τ_196, g28_τ_196]]; exact Y10b
                have HYN : ∀ k : Int, 0 ≤ k → k < τ_196.2.1 19 (τ_196.1 22) → τ_196.2.1 20 (τ_196.2.1 18 (τ_196.1 22) + k) < (τ_196.1 22) := by rw [show (∀ k : Int, 0 ≤ k → k < τ_196.2.1 19 (τ_196.1 22) → τ_196.2.1 20 (τ_196.2.1 18 (τ_196.1 22) + k) < (τ_196.1 22)) = (∀ k : Int, 0 ≤ k → k < τ28.2.1 19 (τ28.1 22) → τ28.2.1 20 (τ28.2.1 18 (τ28.1 22) + k) < (τ28.1 22)) from by rw [w22_τ_196, g18_τ_196, g19_τ_196, g20_τ_196]]; exact HYN
                have A18 : ∀ j, 0 ≤ τ_196.2.1 18 j ∧ τ_196.2.1 18 j ≤ 90000 := fun j => hT.2 18 j
                have A19 : ∀ j, 0 ≤ τ_196.2.1 19 j ∧ τ_196.2.1 19 j ≤ 60 := fun j => hT.2 19 j
                have A20 : ∀ j, 0 ≤ τ_196.2.1 20 j ∧ τ_196.2.1 20 j ≤ 1499 := fun j => hT.2 20 j
                have A25 : ∀ j, 0 ≤ τ_196.2.1 25 j ∧ τ_196.2.1 25 j ≤ 20000 := fun j => hT.2 25 j
                have A26 : ∀ j, 0 ≤ τ_196.2.1 26 j ∧ τ_196.2.1 26 j ≤ 20000 := fun j => hT.2 26 j
                have A27 : ∀ j, (-300) ≤ τ_196.2.1 27 j ∧ τ_196.2.1 27 j ≤ 1499 := fun j => hT.2 27 j
                have A28 : ∀ j, 0 ≤ τ_196.2.1 28 j ∧ τ_196.2.1 28 j ≤ 1 := fun j => hT.2 28 j
                have A39 : ∀ j, 0 ≤ τ_196.2.1 39 j ∧ τ_196.2.1 39 j ≤ 1499 := fun j => hT.2 39 j
                have v3 : 0 ≤ τ_196.1 3 ∧ τ_196.1 3 ≤ 1000 := hT.1 3
                have v5 : 0 ≤ τ_196.1 5 ∧ τ_196.1 5 ≤ 1500 := hT.1 5
                have v6 : 0 ≤ τ_196.1 6 ∧ τ_196.1 6 ≤ 30000 := hT.1 6
                have v7 : 0 ≤ τ_196.1 7 ∧ τ_196.1 7 ≤ 90000 := hT.1 7
                have v8 : 0 ≤ τ_196.1 8 ∧ τ_196.1 8 ≤ 20000 := hT.1 8
                have v9 : 0 ≤ τ_196.1 9 ∧ τ_196.1 9 ≤ 20000 := hT.1 9
                have v20 : 0 ≤ τ_196.1 20 ∧ τ_196.1 20 ≤ 19 := hT.1 20
                have v22 : 0 ≤ τ_196.1 22 ∧ τ_196.1 22 ≤ 1499 := hT.1 22
                have v25 : 0 ≤ τ_196.1 25 ∧ τ_196.1 25 ≤ 300 := hT.1 25
                have v26 : 0 ≤ τ_196.1 26 ∧ τ_196.1 26 ≤ 5000010 := hT.1 26
                have v28 : 0 ≤ τ_196.1 28 ∧ τ_196.1 28 ≤ 1 := hT.1 28
                have v29 : 0 ≤ τ_196.1 29 ∧ τ_196.1 29 ≤ 300 := hT.1 29
                have a18_22 : 0 ≤ τ_196.2.1 18 (τ_196.1 22) ∧ τ_196.2.1 18 (τ_196.1 22) ≤ 90000 := hT.2 18 _
                have a19_22 : 0 ≤ τ_196.2.1 19 (τ_196.1 22) ∧ τ_196.2.1 19 (τ_196.1 22) ≤ 60 := hT.2 19 _
                have a25_22 : 0 ≤ τ_196.2.1 25 (τ_196.1 22) ∧ τ_196.2.1 25 (τ_196.1 22) ≤ 20000 := hT.2 25 _
                have a26_22 : 0 ≤ τ_196.2.1 26 (τ_196.1 22) ∧ τ_196.2.1 26 (τ_196.1 22) ≤ 20000 := hT.2 26 _
                have a28_9 : 0 ≤ τ_196.2.1 28 (τ_196.1 9) ∧ τ_196.2.1 28 (τ_196.1 9) ≤ 1 := hT.2 28 _
                have av9 : σ.1 9 ≤ τ_196.1 9 := ag.1 9 (by decide)
                refine h196 _ ?_
                replace ag := ag_v (i := 26) (x := 0) ag (Or.inl rfl)
                replace hT := mT_v (i := 26) hT (show (0 : Int) ≤ 0 ∧ 0 ≤ 5000010 from by (first | omega | (simp only [st_s] <;> omega) | assumption | omega | fail))
                replace ag := ag_v (i := 27) (x := 0) ag (Or.inl rfl)
                replace hT := mT_v (i := 27) hT (show (0 : Int) ≤ 0 ∧ 0 ≤ 1 from by (first | omega | (simp only [st_s] <;> omega) | assumption | omega | fail))
                exact ⟨hT, (show ¬ (σ.1 20) = 0 → (τ_196.1 20) = (σ.1 20) from by (first | omega | (simp only [st_s] <;> omega) | assumption | omega | fail)), (show τ_196.2.1 25 (τ_196.1 22) + τ_196.2.1 26 (τ_196.1 22) = (τ_196.1 9) from Z4), (show ca (τ_196.2.1 28) ((τ_196.1 9)) ≤ ca (τ_196.2.1 28) (τ_196.2.1 25 (τ_196.1 22)) + (τ_196.1 29) from Y10), (show ¬ (τ_196.1 28) = 0 → τ_196.2.1 25 (τ_196.1 22) < (τ_196.1 9) ∧ τ_196.2.1 28 ((τ_196.1 9) - 1) = 0 from by (first | assumption | omega | (intro _; refine ⟨by omega, ?_⟩; first | exact hz | (rw [e_τ_196]; exact hz)) | fail)), (show j_eq (σ.2.1 25 (σ.1 22)) (σ.2.1 28) (τ_196.2.1 28) from Y13), (show ((0 : Int)) = 0 from by (first | omega | (simp only [st_s] <;> omega) | assumption | omega | fail)), ag, (show n_sp2 (τ_196.2.1 25 (τ_196.1 22)) (τ_196.1 9) (τ_196.1 22) (τ_196.2.1 27) (τ_196.2.1 28) from NSP), (show (τ_196.1 29) + ca (τ_196.2.1 28) (τ_196.2.1 25 (τ_196.1 22)) ≤ ca (τ_196.2.1 28) (τ_196.1 9) from Y10b), (show ¬ (τ_196.1 28) = 0 → 0 ≤ τ_196.2.1 27 ((τ_196.1 9) - 1) from by (first | assumption | (intro z; exfalso; omega) | (intro _; first | (rw [st27]; omega) | (rw [e_τ_196]; show 0 ≤ τ28.2.1 27 (τ28.1 9 - 1); rw [st27]; omega)) | fail))⟩
              ·
                refine ⟨(show 0 ≤ x13 ∧ x13 < 1501 from by (first | omega | (simp only [st_s] <;> omega) | assumption | omega | fail)), ?_⟩
                intro x31 r_x31 e_x31
                have b_x31 : 0 ≤ x31 ∧ x31 ≤ 4 := by rw [e_x31]; exact hT.2 13 _
                refine ⟨fun c32 => ?_, fun c32 => ?_⟩
                ·
                  refine h193 _ _ ?_
                  refine ⟨(show 0 ≤ 0 ∧ 0 ≤ 1 from by (first | omega | (simp only [st_s] <;> omega) | assumption | omega | fail)), ?_⟩
                  replace ag := ag_v (i := 28) (x := 0) ag (Or.inl rfl)
                  replace hT := mT_v (i := 28) hT (show (0 : Int) ≤ 0 ∧ 0 ≤ 1 from by (first | omega | (simp only [st_s] <;> omega) | assumption | omega | fail))
                  obtain ⟨τ_196, e_τ_196⟩ : ∃ z : S0, z = s_v τ28 28 0 := ⟨_, rfl⟩
                  rw [← e_τ_196]
                  replace hT : m_T τ_196 := by rw [e_τ_196]; exact hT
                  replace ag : m_ag σ τ_196 := by rw [e_τ_196]; exact ag
                  have w3_τ_196 : τ_196.1 3 = τ28.1 3 := by rw [e_τ_196]; rfl
                  have w5_τ_196 : τ_196.1 5 = τ28.1 5 := by rw [e_τ_196]; rfl
                  have w6_τ_196 : τ_196.1 6 = τ28.1 6 := by rw [e_τ_196]; rfl
                  have w7_τ_196 : τ_196.1 7 = τ28.1 7 := by rw [e_τ_196]; rfl
                  have w8_τ_196 : τ_196.1 8 = τ28.1 8 := by rw [e_τ_196]; rfl
                  have w9_τ_196 : τ_196.1 9 = τ28.1 9 := by rw [e_τ_196]; rfl
                  have w20_τ_196 : τ_196.1 20 = τ28.1 20 := by rw [e_τ_196]; rfl
                  have w22_τ_196 : τ_196.1 22 = τ28.1 22 := by rw [e_τ_196]; rfl
                  have w25_τ_196 : τ_196.1 25 = τ28.1 25 := by rw [e_τ_196]; rfl
                  have w26_τ_196 : τ_196.1 26 = τ28.1 26 := by rw [e_τ_196]; rfl
                  have w28_τ_196 : τ_196.1 28 = 0 := by rw [e_τ_196]; rfl
                  have w29_τ_196 : τ_196.1 29 = τ28.1 29 := by rw [e_τ_196]; rfl
                  have g18_τ_196 : τ_196.2.1 18 = τ28.2.1 18 := by rw [e_τ_196]; rfl
                  have g19_τ_196 : τ_196.2.1 19 = τ28.2.1 19 := by rw [e_τ_196]; rfl
                  have g20_τ_196 : τ_196.2.1 20 = τ28.2.1 20 := by rw [e_τ_196]; rfl
                  have g25_τ_196 : τ_196.2.1 25 = τ28.2.1 25 := by rw [e_τ_196]; rfl
                  have g26_τ_196 : τ_196.2.1 26 = τ28.2.1 26 := by rw [e_τ_196]; rfl
                  have g27_τ_196 : τ_196.2.1 27 = τ28.2.1 27 := by rw [e_τ_196]; rfl
                  have g28_τ_196 : τ_196.2.1 28 = τ28.2.1 28 := by rw [e_τ_196]; rfl
                  have g39_τ_196 : τ_196.2.1 39 = τ28.2.1 39 := by rw [e_τ_196]; rfl
                  have W3 : τ_196.1 3 = σ.1 3 := by first | exact w3_τ_196.trans W3 | omega
                  have W5 : τ_196.1 5 = σ.1 5 := by first | exact w5_τ_196.trans W5 | omega
                  have W6 : τ_196.1 6 = σ.1 6 := by first | exact w6_τ_196.trans W6 | omega
                  have W7 : τ_196.1 7 = σ.1 7 := by first | exact w7_τ_196.trans W7 | omega
                  have W8 : τ_196.1 8 = σ.1 8 := by first | exact w8_τ_196.trans W8 | omega
                  have W22 : τ_196.1 22 = σ.1 22 := by first | exact w22_τ_196.trans W22 | omega
                  have W25 : τ_196.1 25 = σ.1 25 := by first | exact w25_τ_196.trans W25 | omega
                  have W29 : τ_196.1 29 = σ.1 29 := by first | exact w29_τ_196.trans W29 | omega
                  have G18 : τ_196.2.1 18 = σ.2.1 18 := (g18_τ_196).trans G18
                  have G19 : τ_196.2.1 19 = σ.2.1 19 := (g19_τ_196).trans G19
                  have G20 : τ_196.2.1 20 = σ.2.1 20 := (g20_τ_196).trans G20
                  have G25 : τ_196.2.1 25 = σ.2.1 25 := (g25_τ_196).trans G25
                  have G39 : τ_196.2.1 39 = σ.2.1 39 := (g39_τ_196).trans G39
                  have y18_22_τ_196 : τ_196.2.1 18 (τ_196.1 22) = (τ28.2.1 18) (τ28.1 22) := by rw [g18_τ_196, w22_τ_196]
                  have y19_22_τ_196 : τ_196.2.1 19 (τ_196.1 22) = (τ28.2.1 19) (τ28.1 22) := by rw [g19_τ_196, w22_τ_196]
                  have y25_22_τ_196 : τ_196.2.1 25 (τ_196.1 22) = (τ28.2.1 25) (τ28.1 22) := by rw [g25_τ_196, w22_τ_196]
                  have y26_22_τ_196 : τ_196.2.1 26 (τ_196.1 22) = (τ28.2.1 26) (τ28.1 22) := by rw [g26_τ_196, w22_τ_196]
                  have y28_9_τ_196 : τ_196.2.1 28 (τ_196.1 9) = (τ28.2.1 28) (τ28.1 9) := by rw [g28_τ_196, w9_τ_196]
                  have Z4 : τ_196.2.1 25 (τ_196.1 22) + τ_196.2.1 26 (τ_196.1 22) = (τ_196.1 9) := by rw [show (τ_196.2.1 25 (τ_196.1 22) + τ_196.2.1 26 (τ_196.1 22) = (τ_196.1 9)) = (τ28.2.1 25 (τ28.1 22) + τ28.2.1 26 (τ28.1 22) = (τ28.1 9)) from by rw [w9_τ_196, w22_τ_196, g25_τ_196, g26_τ_196]]; exact Z4
                  have Y10 : ca (τ_196.2.1 28) ((τ_196.1 9)) ≤ ca (τ_196.2.1 28) (τ_196.2.1 25 (τ_196.1 22)) + (τ_196.1 29) := by rw [show (ca (τ_196.2.1 28) ((τ_196.1 9)) ≤ ca (τ_196.2.1 28) (τ_196.2.1 25 (τ_196.1 22)) + (τ_196.1 29)) = (ca (τ28.2.1 28) ((τ28.1 9)) ≤ ca (τ28.2.1 28) (τ28.2.1 25 (τ28.1 22)) + (τ28.1 29)) from by rw [w9_τ_196, w22_τ_196, w29_τ_196, g25_τ_196, g28_τ_196]]; exact Y10
                  have Y13 : j_eq (σ.2.1 25 (σ.1 22)) (σ.2.1 28) (τ_196.2.1 28) := by rw [show (j_eq (σ.2.1 25 (σ.1 22)) (σ.2.1 28) (τ_196.2.1 28)) = (j_eq (σ.2.1 25 (σ.1 22)) (σ.2.1 28) (τ28.2.1 28)) from by rw [g28_τ_196]]; exact Y13
                  have NSP : n_sp2 (τ_196.2.1 25 (τ_196.1 22)) (τ_196.1 9) (τ_196.1 22) (τ_196.2.1 27) (τ_196.2.1 28) := by rw [show (n_sp2 (τ_196.2.1 25 (τ_196.1 22)) (τ_196.1 9) (τ_196.1 22) (τ_196.2.1 27) (τ_196.2.1 28)) = (n_sp2 (τ28.2.1 25 (τ28.1 22)) (τ28.1 9) (τ28.1 22) (τ28.2.1 27) (τ28.2.1 28)) from by rw [w9_τ_196, w22_τ_196, g25_τ_196, g27_τ_196, g28_τ_196]]; exact NSP
                  have PK : ∀ k : Int, 0 ≤ k → k < (τ_196.1 25) → τ_196.2.1 39 k < (τ_196.1 22) := by rw [show (∀ k : Int, 0 ≤ k → k < (τ_196.1 25) → τ_196.2.1 39 k < (τ_196.1 22)) = (∀ k : Int, 0 ≤ k → k < (τ28.1 25) → τ28.2.1 39 k < (τ28.1 22)) from by rw [w22_τ_196, w25_τ_196, g39_τ_196]]; exact PK
                  have Y10b : (τ_196.1 29) + ca (τ_196.2.1 28) (τ_196.2.1 25 (τ_196.1 22)) ≤ ca (τ_196.2.1 28) (τ_196.1 9) := by rw [show ((τ_196.1 29) + ca (τ_196.2.1 28) (τ_196.2.1 25 (τ_196.1 22)) ≤ ca (τ_196.2.1 28) (τ_196.1 9)) = ((τ28.1 29) + ca (τ28.2.1 28) (τ28.2.1 25 (τ28.1 22)) ≤ ca (τ28.2.1 28) (τ28.1 9)) from by rw [w9_τ_196, w22_τ_196, w29_τ_196, g25_τ_196, g28_τ_196]]; exact Y10b
                  have HYN : ∀ k : Int, 0 ≤ k → k < τ_196.2.1 19 (τ_196.1 22) → τ_196.2.1 20 (τ_196.2.1 18 (τ_196.1 22) + k) < (τ_196.1 22) := by rw [show (∀ k : Int, 0 ≤ k → k < τ_196.2.1 19 (τ_196.1 22) → τ_196.2.1 20 (τ_196.2.1 18 (τ_196.1 22) + k) < (τ_196.1 22)) = (∀ k : Int, 0 ≤ k → k < τ28.2.1 19 (τ28.1 22) → τ28.2.1 20 (τ28.2.1 18 (τ28.1 22) + k) < (τ28.1 22)) from by rw [w22_τ_196, g18_τ_196, g19_τ_196, g20_τ_196]]; exact HYN
                  have A18 : ∀ j, 0 ≤ τ_196.2.1 18 j ∧ τ_196.2.1 18 j ≤ 90000 := fun j => hT.2 18 j
                  have A19 : ∀ j, 0 ≤ τ_196.2.1 19 j ∧ τ_196.2.1 19 j ≤ 60 := fun j => hT.2 19 j
                  have A20 : ∀ j, 0 ≤ τ_196.2.1 20 j ∧ τ_196.2.1 20 j ≤ 1499 := fun j => hT.2 20 j
                  have A25 : ∀ j, 0 ≤ τ_196.2.1 25 j ∧ τ_196.2.1 25 j ≤ 20000 := fun j => hT.2 25 j
                  have A26 : ∀ j, 0 ≤ τ_196.2.1 26 j ∧ τ_196.2.1 26 j ≤ 20000 := fun j => hT.2 26 j
                  have A27 : ∀ j, (-300) ≤ τ_196.2.1 27 j ∧ τ_196.2.1 27 j ≤ 1499 := fun j => hT.2 27 j
                  have A28 : ∀ j, 0 ≤ τ_196.2.1 28 j ∧ τ_196.2.1 28 j ≤ 1 := fun j => hT.2 28 j
                  have A39 : ∀ j, 0 ≤ τ_196.2.1 39 j ∧ τ_196.2.1 39 j ≤ 1499 := fun j => hT.2 39 j
                  have v3 : 0 ≤ τ_196.1 3 ∧ τ_196.1 3 ≤ 1000 := hT.1 3
                  have v5 : 0 ≤ τ_196.1 5 ∧ τ_196.1 5 ≤ 1500 := hT.1 5
                  have v6 : 0 ≤ τ_196.1 6 ∧ τ_196.1 6 ≤ 30000 := hT.1 6
                  have v7 : 0 ≤ τ_196.1 7 ∧ τ_196.1 7 ≤ 90000 := hT.1 7
                  have v8 : 0 ≤ τ_196.1 8 ∧ τ_196.1 8 ≤ 20000 := hT.1 8
                  have v9 : 0 ≤ τ_196.1 9 ∧ τ_196.1 9 ≤ 20000 := hT.1 9
                  have v20 : 0 ≤ τ_196.1 20 ∧ τ_196.1 20 ≤ 19 := hT.1 20
                  have v22 : 0 ≤ τ_196.1 22 ∧ τ_196.1 22 ≤ 1499 := hT.1 22
                  have v25 : 0 ≤ τ_196.1 25 ∧ τ_196.1 25 ≤ 300 := hT.1 25
                  have v26 : 0 ≤ τ_196.1 26 ∧ τ_196.1 26 ≤ 5000010 := hT.1 26
                  have v28 : 0 ≤ τ_196.1 28 ∧ τ_196.1 28 ≤ 1 := hT.1 28
                  have v29 : 0 ≤ τ_196.1 29 ∧ τ_196.1 29 ≤ 300 := hT.1 29
                  have a18_22 : 0 ≤ τ_196.2.1 18 (τ_196.1 22) ∧ τ_196.2.1 18 (τ_196.1 22) ≤ 90000 := hT.2 18 _
                  have a19_22 : 0 ≤ τ_196.2.1 19 (τ_196.1 22) ∧ τ_196.2.1 19 (τ_196.1 22) ≤ 60 := hT.2 19 _
                  have a25_22 : 0 ≤ τ_196.2.1 25 (τ_196.1 22) ∧ τ_196.2.1 25 (τ_196.1 22) ≤ 20000 := hT.2 25 _
                  have a26_22 : 0 ≤ τ_196.2.1 26 (τ_196.1 22) ∧ τ_196.2.1 26 (τ_196.1 22) ≤ 20000 := hT.2 26 _
                  have a28_9 : 0 ≤ τ_196.2.1 28 (τ_196.1 9) ∧ τ_196.2.1 28 (τ_196.1 9) ≤ 1 := hT.2 28 _
                  have av9 : σ.1 9 ≤ τ_196.1 9 := ag.1 9 (by decide)
                  refine h196 _ ?_
                  replace ag := ag_v (i := 26) (x := 0) ag (Or.inl rfl)
                  replace hT := mT_v (i := 26) hT (show (0 : Int) ≤ 0 ∧ 0 ≤ 5000010 from by (first | omega | (simp only [st_s] <;> omega) | assumption | omega | fail))
                  replace ag := ag_v (i := 27) (x := 0) ag (Or.inl rfl)
                  replace hT := mT_v (i := 27) hT (show (0 : Int) ≤ 0 ∧ 0 ≤ 1 from by (first | omega | (simp only [st_s] <;> omega) | assumption | omega | fail))
                  exact ⟨hT, (show ¬ (σ.1 20) = 0 → (τ_196.1 20) = (σ.1 20) from by (first | omega | (simp only [st_s] <;> omega) | assumption | omega | fail)), (show τ_196.2.1 25 (τ_196.1 22) + τ_196.2.1 26 (τ_196.1 22) = (τ_196.1 9) from Z4), (show ca (τ_196.2.1 28) ((τ_196.1 9)) ≤ ca (τ_196.2.1 28) (τ_196.2.1 25 (τ_196.1 22)) + (τ_196.1 29) from Y10), (show ¬ (τ_196.1 28) = 0 → τ_196.2.1 25 (τ_196.1 22) < (τ_196.1 9) ∧ τ_196.2.1 28 ((τ_196.1 9) - 1) = 0 from by (first | assumption | omega | (intro _; refine ⟨by omega, ?_⟩; first | exact hz | (rw [e_τ_196]; exact hz)) | fail)), (show j_eq (σ.2.1 25 (σ.1 22)) (σ.2.1 28) (τ_196.2.1 28) from Y13), (show ((0 : Int)) = 0 from by (first | omega | (simp only [st_s] <;> omega) | assumption | omega | fail)), ag, (show n_sp2 (τ_196.2.1 25 (τ_196.1 22)) (τ_196.1 9) (τ_196.1 22) (τ_196.2.1 27) (τ_196.2.1 28) from NSP), (show (τ_196.1 29) + ca (τ_196.2.1 28) (τ_196.2.1 25 (τ_196.1 22)) ≤ ca (τ_196.2.1 28) (τ_196.1 9) from Y10b), (show ¬ (τ_196.1 28) = 0 → 0 ≤ τ_196.2.1 27 ((τ_196.1 9) - 1) from by (first | assumption | (intro z; exfalso; omega) | (intro _; first | (rw [st27]; omega) | (rw [e_τ_196]; show 0 ≤ τ28.2.1 27 (τ28.1 9 - 1); rw [st27]; omega)) | fail))⟩
                ·
                  refine h193 _ _ ?_
                  refine ⟨(show 0 ≤ 1 ∧ 1 ≤ 1 from by (first | omega | (simp only [st_s] <;> omega) | assumption | omega | fail)), ?_⟩
                  replace ag := ag_v (i := 28) (x := 1) ag (Or.inl rfl)
                  replace hT := mT_v (i := 28) hT (show (0 : Int) ≤ 1 ∧ 1 ≤ 1 from by (first | omega | (simp only [st_s] <;> omega) | assumption | omega | fail))
                  obtain ⟨τ_196, e_τ_196⟩ : ∃ z : S0, z = s_v τ28 28 1 := ⟨_, rfl⟩
                  rw [← e_τ_196]
                  replace hT : m_T τ_196 := by rw [e_τ_196]; exact hT
                  replace ag : m_ag σ τ_196 := by rw [e_τ_196]; exact ag
                  have w3_τ_196 : τ_196.1 3 = τ28.1 3 := by rw [e_τ_196]; rfl
                  have w5_τ_196 : τ_196.1 5 = τ28.1 5 := by rw [e_τ_196]; rfl
                  have w6_τ_196 : τ_196.1 6 = τ28.1 6 := by rw [e_τ_196]; rfl
                  have w7_τ_196 : τ_196.1 7 = τ28.1 7 := by rw [e_τ_196]; rfl
                  have w8_τ_196 : τ_196.1 8 = τ28.1 8 := by rw [e_τ_196]; rfl
                  have w9_τ_196 : τ_196.1 9 = τ28.1 9 := by rw [e_τ_196]; rfl
                  have w20_τ_196 : τ_196.1 20 = τ28.1 20 := by rw [e_τ_196]; rfl
                  have w22_τ_196 : τ_196.1 22 = τ28.1 22 := by rw [e_τ_196]; rfl
                  have w25_τ_196 : τ_196.1 25 = τ28.1 25 := by rw [e_τ_196]; rfl
                  have w26_τ_196 : τ_196.1 26 = τ28.1 26 := by rw [e_τ_196]; rfl
                  have w28_τ_196 : τ_196.1 28 = 1 := by rw [e_τ_196]; rfl
                  have w29_τ_196 : τ_196.1 29 = τ28.1 29 := by rw [e_τ_196]; rfl
                  have g18_τ_196 : τ_196.2.1 18 = τ28.2.1 18 := by rw [e_τ_196]; rfl
                  have g19_τ_196 : τ_196.2.1 19 = τ28.2.1 19 := by rw [e_τ_196]; rfl
                  have g20_τ_196 : τ_196.2.1 20 = τ28.2.1 20 := by rw [e_τ_196]; rfl
                  have g25_τ_196 : τ_196.2.1 25 = τ28.2.1 25 := by rw [e_τ_196]; rfl
                  have g26_τ_196 : τ_196.2.1 26 = τ28.2.1 26 := by rw [e_τ_196]; rfl
                  have g27_τ_196 : τ_196.2.1 27 = τ28.2.1 27 := by rw [e_τ_196]; rfl
                  have g28_τ_196 : τ_196.2.1 28 = τ28.2.1 28 := by rw [e_τ_196]; rfl
                  have g39_τ_196 : τ_196.2.1 39 = τ28.2.1 39 := by rw [e_τ_196]; rfl
                  have W3 : τ_196.1 3 = σ.1 3 := by first | exact w3_τ_196.trans W3 | omega
                  have W5 : τ_196.1 5 = σ.1 5 := by first | exact w5_τ_196.trans W5 | omega
                  have W6 : τ_196.1 6 = σ.1 6 := by first | exact w6_τ_196.trans W6 | omega
                  have W7 : τ_196.1 7 = σ.1 7 := by first | exact w7_τ_196.trans W7 | omega
                  have W8 : τ_196.1 8 = σ.1 8 := by first | exact w8_τ_196.trans W8 | omega
                  have W22 : τ_196.1 22 = σ.1 22 := by first | exact w22_τ_196.trans W22 | omega
                  have W25 : τ_196.1 25 = σ.1 25 := by first | exact w25_τ_196.trans W25 | omega
                  have W29 : τ_196.1 29 = σ.1 29 := by first | exact w29_τ_196.trans W29 | omega
                  have G18 : τ_196.2.1 18 = σ.2.1 18 := (g18_τ_196).trans G18
                  have G19 : τ_196.2.1 19 = σ.2.1 19 := (g19_τ_196).trans G19
                  have G20 : τ_196.2.1 20 = σ.2.1 20 := (g20_τ_196).trans G20
                  have G25 : τ_196.2.1 25 = σ.2.1 25 := (g25_τ_196).trans G25
                  have G39 : τ_196.2.1 39 = σ.2.1 39 := (g39_τ_196).trans G39
                  have y18_22_τ_196 : τ_196.2.1 18 (τ_196.1 22) = (τ28.2.1 18) (τ28.1 22) := by rw [g18_τ_196, w22_τ_196]
                  have y19_22_τ_196 : τ_196.2.1 19 (τ_196.1 22) = (τ28.2.1 19) (τ28.1 22) := by rw [g19_τ_196, w22_τ_196]
                  have y25_22_τ_196 : τ_196.2.1 25 (τ_196.1 22) = (τ28.2.1 25) (τ28.1 22) := by rw [g25_τ_196, w22_τ_196]
                  have y26_22_τ_196 : τ_196.2.1 26 (τ_196.1 22) = (τ28.2.1 26) (τ28.1 22) := by rw [g26_τ_196, w22_τ_196]
                  have y28_9_τ_196 : τ_196.2.1 28 (τ_196.1 9) = (τ28.2.1 28) (τ28.1 9) := by rw [g28_τ_196, w9_τ_196]
                  have Z4 : τ_196.2.1 25 (τ_196.1 22) + τ_196.2.1 26 (τ_196.1 22) = (τ_196.1 9) := by rw [show (τ_196.2.1 25 (τ_196.1 22) + τ_196.2.1 26 (τ_196.1 22) = (τ_196.1 9)) = (τ28.2.1 25 (τ28.1 22) + τ28.2.1 26 (τ28.1 22) = (τ28.1 9)) from by rw [w9_τ_196, w22_τ_196, g25_τ_196, g26_τ_196]]; exact Z4
                  have Y10 : ca (τ_196.2.1 28) ((τ_196.1 9)) ≤ ca (τ_196.2.1 28) (τ_196.2.1 25 (τ_196.1 22)) + (τ_196.1 29) := by rw [show (ca (τ_196.2.1 28) ((τ_196.1 9)) ≤ ca (τ_196.2.1 28) (τ_196.2.1 25 (τ_196.1 22)) + (τ_196.1 29)) = (ca (τ28.2.1 28) ((τ28.1 9)) ≤ ca (τ28.2.1 28) (τ28.2.1 25 (τ28.1 22)) + (τ28.1 29)) from by rw [w9_τ_196, w22_τ_196, w29_τ_196, g25_τ_196, g28_τ_196]]; exact Y10
                  have Y13 : j_eq (σ.2.1 25 (σ.1 22)) (σ.2.1 28) (τ_196.2.1 28) := by rw [show (j_eq (σ.2.1 25 (σ.1 22)) (σ.2.1 28) (τ_196.2.1 28)) = (j_eq (σ.2.1 25 (σ.1 22)) (σ.2.1 28) (τ28.2.1 28)) from by rw [g28_τ_196]]; exact Y13
                  have NSP : n_sp2 (τ_196.2.1 25 (τ_196.1 22)) (τ_196.1 9) (τ_196.1 22) (τ_196.2.1 27) (τ_196.2.1 28) := by rw [show (n_sp2 (τ_196.2.1 25 (τ_196.1 22)) (τ_196.1 9) (τ_196.1 22) (τ_196.2.1 27) (τ_196.2.1 28)) = (n_sp2 (τ28.2.1 25 (τ28.1 22)) (τ28.1 9) (τ28.1 22) (τ28.2.1 27) (τ28.2.1 28)) from by rw [w9_τ_196, w22_τ_196, g25_τ_196, g27_τ_196, g28_τ_196]]; exact NSP
                  have PK : ∀ k : Int, 0 ≤ k → k < (τ_196.1 25) → τ_196.2.1 39 k < (τ_196.1 22) := by rw [show (∀ k : Int, 0 ≤ k → k < (τ_196.1 25) → τ_196.2.1 39 k < (τ_196.1 22)) = (∀ k : Int, 0 ≤ k → k < (τ28.1 25) → τ28.2.1 39 k < (τ28.1 22)) from by rw [w22_τ_196, w25_τ_196, g39_τ_196]]; exact PK
                  have Y10b : (τ_196.1 29) + ca (τ_196.2.1 28) (τ_196.2.1 25 (τ_196.1 22)) ≤ ca (τ_196.2.1 28) (τ_196.1 9) := by rw [show ((τ_196.1 29) + ca (τ_196.2.1 28) (τ_196.2.1 25 (τ_196.1 22)) ≤ ca (τ_196.2.1 28) (τ_196.1 9)) = ((τ28.1 29) + ca (τ28.2.1 28) (τ28.2.1 25 (τ28.1 22)) ≤ ca (τ28.2.1 28) (τ28.1 9)) from by rw [w9_τ_196, w22_τ_196, w29_τ_196, g25_τ_196, g28_τ_196]]; exact Y10b
                  have HYN : ∀ k : Int, 0 ≤ k → k < τ_196.2.1 19 (τ_196.1 22) → τ_196.2.1 20 (τ_196.2.1 18 (τ_196.1 22) + k) < (τ_196.1 22) := by rw [show (∀ k : Int, 0 ≤ k → k < τ_196.2.1 19 (τ_196.1 22) → τ_196.2.1 20 (τ_196.2.1 18 (τ_196.1 22) + k) < (τ_196.1 22)) = (∀ k : Int, 0 ≤ k → k < τ28.2.1 19 (τ28.1 22) → τ28.2.1 20 (τ28.2.1 18 (τ28.1 22) + k) < (τ28.1 22)) from by rw [w22_τ_196, g18_τ_196, g19_τ_196, g20_τ_196]]; exact HYN
                  have A18 : ∀ j, 0 ≤ τ_196.2.1 18 j ∧ τ_196.2.1 18 j ≤ 90000 := fun j => hT.2 18 j
                  have A19 : ∀ j, 0 ≤ τ_196.2.1 19 j ∧ τ_196.2.1 19 j ≤ 60 := fun j => hT.2 19 j
                  have A20 : ∀ j, 0 ≤ τ_196.2.1 20 j ∧ τ_196.2.1 20 j ≤ 1499 := fun j => hT.2 20 j
                  have A25 : ∀ j, 0 ≤ τ_196.2.1 25 j ∧ τ_196.2.1 25 j ≤ 20000 := fun j => hT.2 25 j
                  have A26 : ∀ j, 0 ≤ τ_196.2.1 26 j ∧ τ_196.2.1 26 j ≤ 20000 := fun j => hT.2 26 j
                  have A27 : ∀ j, (-300) ≤ τ_196.2.1 27 j ∧ τ_196.2.1 27 j ≤ 1499 := fun j => hT.2 27 j
                  have A28 : ∀ j, 0 ≤ τ_196.2.1 28 j ∧ τ_196.2.1 28 j ≤ 1 := fun j => hT.2 28 j
                  have A39 : ∀ j, 0 ≤ τ_196.2.1 39 j ∧ τ_196.2.1 39 j ≤ 1499 := fun j => hT.2 39 j
                  have v3 : 0 ≤ τ_196.1 3 ∧ τ_196.1 3 ≤ 1000 := hT.1 3
                  have v5 : 0 ≤ τ_196.1 5 ∧ τ_196.1 5 ≤ 1500 := hT.1 5
                  have v6 : 0 ≤ τ_196.1 6 ∧ τ_196.1 6 ≤ 30000 := hT.1 6
                  have v7 : 0 ≤ τ_196.1 7 ∧ τ_196.1 7 ≤ 90000 := hT.1 7
                  have v8 : 0 ≤ τ_196.1 8 ∧ τ_196.1 8 ≤ 20000 := hT.1 8
                  have v9 : 0 ≤ τ_196.1 9 ∧ τ_196.1 9 ≤ 20000 := hT.1 9
                  have v20 : 0 ≤ τ_196.1 20 ∧ τ_196.1 20 ≤ 19 := hT.1 20
                  have v22 : 0 ≤ τ_196.1 22 ∧ τ_196.1 22 ≤ 1499 := hT.1 22
                  have v25 : 0 ≤ τ_196.1 25 ∧ τ_196.1 25 ≤ 300 := hT.1 25
                  have v26 : 0 ≤ τ_196.1 26 ∧ τ_196.1 26 ≤ 5000010 := hT.1 26
                  have v28 : 0 ≤ τ_196.1 28 ∧ τ_196.1 28 ≤ 1 := hT.1 28
                  have v29 : 0 ≤ τ_196.1 29 ∧ τ_196.1 29 ≤ 300 := hT.1 29
                  have a18_22 : 0 ≤ τ_196.2.1 18 (τ_196.1 22) ∧ τ_196.2.1 18 (τ_196.1 22) ≤ 90000 := hT.2 18 _
                  have a19_22 : 0 ≤ τ_196.2.1 19 (τ_196.1 22) ∧ τ_196.2.1 19 (τ_196.1 22) ≤ 60 := hT.2 19 _
                  have a25_22 : 0 ≤ τ_196.2.1 25 (τ_196.1 22) ∧ τ_196.2.1 25 (τ_196.1 22) ≤ 20000 := hT.2 25 _
                  have a26_22 : 0 ≤ τ_196.2.1 26 (τ_196.1 22) ∧ τ_196.2.1 26 (τ_196.1 22) ≤ 20000 := hT.2 26 _
                  have a28_9 : 0 ≤ τ_196.2.1 28 (τ_196.1 9) ∧ τ_196.2.1 28 (τ_196.1 9) ≤ 1 := hT.2 28 _
                  have av9 : σ.1 9 ≤ τ_196.1 9 := ag.1 9 (by decide)
                  refine h196 _ ?_
                  replace ag := ag_v (i := 26) (x := 0) ag (Or.inl rfl)
                  replace hT := mT_v (i := 26) hT (show (0 : Int) ≤ 0 ∧ 0 ≤ 5000010 from by (first | omega | (simp only [st_s] <;> omega) | assumption | omega | fail))
                  replace ag := ag_v (i := 27) (x := 0) ag (Or.inl rfl)
                  replace hT := mT_v (i := 27) hT (show (0 : Int) ≤ 0 ∧ 0 ≤ 1 from by (first | omega | (simp only [st_s] <;> omega) | assumption | omega | fail))
                  exact ⟨hT, (show ¬ (σ.1 20) = 0 → (τ_196.1 20) = (σ.1 20) from by (first | omega | (simp only [st_s] <;> omega) | assumption | omega | fail)), (show τ_196.2.1 25 (τ_196.1 22) + τ_196.2.1 26 (τ_196.1 22) = (τ_196.1 9) from Z4), (show ca (τ_196.2.1 28) ((τ_196.1 9)) ≤ ca (τ_196.2.1 28) (τ_196.2.1 25 (τ_196.1 22)) + (τ_196.1 29) from Y10), (show ¬ (τ_196.1 28) = 0 → τ_196.2.1 25 (τ_196.1 22) < (τ_196.1 9) ∧ τ_196.2.1 28 ((τ_196.1 9) - 1) = 0 from by (first | assumption | omega | (intro _; refine ⟨by omega, ?_⟩; first | exact hz | (rw [e_τ_196]; exact hz)) | fail)), (show j_eq (σ.2.1 25 (σ.1 22)) (σ.2.1 28) (τ_196.2.1 28) from Y13), (show ((0 : Int)) = 0 from by (first | omega | (simp only [st_s] <;> omega) | assumption | omega | fail)), ag, (show n_sp2 (τ_196.2.1 25 (τ_196.1 22)) (τ_196.1 9) (τ_196.1 22) (τ_196.2.1 27) (τ_196.2.1 28) from NSP), (show (τ_196.1 29) + ca (τ_196.2.1 28) (τ_196.2.1 25 (τ_196.1 22)) ≤ ca (τ_196.2.1 28) (τ_196.1 9) from Y10b), (show ¬ (τ_196.1 28) = 0 → 0 ≤ τ_196.2.1 27 ((τ_196.1 9) - 1) from by (first | assumption | (intro z; exfalso; omega) | (intro _; first | (rw [st27]; omega) | (rw [e_τ_196]; show 0 ≤ τ28.2.1 27 (τ28.1 9 - 1); rw [st27]; omega)) | fail))⟩
            ·
              refine ⟨(show 0 ≤ σ.1 22 ∧ σ.1 22 < 1501 from by (first | omega | (simp only [st_s] <;> omega) | assumption | omega | fail)), ?_⟩
              intro x15 r_x15 e_x15
              have b_x15 : 0 ≤ x15 ∧ x15 ≤ 90000 := by rw [e_x15]; exact hT.2 18 _
              refine ⟨(show 0 ≤ (x15 + (n1 - 1)) ∧ (x15 + (n1 - 1)) < 90100 from by (first | omega | (simp only [st_s] <;> omega) | assumption | omega | fail)), ?_⟩
              intro x17 r_x17 e_x17
              have b_x17 : 0 ≤ x17 ∧ x17 ≤ 1499 := by rw [e_x17]; exact hT.2 20 _
              refine h162 _ _ _ _ ?_
              have kn : x17 < σ.1 22 := by first | (rw [e_x13]; exact PK _ (by omega) (by omega)) | (rw [e_x17, e_x15]; exact HYN _ (by omega) (by omega)) | omega
              refine ⟨_, K_X13_addStep hT (show -300 ≤ x17 from by (first | omega | (simp only [st_s] <;> omega) | assumption | omega | fail)) (show x17 ≤ 1499 from by (first | omega | (simp only [st_s] <;> omega) | assumption | omega | fail)) (show 0 ≤ n2 from by (first | omega | (simp only [st_s] <;> omega) | assumption | omega | fail)) (show n2 ≤ 60000 from by (first | omega | (simp only [st_s] <;> omega) | assumption | omega | fail)) (show (σ.1 9) < 20000 from by (first | omega | (simp only [st_s] <;> omega) | assumption | omega | fail)) (show σ.2.1 26 (σ.1 22) < 20000 from by (first | omega | (simp only [st_s] <;> omega) | assumption | omega | fail)) (show (σ.1 22) = (σ.1 5) from by (first | omega | (simp only [st_s] <;> omega) | assumption | omega | fail)), ?_⟩
              intro τ28 hn_τ28 hf_τ28 hq
              obtain ⟨hT, q26_1, q26_2, q26_3, q26_4, q26_5, q26_6, q26_7⟩ := hq
              replace q26_1 : (τ28.1 9) = (σ.1 9) + 1 := q26_1
              replace q26_2 : τ28.2.1 26 (τ28.1 22) = σ.2.1 26 (σ.1 22) + 1 := q26_2
              replace q26_3 : τ28.2.1 27 = st (σ.2.1 27) (σ.1 9) x17 := q26_3
              replace q26_4 : j_eq ((σ.1 9)) (σ.2.1 28) (τ28.2.1 28) := q26_4
              replace q26_5 : ca (τ28.2.1 28) ((τ28.1 9)) = ca (σ.2.1 28) ((σ.1 9)) := q26_5
              replace q26_6 : τ28.2.1 28 (σ.1 9) = 0 := q26_6
              replace q26_7 : m_ag σ τ28 := q26_7
              replace ag : m_ag σ τ28 := ag_t ag q26_7 rfl
              have w3_τ28 : τ28.1 3 = σ.1 3 := hf_τ28.1 3 (by decide)
              have w5_τ28 : τ28.1 5 = σ.1 5 := hf_τ28.1 5 (by decide)
              have w6_τ28 : τ28.1 6 = σ.1 6 := hf_τ28.1 6 (by decide)
              have w7_τ28 : τ28.1 7 = σ.1 7 := hf_τ28.1 7 (by decide)
              have w8_τ28 : τ28.1 8 = σ.1 8 := hf_τ28.1 8 (by decide)
              have w20_τ28 : τ28.1 20 = σ.1 20 := hf_τ28.1 20 (by decide)
              have w22_τ28 : τ28.1 22 = σ.1 22 := hf_τ28.1 22 (by decide)
              have w25_τ28 : τ28.1 25 = σ.1 25 := hf_τ28.1 25 (by decide)
              have w26_τ28 : τ28.1 26 = σ.1 26 := hf_τ28.1 26 (by decide)
              have w28_τ28 : τ28.1 28 = σ.1 28 := hf_τ28.1 28 (by decide)
              have w29_τ28 : τ28.1 29 = σ.1 29 := hf_τ28.1 29 (by decide)
              have g18_τ28 : τ28.2.1 18 = σ.2.1 18 := hf_τ28.2.1 18 (by decide)
              have g19_τ28 : τ28.2.1 19 = σ.2.1 19 := hf_τ28.2.1 19 (by decide)
              have g20_τ28 : τ28.2.1 20 = σ.2.1 20 := hf_τ28.2.1 20 (by decide)
              have g25_τ28 : τ28.2.1 25 = σ.2.1 25 := hf_τ28.2.1 25 (by decide)
              have g39_τ28 : τ28.2.1 39 = σ.2.1 39 := hf_τ28.2.1 39 (by decide)
              have W3 : τ28.1 3 = σ.1 3 := by first | exact w3_τ28.trans W3 | omega
              have W5 : τ28.1 5 = σ.1 5 := by first | exact w5_τ28.trans W5 | omega
              have W6 : τ28.1 6 = σ.1 6 := by first | exact w6_τ28.trans W6 | omega
              have W7 : τ28.1 7 = σ.1 7 := by first | exact w7_τ28.trans W7 | omega
              have W8 : τ28.1 8 = σ.1 8 := by first | exact w8_τ28.trans W8 | omega
              have W22 : τ28.1 22 = σ.1 22 := by first | exact w22_τ28.trans W22 | omega
              have W25 : τ28.1 25 = σ.1 25 := by first | exact w25_τ28.trans W25 | omega
              have W29 : τ28.1 29 = σ.1 29 := by first | exact w29_τ28.trans W29 | omega
              have G18 : τ28.2.1 18 = σ.2.1 18 := (g18_τ28).trans G18
              have G19 : τ28.2.1 19 = σ.2.1 19 := (g19_τ28).trans G19
              have G20 : τ28.2.1 20 = σ.2.1 20 := (g20_τ28).trans G20
              have G25 : τ28.2.1 25 = σ.2.1 25 := (g25_τ28).trans G25
              have G39 : τ28.2.1 39 = σ.2.1 39 := (g39_τ28).trans G39
              have y18_22_τ28 : τ28.2.1 18 (τ28.1 22) = (σ.2.1 18) (σ.1 22) := by rw [g18_τ28, w22_τ28]
              have y19_22_τ28 : τ28.2.1 19 (τ28.1 22) = (σ.2.1 19) (σ.1 22) := by rw [g19_τ28, w22_τ28]
              have y25_22_τ28 : τ28.2.1 25 (τ28.1 22) = (σ.2.1 25) (σ.1 22) := by rw [g25_τ28, w22_τ28]
              have PK : ∀ k : Int, 0 ≤ k → k < (τ28.1 25) → τ28.2.1 39 k < (τ28.1 22) := by rw [show (∀ k : Int, 0 ≤ k → k < (τ28.1 25) → τ28.2.1 39 k < (τ28.1 22)) = (∀ k : Int, 0 ≤ k → k < (σ.1 25) → σ.2.1 39 k < (σ.1 22)) from by rw [w22_τ28, w25_τ28, g39_τ28]]; exact PK
              have HYN : ∀ k : Int, 0 ≤ k → k < τ28.2.1 19 (τ28.1 22) → τ28.2.1 20 (τ28.2.1 18 (τ28.1 22) + k) < (τ28.1 22) := by rw [show (∀ k : Int, 0 ≤ k → k < τ28.2.1 19 (τ28.1 22) → τ28.2.1 20 (τ28.2.1 18 (τ28.1 22) + k) < (τ28.1 22)) = (∀ k : Int, 0 ≤ k → k < σ.2.1 19 (σ.1 22) → σ.2.1 20 (σ.2.1 18 (σ.1 22) + k) < (σ.1 22)) from by rw [w22_τ28, g18_τ28, g19_τ28, g20_τ28]]; exact HYN
              have A18 : ∀ j, 0 ≤ τ28.2.1 18 j ∧ τ28.2.1 18 j ≤ 90000 := fun j => hT.2 18 j
              have A19 : ∀ j, 0 ≤ τ28.2.1 19 j ∧ τ28.2.1 19 j ≤ 60 := fun j => hT.2 19 j
              have A20 : ∀ j, 0 ≤ τ28.2.1 20 j ∧ τ28.2.1 20 j ≤ 1499 := fun j => hT.2 20 j
              have A25 : ∀ j, 0 ≤ τ28.2.1 25 j ∧ τ28.2.1 25 j ≤ 20000 := fun j => hT.2 25 j
              have A26 : ∀ j, 0 ≤ τ28.2.1 26 j ∧ τ28.2.1 26 j ≤ 20000 := fun j => hT.2 26 j
              have A27 : ∀ j, (-300) ≤ τ28.2.1 27 j ∧ τ28.2.1 27 j ≤ 1499 := fun j => hT.2 27 j
              have A28 : ∀ j, 0 ≤ τ28.2.1 28 j ∧ τ28.2.1 28 j ≤ 1 := fun j => hT.2 28 j
              have A39 : ∀ j, 0 ≤ τ28.2.1 39 j ∧ τ28.2.1 39 j ≤ 1499 := fun j => hT.2 39 j
              have v3 : 0 ≤ τ28.1 3 ∧ τ28.1 3 ≤ 1000 := hT.1 3
              have v5 : 0 ≤ τ28.1 5 ∧ τ28.1 5 ≤ 1500 := hT.1 5
              have v6 : 0 ≤ τ28.1 6 ∧ τ28.1 6 ≤ 30000 := hT.1 6
              have v7 : 0 ≤ τ28.1 7 ∧ τ28.1 7 ≤ 90000 := hT.1 7
              have v8 : 0 ≤ τ28.1 8 ∧ τ28.1 8 ≤ 20000 := hT.1 8
              have v9 : 0 ≤ τ28.1 9 ∧ τ28.1 9 ≤ 20000 := hT.1 9
              have v20 : 0 ≤ τ28.1 20 ∧ τ28.1 20 ≤ 19 := hT.1 20
              have v22 : 0 ≤ τ28.1 22 ∧ τ28.1 22 ≤ 1499 := hT.1 22
              have v25 : 0 ≤ τ28.1 25 ∧ τ28.1 25 ≤ 300 := hT.1 25
              have v26 : 0 ≤ τ28.1 26 ∧ τ28.1 26 ≤ 5000010 := hT.1 26
              have v28 : 0 ≤ τ28.1 28 ∧ τ28.1 28 ≤ 1 := hT.1 28
              have v29 : 0 ≤ τ28.1 29 ∧ τ28.1 29 ≤ 300 := hT.1 29
              have a18_22 : 0 ≤ τ28.2.1 18 (τ28.1 22) ∧ τ28.2.1 18 (τ28.1 22) ≤ 90000 := hT.2 18 _
              have a19_22 : 0 ≤ τ28.2.1 19 (τ28.1 22) ∧ τ28.2.1 19 (τ28.1 22) ≤ 60 := hT.2 19 _
              have a25_22 : 0 ≤ τ28.2.1 25 (τ28.1 22) ∧ τ28.2.1 25 (τ28.1 22) ≤ 20000 := hT.2 25 _
              have a26_22 : 0 ≤ τ28.2.1 26 (τ28.1 22) ∧ τ28.2.1 26 (τ28.1 22) ≤ 20000 := hT.2 26 _
              have a28_9 : 0 ≤ τ28.2.1 28 (τ28.1 9) ∧ τ28.2.1 28 (τ28.1 9) ≤ 1 := hT.2 28 _
              have av9 : σ.1 9 ≤ τ28.1 9 := ag.1 9 (by decide)
              have hz : τ28.2.1 28 (τ28.1 9 - 1) = 0 := by rw [show τ28.1 9 - 1 = σ.1 9 from by omega]; exact q26_6
              have Z4 : τ28.2.1 25 (τ28.1 22) + τ28.2.1 26 (τ28.1 22) = τ28.1 9 := by omega
              have ce := ca_eq q26_4 (n := σ.2.1 25 (σ.1 22)) (by omega)
              have Y10 : ca (τ28.2.1 28) (τ28.1 9) ≤ ca (τ28.2.1 28) (τ28.2.1 25 (τ28.1 22)) + τ28.1 29 := by rw [y25_22_τ28, ce, q26_5]; omega
              have Y12 : ¬ τ28.1 28 = 0 → τ28.2.1 25 (τ28.1 22) < τ28.1 9 ∧ τ28.2.1 28 (τ28.1 9 - 1) = 0 := fun _ => ⟨by omega, hz⟩
              have Y13 := j_eqw q26_4 (show σ.2.1 25 (σ.1 22) ≤ σ.1 9 from by omega)
              have NSP : n_sp2 (τ28.2.1 25 (τ28.1 22)) (τ28.1 9) (τ28.1 22) (τ28.2.1 27) (τ28.2.1 28) := by (rw [show τ28.2.1 25 (τ28.1 22) = σ.2.1 25 (σ.1 22) from by omega, show τ28.1 9 = σ.1 9 + 1 from by omega, show τ28.1 22 = σ.1 22 from by omega]; exact n_sp2_a p9 q26_3 q26_4 (by omega) (by omega) (fun z => by omega) (fun y => absurd q26_6 y))
              have st27 : τ28.2.1 27 (τ28.1 9 - 1) = x17 := by (rw [q26_3, show τ28.1 9 - 1 = σ.1 9 from by omega, st_s])
              have Y10b : τ28.1 29 + ca (τ28.2.1 28) (τ28.2.1 25 (τ28.1 22)) ≤ ca (τ28.2.1 28) (τ28.1 9) := by (rw [y25_22_τ28, ce, q26_5]; have := p10; omega)
              refine ⟨fun c29 => ?_, fun c29 => ?_⟩
              ·
                refine h193 _ _ ?_
                refine ⟨(show 0 ≤ 0 ∧ 0 ≤ 1 from by (first | omega | (simp only [st_s] <;> omega) | assumption | omega | fail)), ?_⟩
                replace ag := ag_v (i := 28) (x := 0) ag (Or.inl rfl)
                replace hT := mT_v (i := 28) hT (show (0 : Int) ≤ 0 ∧ 0 ≤ 1 from by (first | omega | (simp only [st_s] <;> omega) | assumption | omega | fail))
                obtain ⟨τ_196, e_τ_196⟩ : ∃ z : S0, z = s_v τ28 28 0 := ⟨_, rfl⟩
                rw [← e_τ_196]
                replace hT : m_T τ_196 := by rw [e_τ_196]; exact hT
                replace ag : m_ag σ τ_196 := by rw [e_τ_196]; exact ag
                have w3_τ_196 : τ_196.1 3 = τ28.1 3 := by rw [e_τ_196]; rfl
                have w5_τ_196 : τ_196.1 5 = τ28.1 5 := by rw [e_τ_196]; rfl
                have w6_τ_196 : τ_196.1 6 = τ28.1 6 := by rw [e_τ_196]; rfl
                have w7_τ_196 : τ_196.1 7 = τ28.1 7 := by rw [e_τ_196]; rfl
                have w8_τ_196 : τ_196.1 8 = τ28.1 8 := by rw [e_τ_196]; rfl
                have w9_τ_196 : τ_196.1 9 = τ28.1 9 := by rw [e_τ_196]; rfl
                have w20_τ_196 : τ_196.1 20 = τ28.1 20 := by rw [e_τ_196]; rfl
                have w22_τ_196 : τ_196.1 22 = τ28.1 22 := by rw [e_τ_196]; rfl
                have w25_τ_196 : τ_196.1 25 = τ28.1 25 := by rw [e_τ_196]; rfl
                have w26_τ_196 : τ_196.1 26 = τ28.1 26 := by rw [e_τ_196]; rfl
                have w28_τ_196 : τ_196.1 28 = 0 := by rw [e_τ_196]; rfl
                have w29_τ_196 : τ_196.1 29 = τ28.1 29 := by rw [e_τ_196]; rfl
                have g18_τ_196 : τ_196.2.1 18 = τ28.2.1 18 := by rw [e_τ_196]; rfl
                have g19_τ_196 : τ_196.2.1 19 = τ28.2.1 19 := by rw [e_τ_196]; rfl
                have g20_τ_196 : τ_196.2.1 20 = τ28.2.1 20 := by rw [e_τ_196]; rfl
                have g25_τ_196 : τ_196.2.1 25 = τ28.2.1 25 := by rw [e_τ_196]; rfl
                have g26_τ_196 : τ_196.2.1 26 = τ28.2.1 26 := by rw [e_τ_196]; rfl
                have g27_τ_196 : τ_196.2.1 27 = τ28.2.1 27 := by rw [e_τ_196]; rfl
                have g28_τ_196 : τ_196.2.1 28 = τ28.2.1 28 := by rw [e_τ_196]; rfl
                have g39_τ_196 : τ_196.2.1 39 = τ28.2.1 39 := by rw [e_τ_196]; rfl
                have W3 : τ_196.1 3 = σ.1 3 := by first | exact w3_τ_196.trans W3 | omega
                have W5 : τ_196.1 5 = σ.1 5 := by first | exact w5_τ_196.trans W5 | omega
                have W6 : τ_196.1 6 = σ.1 6 := by first | exact w6_τ_196.trans W6 | omega
                have W7 : τ_196.1 7 = σ.1 7 := by first | exact w7_τ_196.trans W7 | omega
                have W8 : τ_196.1 8 = σ.1 8 := by first | exact w8_τ_196.trans W8 | omega
                have W22 : τ_196.1 22 = σ.1 22 := by first | exact w22_τ_196.trans W22 | omega
                have W25 : τ_196.1 25 = σ.1 25 := by first | exact w25_τ_196.trans W25 | omega
                have W29 : τ_196.1 29 = σ.1 29 := by first | exact w29_τ_196.trans W29 | omega
                have G18 : τ_196.2.1 18 = σ.2.1 18 := (g18_τ_196).trans G18
                have G19 : τ_196.2.1 19 = σ.2.1 19 := (g19_τ_196).trans G19
                have G20 : τ_196.2.1 20 = σ.2.1 20 := (g20_τ_196).trans G20
                have G25 : τ_196.2.1 25 = σ.2.1 25 := (g25_τ_196).trans G25
                have G39 : τ_196.2.1 39 = σ.2.1 39 := (g39_τ_196).trans G39
                have y18_22_τ_196 : τ_196.2.1 18 (τ_196.1 22) = (τ28.2.1 18) (τ28.1 22) := by rw [g18_τ_196, w22_τ_196]
                have y19_22_τ_196 : τ_196.2.1 19 (τ_196.1 22) = (τ28.2.1 19) (τ28.1 22) := by rw [g19_τ_196, w22_τ_196]
                have y25_22_τ_196 : τ_196.2.1 25 (τ_196.1 22) = (τ28.2.1 25) (τ28.1 22) := by rw [g25_τ_196, w22_τ_196]
                have y26_22_τ_196 : τ_196.2.1 26 (τ_196.1 22) = (τ28.2.1 26) (τ28.1 22) := by rw [g26_τ_196, w22_τ_196]
                have y28_9_τ_196 : τ_196.2.1 28 (τ_196.1 9) = (τ28.2.1 28) (τ28.1 9) := by rw [g28_τ_196, w9_τ_196]
                have Z4 : τ_196.2.1 25 (τ_196.1 22) + τ_196.2.1 26 (τ_196.1 22) = (τ_196.1 9) := by rw [show (τ_196.2.1 25 (τ_196.1 22) + τ_196.2.1 26 (τ_196.1 22) = (τ_196.1 9)) = (τ28.2.1 25 (τ28.1 22) + τ28.2.1 26 (τ28.1 22) = (τ28.1 9)) from by rw [w9_τ_196, w22_τ_196, g25_τ_196, g26_τ_196]]; exact Z4
                have Y10 : ca (τ_196.2.1 28) ((τ_196.1 9)) ≤ ca (τ_196.2.1 28) (τ_196.2.1 25 (τ_196.1 22)) + (τ_196.1 29) := by rw [show (ca (τ_196.2.1 28) ((τ_196.1 9)) ≤ ca (τ_196.2.1 28) (τ_196.2.1 25 (τ_196.1 22)) + (τ_196.1 29)) = (ca (τ28.2.1 28) ((τ28.1 9)) ≤ ca (τ28.2.1 28) (τ28.2.1 25 (τ28.1 22)) + (τ28.1 29)) from by rw [w9_τ_196, w22_τ_196, w29_τ_196, g25_τ_196, g28_τ_196]]; exact Y10
                have Y13 : j_eq (σ.2.1 25 (σ.1 22)) (σ.2.1 28) (τ_196.2.1 28) := by rw [show (j_eq (σ.2.1 25 (σ.1 22)) (σ.2.1 28) (τ_196.2.1 28)) = (j_eq (σ.2.1 25 (σ.1 22)) (σ.2.1 28) (τ28.2.1 28)) from by rw [g28_τ_196]]; exact Y13
                have NSP : n_sp2 (τ_196.2.1 25 (τ_196.1 22)) (τ_196.1 9) (τ_196.1 22) (τ_196.2.1 27) (τ_196.2.1 28) := by rw [show (n_sp2 (τ_196.2.1 25 (τ_196.1 22)) (τ_196.1 9) (τ_196.1 22) (τ_196.2.1 27) (τ_196.2.1 28)) = (n_sp2 (τ28.2.1 25 (τ28.1 22)) (τ28.1 9) (τ28.1 22) (τ28.2.1 27) (τ28.2.1 28)) from by rw [w9_τ_196, w22_τ_196, g25_τ_196, g27_τ_196, g28_τ_196]]; exact NSP
                have PK : ∀ k : Int, 0 ≤ k → k < (τ_196.1 25) → τ_196.2.1 39 k < (τ_196.1 22) := by rw [show (∀ k : Int, 0 ≤ k → k < (τ_196.1 25) → τ_196.2.1 39 k < (τ_196.1 22)) = (∀ k : Int, 0 ≤ k → k < (τ28.1 25) → τ28.2.1 39 k < (τ28.1 22)) from by rw [w22_τ_196, w25_τ_196, g39_τ_196]]; exact PK
                have Y10b : (τ_196.1 29) + ca (τ_196.2.1 28) (τ_196.2.1 25 (τ_196.1 22)) ≤ ca (τ_196.2.1 28) (τ_196.1 9) := by rw [show ((τ_196.1 29) + ca (τ_196.2.1 28) (τ_196.2.1 25 (τ_196.1 22)) ≤ ca (τ_196.2.1 28) (τ_196.1 9)) = ((τ28.1 29) + ca (τ28.2.1 28) (τ28.2.1 25 (τ28.1 22)) ≤ ca (τ28.2.1 28) (τ28.1 9)) from by rw [w9_τ_196, w22_τ_196, w29_τ_196, g25_τ_196, g28_τ_196]]; exact Y10b
                have HYN : ∀ k : Int, 0 ≤ k → k < τ_196.2.1 19 (τ_196.1 22) → τ_196.2.1 20 (τ_196.2.1 18 (τ_196.1 22) + k) < (τ_196.1 22) := by rw [show (∀ k : Int, 0 ≤ k → k < τ_196.2.1 19 (τ_196.1 22) → τ_196.2.1 20 (τ_196.2.1 18 (τ_196.1 22) + k) < (τ_196.1 22)) = (∀ k : Int, 0 ≤ k → k < τ28.2.1 19 (τ28.1 22) → τ28.2.1 20 (τ28.2.1 18 (τ28.1 22) + k) < (τ28.1 22)) from by rw [w22_τ_196, g18_τ_196, g19_τ_196, g20_τ_196]]; exact HYN
                have A18 : ∀ j, 0 ≤ τ_196.2.1 18 j ∧ τ_196.2.1 18 j ≤ 90000 := fun j => hT.2 18 j
                have A19 : ∀ j, 0 ≤ τ_196.2.1 19 j ∧ τ_196.2.1 19 j ≤ 60 := fun j => hT.2 19 j
                have A20 : ∀ j, 0 ≤ τ_196.2.1 20 j ∧ τ_196.2.1 20 j ≤ 1499 := fun j => hT.2 20 j
                have A25 : ∀ j, 0 ≤ τ_196.2.1 25 j ∧ τ_196.2.1 25 j ≤ 20000 := fun j => hT.2 25 j
                have A26 : ∀ j, 0 ≤ τ_196.2.1 26 j ∧ τ_196.2.1 26 j ≤ 20000 := fun j => hT.2 26 j
                have A27 : ∀ j, (-300) ≤ τ_196.2.1 27 j ∧ τ_196.2.1 27 j ≤ 1499 := fun j => hT.2 27 j
                have A28 : ∀ j, 0 ≤ τ_196.2.1 28 j ∧ τ_196.2.1 28 j ≤ 1 := fun j => hT.2 28 j
                have A39 : ∀ j, 0 ≤ τ_196.2.1 39 j ∧ τ_196.2.1 39 j ≤ 1499 := fun j => hT.2 39 j
                have v3 : 0 ≤ τ_196.1 3 ∧ τ_196.1 3 ≤ 1000 := hT.1 3
                have v5 : 0 ≤ τ_196.1 5 ∧ τ_196.1 5 ≤ 1500 := hT.1 5
                have v6 : 0 ≤ τ_196.1 6 ∧ τ_196.1 6 ≤ 30000 := hT.1 6
                have v7 : 0 ≤ τ_196.1 7 ∧ τ_196.1 7 ≤ 90000 := hT.1 7
                have v8 : 0 ≤ τ_196.1 8 ∧ τ_196.1 8 ≤ 20000 := hT.1 8
                have v9 : 0 ≤ τ_196.1 9 ∧ τ_196.1 9 ≤ 20000 := hT.1 9
                have v20 : 0 ≤ τ_196.1 20 ∧ τ_196.1 20 ≤ 19 := hT.1 20
                have v22 : 0 ≤ τ_196.1 22 ∧ τ_196.1 22 ≤ 1499 := hT.1 22
                have v25 : 0 ≤ τ_196.1 25 ∧ τ_196.1 25 ≤ 300 := hT.1 25
                have v26 : 0 ≤ τ_196.1 26 ∧ τ_196.1 26 ≤ 5000010 := hT.1 26
                have v28 : 0 ≤ τ_196.1 28 ∧ τ_196.1 28 ≤ 1 := hT.1 28
                have v29 : 0 ≤ τ_196.1 29 ∧ τ_196.1 29 ≤ 300 := hT.1 29
                have a18_22 : 0 ≤ τ_196.2.1 18 (τ_196.1 22) ∧ τ_196.2.1 18 (τ_196.1 22) ≤ 90000 := hT.2 18 _
                have a19_22 : 0 ≤ τ_196.2.1 19 (τ_196.1 22) ∧ τ_196.2.1 19 (τ_196.1 22) ≤ 60 := hT.2 19 _
                have a25_22 : 0 ≤ τ_196.2.1 25 (τ_196.1 22) ∧ τ_196.2.1 25 (τ_196.1 22) ≤ 20000 := hT.2 25 _
                have a26_22 : 0 ≤ τ_196.2.1 26 (τ_196.1 22) ∧ τ_196.2.1 26 (τ_196.1 22) ≤ 20000 := hT.2 26 _
                have a28_9 : 0 ≤ τ_196.2.1 28 (τ_196.1 9) ∧ τ_196.2.1 28 (τ_196.1 9) ≤ 1 := hT.2 28 _
                have av9 : σ.1 9 ≤ τ_196.1 9 := ag.1 9 (by decide)
                refine h196 _ ?_
                replace ag := ag_v (i := 26) (x := 0) ag (Or.inl rfl)
                replace hT := mT_v (i := 26) hT (show (0 : Int) ≤ 0 ∧ 0 ≤ 5000010 from by (first | omega | (simp only [st_s] <;> omega) | assumption | omega | fail))
                replace ag := ag_v (i := 27) (x := 0) ag (Or.inl rfl)
                replace hT := mT_v (i := 27) hT (show (0 : Int) ≤ 0 ∧ 0 ≤ 1 from by (first | omega | (simp only [st_s] <;> omega) | assumption | omega | fail))
                exact ⟨hT, (show ¬ (σ.1 20) = 0 → (τ_196.1 20) = (σ.1 20) from by (first | omega | (simp only [st_s] <;> omega) | assumption | omega | fail)), (show τ_196.2.1 25 (τ_196.1 22) + τ_196.2.1 26 (τ_196.1 22) = (τ_196.1 9) from Z4), (show ca (τ_196.2.1 28) ((τ_196.1 9)) ≤ ca (τ_196.2.1 28) (τ_196.2.1 25 (τ_196.1 22)) + (τ_196.1 29) from Y10), (show ¬ (τ_196.1 28) = 0 → τ_196.2.1 25 (τ_196.1 22) < (τ_196.1 9) ∧ τ_196.2.1 28 ((τ_196.1 9) - 1) = 0 from by (first | assumption | omega | (intro _; refine ⟨by omega, ?_⟩; first | exact hz | (rw [e_τ_196]; exact hz)) | fail)), (show j_eq (σ.2.1 25 (σ.1 22)) (σ.2.1 28) (τ_196.2.1 28) from Y13), (show ((0 : Int)) = 0 from by (first | omega | (simp only [st_s] <;> omega) | assumption | omega | fail)), ag, (show n_sp2 (τ_196.2.1 25 (τ_196.1 22)) (τ_196.1 9) (τ_196.1 22) (τ_196.2.1 27) (τ_196.2.1 28) from NSP), (show (τ_196.1 29) + ca (τ_196.2.1 28) (τ_196.2.1 25 (τ_196.1 22)) ≤ ca (τ_196.2.1 28) (τ_196.1 9) from Y10b), (show ¬ (τ_196.1 28) = 0 → 0 ≤ τ_196.2.1 27 ((τ_196.1 9) - 1) from by (first | assumption | (intro z; exfalso; omega) | (intro _; first | (rw [st27]; omega) | (rw [e_τ_196]; show 0 ≤ τ28.2.1 27 (τ28.1 9 - 1); rw [st27]; omega)) | fail))⟩
              ·
                refine ⟨(show 0 ≤ x17 ∧ x17 < 1501 from by (first | omega | (simp only [st_s] <;> omega) | assumption | omega | fail)), ?_⟩
                intro x31 r_x31 e_x31
                have b_x31 : 0 ≤ x31 ∧ x31 ≤ 4 := by rw [e_x31]; exact hT.2 13 _
                refine ⟨fun c32 => ?_, fun c32 => ?_⟩
                ·
                  refine h193 _ _ ?_
                  refine ⟨(show 0 ≤ 0 ∧ 0 ≤ 1 from by (first | omega | (simp only [st_s] <;> omega) | assumption | omega | fail)), ?_⟩
                  replace ag := ag_v (i := 28) (x := 0) ag (Or.inl rfl)
                  replace hT := mT_v (i := 28) hT (show (0 : Int) ≤ 0 ∧ 0 ≤ 1 from by (first | omega | (simp only [st_s] <;> omega) | assumption | omega | fail))
                  obtain ⟨τ_196, e_τ_196⟩ : ∃ z : S0, z = s_v τ28 28 0 := ⟨_, rfl⟩
                  rw [← e_τ_196]
                  replace hT : m_T τ_196 := by rw [e_τ_196]; exact hT
                  replace ag : m_ag σ τ_196 := by rw [e_τ_196]; exact ag
                  have w3_τ_196 : τ_196.1 3 = τ28.1 3 := by rw [e_τ_196]; rfl
                  have w5_τ_196 : τ_196.1 5 = τ28.1 5 := by rw [e_τ_196]; rfl
                  have w6_τ_196 : τ_196.1 6 = τ28.1 6 := by rw [e_τ_196]; rfl
                  have w7_τ_196 : τ_196.1 7 = τ28.1 7 := by rw [e_τ_196]; rfl
                  have w8_τ_196 : τ_196.1 8 = τ28.1 8 := by rw [e_τ_196]; rfl
                  have w9_τ_196 : τ_196.1 9 = τ28.1 9 := by rw [e_τ_196]; rfl
                  have w20_τ_196 : τ_196.1 20 = τ28.1 20 := by rw [e_τ_196]; rfl
                  have w22_τ_196 : τ_196.1 22 = τ28.1 22 := by rw [e_τ_196]; rfl
                  have w25_τ_196 : τ_196.1 25 = τ28.1 25 := by rw [e_τ_196]; rfl
                  have w26_τ_196 : τ_196.1 26 = τ28.1 26 := by rw [e_τ_196]; rfl
                  have w28_τ_196 : τ_196.1 28 = 0 := by rw [e_τ_196]; rfl
                  have w29_τ_196 : τ_196.1 29 = τ28.1 29 := by rw [e_τ_196]; rfl
                  have g18_τ_196 : τ_196.2.1 18 = τ28.2.1 18 := by rw [e_τ_196]; rfl
                  have g19_τ_196 : τ_196.2.1 19 = τ28.2.1 19 := by rw [e_τ_196]; rfl
                  have g20_τ_196 : τ_196.2.1 20 = τ28.2.1 20 := by rw [e_τ_196]; rfl
                  have g25_τ_196 : τ_196.2.1 25 = τ28.2.1 25 := by rw [e_τ_196]; rfl
                  have g26_τ_196 : τ_196.2.1 26 = τ28.2.1 26 := by rw [e_τ_196]; rfl
                  have g27_τ_196 : τ_196.2.1 27 = τ28.2.1 27 := by rw [e_τ_196]; rfl
                  have g28_τ_196 : τ_196.2.1 28 = τ28.2.1 28 := by rw [e_τ_196]; rfl
                  have g39_τ_196 : τ_196.2.1 39 = τ28.2.1 39 := by rw [e_τ_196]; rfl
                  have W3 : τ_196.1 3 = σ.1 3 := by first | exact w3_τ_196.trans W3 | omega
                  have W5 : τ_196.1 5 = σ.1 5 := by first | exact w5_τ_196.trans W5 | omega
                  have W6 : τ_196.1 6 = σ.1 6 := by first | exact w6_τ_196.trans W6 | omega
                  have W7 : τ_196.1 7 = σ.1 7 := by first | exact w7_τ_196.trans W7 | omega
                  have W8 : τ_196.1 8 = σ.1 8 := by first | exact w8_τ_196.trans W8 | omega
                  have W22 : τ_196.1 22 = σ.1 22 := by first | exact w22_τ_196.trans W22 | omega
                  have W25 : τ_196.1 25 = σ.1 25 := by first | exact w25_τ_196.trans W25 | omega
                  have W29 : τ_196.1 29 = σ.1 29 := by first | exact w29_τ_196.trans W29 | omega
                  have G18 : τ_196.2.1 18 = σ.2.1 18 := (g18_τ_196).trans G18
                  have G19 : τ_196.2.1 19 = σ.2.1 19 := (g19_τ_196).trans G19
                  have G20 : τ_196.2.1 20 = σ.2.1 20 := (g20_τ_196).trans G20
                  have G25 : τ_196.2.1 25 = σ.2.1 25 := (g25_τ_196).trans G25
                  have G39 : τ_196.2.1 39 = σ.2.1 39 := (g39_τ_196).trans G39
                  have y18_22_τ_196 : τ_196.2.1 18 (τ_196.1 22) = (τ28.2.1 18) (τ28.1 22) := by rw [g18_τ_196, w22_τ_196]
                  have y19_22_τ_196 : τ_196.2.1 19 (τ_196.1 22) = (τ28.2.1 19) (τ28.1 22) := by rw [g19_τ_196, w22_τ_196]
                  have y25_22_τ_196 : τ_196.2.1 25 (τ_196.1 22) = (τ28.2.1 25) (τ28.1 22) := by rw [g25_τ_196, w22_τ_196]
                  have y26_22_τ_196 : τ_196.2.1 26 (τ_196.1 22) = (τ28.2.1 26) (τ28.1 22) := by rw [g26_τ_196, w22_τ_196]
                  have y28_9_τ_196 : τ_196.2.1 28 (τ_196.1 9) = (τ28.2.1 28) (τ28.1 9) := by rw [g28_τ_196, w9_τ_196]
                  have Z4 : τ_196.2.1 25 (τ_196.1 22) + τ_196.2.1 26 (τ_196.1 22) = (τ_196.1 9) := by rw [show (τ_196.2.1 25 (τ_196.1 22) + τ_196.2.1 26 (τ_196.1 22) = (τ_196.1 9)) = (τ28.2.1 25 (τ28.1 22) + τ28.2.1 26 (τ28.1 22) = (τ28.1 9)) from by rw [w9_τ_196, w22_τ_196, g25_τ_196, g26_τ_196]]; exact Z4
                  have Y10 : ca (τ_196.2.1 28) ((τ_196.1 9)) ≤ ca (τ_196.2.1 28) (τ_196.2.1 25 (τ_196.1 22)) + (τ_196.1 29) := by rw [show (ca (τ_196.2.1 28) ((τ_196.1 9)) ≤ ca (τ_196.2.1 28) (τ_196.2.1 25 (τ_196.1 22)) + (τ_196.1 29)) = (ca (τ28.2.1 28) ((τ28.1 9)) ≤ ca (τ28.2.1 28) (τ28.2.1 25 (τ28.1 22)) + (τ28.1 29)) from by rw [w9_τ_196, w22_τ_196, w29_τ_196, g25_τ_196, g28_τ_196]]; exact Y10
                  have Y13 : j_eq (σ.2.1 25 (σ.1 22)) (σ.2.1 28) (τ_196.2.1 28) := by rw [show (j_eq (σ.2.1 25 (σ.1 22)) (σ.2.1 28) (τ_196.2.1 28)) = (j_eq (σ.2.1 25 (σ.1 22)) (σ.2.1 28) (τ28.2.1 28)) from by rw [g28_τ_196]]; exact Y13
                  have NSP : n_sp2 (τ_196.2.1 25 (τ_196.1 22)) (τ_196.1 9) (τ_196.1 22) (τ_196.2.1 27) (τ_196.2.1 28) := by rw [show (n_sp2 (τ_196.2.1 25 (τ_196.1 22)) (τ_196.1 9) (τ_196.1 22) (τ_196.2.1 27) (τ_196.2.1 28)) = (n_sp2 (τ28.2.1 25 (τ28.1 22)) (τ28.1 9) (τ28.1 22) (τ28.2.1 27) (τ28.2.1 28)) from by rw [w9_τ_196, w22_τ_196, g25_τ_196, g27_τ_196, g28_τ_196]]; exact NSP
                  have PK : ∀ k : Int, 0 ≤ k → k < (τ_196.1 25) → τ_196.2.1 39 k < (τ_196.1 22) := by rw [show (∀ k : Int, 0 ≤ k → k < (τ_196.1 25) → τ_196.2.1 39 k < (τ_196.1 22)) = (∀ k : Int, 0 ≤ k → k < (τ28.1 25) → τ28.2.1 39 k < (τ28.1 22)) from by rw [w22_τ_196, w25_τ_196, g39_τ_196]]; exact PK
                  have Y10b : (τ_196.1 29) + ca (τ_196.2.1 28) (τ_196.2.1 25 (τ_196.1 22)) ≤ ca (τ_196.2.1 28) (τ_196.1 9) := by rw [show ((τ_196.1 29) + ca (τ_196.2.1 28) (τ_196.2.1 25 (τ_196.1 22)) ≤ ca (τ_196.2.1 28) (τ_196.1 9)) = ((τ28.1 29) + ca (τ28.2.1 28) (τ28.2.1 25 (τ28.1 22)) ≤ ca (τ28.2.1 28) (τ28.1 9)) from by rw [w9_τ_196, w22_τ_196, w29_τ_196, g25_τ_196, g28_τ_196]]; exact Y10b
                  have HYN : ∀ k : Int, 0 ≤ k → k < τ_196.2.1 19 (τ_196.1 22) → τ_196.2.1 20 (τ_196.2.1 18 (τ_196.1 22) + k) < (τ_196.1 22) := by rw [show (∀ k : Int, 0 ≤ k → k < τ_196.2.1 19 (τ_196.1 22) → τ_196.2.1 20 (τ_196.2.1 18 (τ_196.1 22) + k) < (τ_196.1 22)) = (∀ k : Int, 0 ≤ k → k < τ28.2.1 19 (τ28.1 22) → τ28.2.1 20 (τ28.2.1 18 (τ28.1 22) + k) < (τ28.1 22)) from by rw [w22_τ_196, g18_τ_196, g19_τ_196, g20_τ_196]]; exact HYN
                  have A18 : ∀ j, 0 ≤ τ_196.2.1 18 j ∧ τ_196.2.1 18 j ≤ 90000 := fun j => hT.2 18 j
                  have A19 : ∀ j, 0 ≤ τ_196.2.1 19 j ∧ τ_196.2.1 19 j ≤ 60 := fun j => hT.2 19 j
                  have A20 : ∀ j, 0 ≤ τ_196.2.1 20 j ∧ τ_196.2.1 20 j ≤ 1499 := fun j => hT.2 20 j
                  have A25 : ∀ j, 0 ≤ τ_196.2.1 25 j ∧ τ_196.2.1 25 j ≤ 20000 := fun j => hT.2 25 j
                  have A26 : ∀ j, 0 ≤ τ_196.2.1 26 j ∧ τ_196.2.1 26 j ≤ 20000 := fun j => hT.2 26 j
                  have A27 : ∀ j, (-300) ≤ τ_196.2.1 27 j ∧ τ_196.2.1 27 j ≤ 1499 := fun j => hT.2 27 j
                  have A28 : ∀ j, 0 ≤ τ_196.2.1 28 j ∧ τ_196.2.1 28 j ≤ 1 := fun j => hT.2 28 j
                  have A39 : ∀ j, 0 ≤ τ_196.2.1 39 j ∧ τ_196.2.1 39 j ≤ 1499 := fun j => hT.2 39 j
                  have v3 : 0 ≤ τ_196.1 3 ∧ τ_196.1 3 ≤ 1000 := hT.1 3
                  have v5 : 0 ≤ τ_196.1 5 ∧ τ_196.1 5 ≤ 1500 := hT.1 5
                  have v6 : 0 ≤ τ_196.1 6 ∧ τ_196.1 6 ≤ 30000 := hT.1 6
                  have v7 : 0 ≤ τ_196.1 7 ∧ τ_196.1 7 ≤ 90000 := hT.1 7
                  have v8 : 0 ≤ τ_196.1 8 ∧ τ_196.1 8 ≤ 20000 := hT.1 8
                  have v9 : 0 ≤ τ_196.1 9 ∧ τ_196.1 9 ≤ 20000 := hT.1 9
                  have v20 : 0 ≤ τ_196.1 20 ∧ τ_196.1 20 ≤ 19 := hT.1 20
                  have v22 : 0 ≤ τ_196.1 22 ∧ τ_196.1 22 ≤ 1499 := hT.1 22
                  have v25 : 0 ≤ τ_196.1 25 ∧ τ_196.1 25 ≤ 300 := hT.1 25
                  have v26 : 0 ≤ τ_196.1 26 ∧ τ_196.1 26 ≤ 5000010 := hT.1 26
                  have v28 : 0 ≤ τ_196.1 28 ∧ τ_196.1 28 ≤ 1 := hT.1 28
                  have v29 : 0 ≤ τ_196.1 29 ∧ τ_196.1 29 ≤ 300 := hT.1 29
                  have a18_22 : 0 ≤ τ_196.2.1 18 (τ_196.1 22) ∧ τ_196.2.1 18 (τ_196.1 22) ≤ 90000 := hT.2 18 _
                  have a19_22 : 0 ≤ τ_196.2.1 19 (τ_196.1 22) ∧ τ_196.2.1 19 (τ_196.1 22) ≤ 60 := hT.2 19 _
                  have a25_22 : 0 ≤ τ_196.2.1 25 (τ_196.1 22) ∧ τ_196.2.1 25 (τ_196.1 22) ≤ 20000 := hT.2 25 _
                  have a26_22 : 0 ≤ τ_196.2.1 26 (τ_196.1 22) ∧ τ_196.2.1 26 (τ_196.1 22) ≤ 20000 := hT.2 26 _
                  have a28_9 : 0 ≤ τ_196.2.1 28 (τ_196.1 9) ∧ τ_196.2.1 28 (τ_196.1 9) ≤ 1 := hT.2 28 _
                  have av9 : σ.1 9 ≤ τ_196.1 9 := ag.1 9 (by decide)
                  refine h196 _ ?_
                  replace ag := ag_v (i := 26) (x := 0) ag (Or.inl rfl)
                  replace hT := mT_v (i := 26) hT (show (0 : Int) ≤ 0 ∧ 0 ≤ 5000010 from by (first | omega | (simp only [st_s] <;> omega) | assumption | omega | fail))
                  replace ag := ag_v (i := 27) (x := 0) ag (Or.inl rfl)
                  replace hT := mT_v (i := 27) hT (show (0 : Int) ≤ 0 ∧ 0 ≤ 1 from by (first | omega | (simp only [st_s] <;> omega) | assumption | omega | fail))
                  exact ⟨hT, (show ¬ (σ.1 20) = 0 → (τ_196.1 20) = (σ.1 20) from by (first | omega | (simp only [st_s] <;> omega) | assumption | omega | fail)), (show τ_196.2.1 25 (τ_196.1 22) + τ_196.2.1 26 (τ_196.1 22) = (τ_196.1 9) from Z4), (show ca (τ_196.2.1 28) ((τ_196.1 9)) ≤ ca (τ_196.2.1 28) (τ_196.2.1 25 (τ_196.1 22)) + (τ_196.1 29) from Y10), (show ¬ (τ_196.1 28) = 0 → τ_196.2.1 25 (τ_196.1 22) < (τ_196.1 9) ∧ τ_196.2.1 28 ((τ_196.1 9) - 1) = 0 from by (first | assumption | omega | (intro _; refine ⟨by omega, ?_⟩; first | exact hz | (rw [e_τ_196]; exact hz)) | fail)), (show j_eq (σ.2.1 25 (σ.1 22)) (σ.2.1 28) (τ_196.2.1 28) from Y13), (show ((0 : Int)) = 0 from by (first | omega | (simp only [st_s] <;> omega) | assumption | omega | fail)), ag, (show n_sp2 (τ_196.2.1 25 (τ_196.1 22)) (τ_196.1 9) (τ_196.1 22) (τ_196.2.1 27) (τ_196.2.1 28) from NSP), (show (τ_196.1 29) + ca (τ_196.2.1 28) (τ_196.2.1 25 (τ_196.1 22)) ≤ ca (τ_196.2.1 28) (τ_196.1 9) from Y10b), (show ¬ (τ_196.1 28) = 0 → 0 ≤ τ_196.2.1 27 ((τ_196.1 9) - 1) from by (first | assumption | (intro z; exfalso; omega) | (intro _; first | (rw [st27]; omega) | (rw [e_τ_196]; show 0 ≤ τ28.2.1 27 (τ28.1 9 - 1); rw [st27]; omega)) | fail))⟩
                ·
                  refine h193 _ _ ?_
                  refine ⟨(show 0 ≤ 1 ∧ 1 ≤ 1 from by (first | omega | (simp only [st_s] <;> omega) | assumption | omega | fail)), ?_⟩
                  replace ag := ag_v (i := 28) (x := 1) ag (Or.inl rfl)
                  replace hT := mT_v (i := 28) hT (show (0 : Int) ≤ 1 ∧ 1 ≤ 1 from by (first | omega | (simp only [st_s] <;> omega) | assumption | omega | fail))
                  obtain ⟨τ_196, e_τ_196⟩ : ∃ z : S0, z = s_v τ28 28 1 := ⟨_, rfl⟩
                  rw [← e_τ_196]
                  replace hT : m_T τ_196 := by rw [e_τ_196]; exact hT
                  replace ag : m_ag σ τ_196 := by rw [e_τ_196]; exact ag
                  have w3_τ_196 : τ_196.1 3 = τ28.1 3 := by rw [e_τ_196]; rfl
                  have w5_τ_196 : τ_196.1 5 = τ28.1 5 := by rw [e_τ_196]; rfl
                  have w6_τ_196 : τ_196.1 6 = τ28.1 6 := by rw [e_τ_196]; rfl
                  have w7_τ_196 : τ_196.1 7 = τ28.1 7 := by rw [e_τ_196]; rfl
                  have w8_τ_196 : τ_196.1 8 = τ28.1 8 := by rw [e_τ_196]; rfl
                  have w9_τ_196 : τ_196.1 9 = τ28.1 9 := by rw [e_τ_196]; rfl
                  have w20_τ_196 : τ_196.1 20 = τ28.1 20 := by rw [e_τ_196]; rfl
                  have w22_τ_196 : τ_196.1 22 = τ28.1 22 := by rw [e_τ_196]; rfl
                  have w25_τ_196 : τ_196.1 25 = τ28.1 25 := by rw [e_τ_196]; rfl
                  have w26_τ_196 : τ_196.1 26 = τ28.1 26 := by rw [e_τ_196]; rfl
                  have w28_τ_196 : τ_196.1 28 = 1 := by rw [e_τ_196]; rfl
                  have w29_τ_196 : τ_196.1 29 = τ28.1 29 := by rw [e_τ_196]; rfl
                  have g18_τ_196 : τ_196.2.1 18 = τ28.2.1 18 := by rw [e_τ_196]; rfl
                  have g19_τ_196 : τ_196.2.1 19 = τ28.2.1 19 := by rw [e_τ_196]; rfl
                  have g20_τ_196 : τ_196.2.1 20 = τ28.2.1 20 := by rw [e_τ_196]; rfl
                  have g25_τ_196 : τ_196.2.1 25 = τ28.2.1 25 := by rw [e_τ_196]; rfl
                  have g26_τ_196 : τ_196.2.1 26 = τ28.2.1 26 := by rw [e_τ_196]; rfl
                  have g27_τ_196 : τ_196.2.1 27 = τ28.2.1 27 := by rw [e_τ_196]; rfl
                  have g28_τ_196 : τ_196.2.1 28 = τ28.2.1 28 := by rw [e_τ_196]; rfl
                  have g39_τ_196 : τ_196.2.1 39 = τ28.2.1 39 := by rw [e_τ_196]; rfl
                  have W3 : τ_196.1 3 = σ.1 3 := by first | exact w3_τ_196.trans W3 | omega
                  have W5 : τ_196.1 5 = σ.1 5 := by first | exact w5_τ_196.trans W5 | omega
                  have W6 : τ_196.1 6 = σ.1 6 := by first | exact w6_τ_196.trans W6 | omega
                  have W7 : τ_196.1 7 = σ.1 7 := by first | exact w7_τ_196.trans W7 | omega
                  have W8 : τ_196.1 8 = σ.1 8 := by first | exact w8_τ_196.trans W8 | omega
                  have W22 : τ_196.1 22 = σ.1 22 := by first | exact w22_τ_196.trans W22 | omega
                  have W25 : τ_196.1 25 = σ.1 25 := by first | exact w25_τ_196.trans W25 | omega
                  have W29 : τ_196.1 29 = σ.1 29 := by first | exact w29_τ_196.trans W29 | omega
                  have G18 : τ_196.2.1 18 = σ.2.1 18 := (g18_τ_196).trans G18
                  have G19 : τ_196.2.1 19 = σ.2.1 19 := (g19_τ_196).trans G19
                  have G20 : τ_196.2.1 20 = σ.2.1 20 := (g20_τ_196).trans G20
                  have G25 : τ_196.2.1 25 = σ.2.1 25 := (g25_τ_196).trans G25
                  have G39 : τ_196.2.1 39 = σ.2.1 39 := (g39_τ_196).trans G39
                  have y18_22_τ_196 : τ_196.2.1 18 (τ_196.1 22) = (τ28.2.1 18) (τ28.1 22) := by rw [g18_τ_196, w22_τ_196]
                  have y19_22_τ_196 : τ_196.2.1 19 (τ_196.1 22) = (τ28.2.1 19) (τ28.1 22) := by rw [g19_τ_196, w22_τ_196]
                  have y25_22_τ_196 : τ_196.2.1 25 (τ_196.1 22) = (τ28.2.1 25) (τ28.1 22) := by rw [g25_τ_196, w22_τ_196]
                  have y26_22_τ_196 : τ_196.2.1 26 (τ_196.1 22) = (τ28.2.1 26) (τ28.1 22) := by rw [g26_τ_196, w22_τ_196]
                  have y28_9_τ_196 : τ_196.2.1 28 (τ_196.1 9) = (τ28.2.1 28) (τ28.1 9) := by rw [g28_τ_196, w9_τ_196]
                  have Z4 : τ_196.2.1 25 (τ_196.1 22) + τ_196.2.1 26 (τ_196.1 22) = (τ_196.1 9) := by rw [show (τ_196.2.1 25 (τ_196.1 22) + τ_196.2.1 26 (τ_196.1 22) = (τ_196.1 9)) = (τ28.2.1 25 (τ28.1 22) + τ28.2.1 26 (τ28.1 22) = (τ28.1 9)) from by rw [w9_τ_196, w22_τ_196, g25_τ_196, g26_τ_196]]; exact Z4
                  have Y10 : ca (τ_196.2.1 28) ((τ_196.1 9)) ≤ ca (τ_196.2.1 28) (τ_196.2.1 25 (τ_196.1 22)) + (τ_196.1 29) := by rw [show (ca (τ_196.2.1 28) ((τ_196.1 9)) ≤ ca (τ_196.2.1 28) (τ_196.2.1 25 (τ_196.1 22)) + (τ_196.1 29)) = (ca (τ28.2.1 28) ((τ28.1 9)) ≤ ca (τ28.2.1 28) (τ28.2.1 25 (τ28.1 22)) + (τ28.1 29)) from by rw [w9_τ_196, w22_τ_196, w29_τ_196, g25_τ_196, g28_τ_196]]; exact Y10
                  have Y13 : j_eq (σ.2.1 25 (σ.1 22)) (σ.2.1 28) (τ_196.2.1 28) := by rw [show (j_eq (σ.2.1 25 (σ.1 22)) (σ.2.1 28) (τ_196.2.1 28)) = (j_eq (σ.2.1 25 (σ.1 22)) (σ.2.1 28) (τ28.2.1 28)) from by rw [g28_τ_196]]; exact Y13
                  have NSP : n_sp2 (τ_196.2.1 25 (τ_196.1 22)) (τ_196.1 9) (τ_196.1 22) (τ_196.2.1 27) (τ_196.2.1 28) := by rw [show (n_sp2 (τ_196.2.1 25 (τ_196.1 22)) (τ_196.1 9) (τ_196.1 22) (τ_196.2.1 27) (τ_196.2.1 28)) = (n_sp2 (τ28.2.1 25 (τ28.1 22)) (τ28.1 9) (τ28.1 22) (τ28.2.1 27) (τ28.2.1 28)) from by rw [w9_τ_196, w22_τ_196, g25_τ_196, g27_τ_196, g28_τ_196]]; exact NSP
                  have PK : ∀ k : Int, 0 ≤ k → k < (τ_196.1 25) → τ_196.2.1 39 k < (τ_196.1 22) := by rw [show (∀ k : Int, 0 ≤ k → k < (τ_196.1 25) → τ_196.2.1 39 k < (τ_196.1 22)) = (∀ k : Int, 0 ≤ k → k < (τ28.1 25) → τ28.2.1 39 k < (τ28.1 22)) from by rw [w22_τ_196, w25_τ_196, g39_τ_196]]; exact PK
                  have Y10b : (τ_196.1 29) + ca (τ_196.2.1 28) (τ_196.2.1 25 (τ_196.1 22)) ≤ ca (τ_196.2.1 28) (τ_196.1 9) := by rw [show ((τ_196.1 29) + ca (τ_196.2.1 28) (τ_196.2.1 25 (τ_196.1 22)) ≤ ca (τ_196.2.1 28) (τ_196.1 9)) = ((τ28.1 29) + ca (τ28.2.1 28) (τ28.2.1 25 (τ28.1 22)) ≤ ca (τ28.2.1 28) (τ28.1 9)) from by rw [w9_τ_196, w22_τ_196, w29_τ_196, g25_τ_196, g28_τ_196]]; exact Y10b
                  have HYN : ∀ k : Int, 0 ≤ k → k < τ_196.2.1 19 (τ_196.1 22) → τ_196.2.1 20 (τ_196.2.1 18 (τ_196.1 22) + k) < (τ_196.1 22) := by rw [show (∀ k : Int, 0 ≤ k → k < τ_196.2.1 19 (τ_196.1 22) → τ_196.2.1 20 (τ_196.2.1 18 (τ_196.1 22) + k) < (τ_196.1 22)) = (∀ k : Int, 0 ≤ k → k < τ28.2.1 19 (τ28.1 22) → τ28.2.1 20 (τ28.2.1 18 (τ28.1 22) + k) < (τ28.1 22)) from by rw [w22_τ_196, g18_τ_196, g19_τ_196, g20_τ_196]]; exact HYN
                  have A18 : ∀ j, 0 ≤ τ_196.2.1 18 j ∧ τ_196.2.1 18 j ≤ 90000 := fun j => hT.2 18 j
                  have A19 : ∀ j, 0 ≤ τ_196.2.1 19 j ∧ τ_196.2.1 19 j ≤ 60 := fun j => hT.2 19 j
                  have A20 : ∀ j, 0 ≤ τ_196.2.1 20 j ∧ τ_196.2.1 20 j ≤ 1499 := fun j => hT.2 20 j
                  have A25 : ∀ j, 0 ≤ τ_196.2.1 25 j ∧ τ_196.2.1 25 j ≤ 20000 := fun j => hT.2 25 j
                  have A26 : ∀ j, 0 ≤ τ_196.2.1 26 j ∧ τ_196.2.1 26 j ≤ 20000 := fun j => hT.2 26 j
                  have A27 : ∀ j, (-300) ≤ τ_196.2.1 27 j ∧ τ_196.2.1 27 j ≤ 1499 := fun j => hT.2 27 j
                  have A28 : ∀ j, 0 ≤ τ_196.2.1 28 j ∧ τ_196.2.1 28 j ≤ 1 := fun j => hT.2 28 j
                  have A39 : ∀ j, 0 ≤ τ_196.2.1 39 j ∧ τ_196.2.1 39 j ≤ 1499 := fun j => hT.2 39 j
                  have v3 : 0 ≤ τ_196.1 3 ∧ τ_196.1 3 ≤ 1000 := hT.1 3
                  have v5 : 0 ≤ τ_196.1 5 ∧ τ_196.1 5 ≤ 1500 := hT.1 5
                  have v6 : 0 ≤ τ_196.1 6 ∧ τ_196.1 6 ≤ 30000 := hT.1 6
                  have v7 : 0 ≤ τ_196.1 7 ∧ τ_196.1 7 ≤ 90000 := hT.1 7
                  have v8 : 0 ≤ τ_196.1 8 ∧ τ_196.1 8 ≤ 20000 := hT.1 8
                  have v9 : 0 ≤ τ_196.1 9 ∧ τ_196.1 9 ≤ 20000 := hT.1 9
                  have v20 : 0 ≤ τ_196.1 20 ∧ τ_196.1 20 ≤ 19 := hT.1 20
                  have v22 : 0 ≤ τ_196.1 22 ∧ τ_196.1 22 ≤ 1499 := hT.1 22
                  have v25 : 0 ≤ τ_196.1 25 ∧ τ_196.1 25 ≤ 300 := hT.1 25
                  have v26 : 0 ≤ τ_196.1 26 ∧ τ_196.1 26 ≤ 5000010 := hT.1 26
                  have v28 : 0 ≤ τ_196.1 28 ∧ τ_196.1 28 ≤ 1 := hT.1 28
                  have v29 : 0 ≤ τ_196.1 29 ∧ τ_196.1 29 ≤ 300 := hT.1 29
                  have a18_22 : 0 ≤ τ_196.2.1 18 (τ_196.1 22) ∧ τ_196.2.1 18 (τ_196.1 22) ≤ 90000 := hT.2 18 _
                  have a19_22 : 0 ≤ τ_196.2.1 19 (τ_196.1 22) ∧ τ_196.2.1 19 (τ_196.1 22) ≤ 60 := hT.2 19 _
                  have a25_22 : 0 ≤ τ_196.2.1 25 (τ_196.1 22) ∧ τ_196.2.1 25 (τ_196.1 22) ≤ 20000 := hT.2 25 _
                  have a26_22 : 0 ≤ τ_196.2.1 26 (τ_196.1 22) ∧ τ_196.2.1 26 (τ_196.1 22) ≤ 20000 := hT.2 26 _
                  have a28_9 : 0 ≤ τ_196.2.1 28 (τ_196.1 9) ∧ τ_196.2.1 28 (τ_196.1 9) ≤ 1 := hT.2 28 _
                  have av9 : σ.1 9 ≤ τ_196.1 9 := ag.1 9 (by decide)
                  refine h196 _ ?_
                  replace ag := ag_v (i := 26) (x := 0) ag (Or.inl rfl)
                  replace hT := mT_v (i := 26) hT (show (0 : Int) ≤ 0 ∧ 0 ≤ 5000010 from by (first | omega | (simp only [st_s] <;> omega) | assumption | omega | fail))
                  replace ag := ag_v (i := 27) (x := 0) ag (Or.inl rfl)
                  replace hT := mT_v (i := 27) hT (show (0 : Int) ≤ 0 ∧ 0 ≤ 1 from by (first | omega | (simp only [st_s] <;> omega) | assumption | omega | fail))
                  exact ⟨hT, (show ¬ (σ.1 20) = 0 → (τ_196.1 20) = (σ.1 20) from by (first | omega | (simp only [st_s] <;> omega) | assumption | omega | fail)), (show τ_196.2.1 25 (τ_196.1 22) + τ_196.2.1 26 (τ_196.1 22) = (τ_196.1 9) from Z4), (show ca (τ_196.2.1 28) ((τ_196.1 9)) ≤ ca (τ_196.2.1 28) (τ_196.2.1 25 (τ_196.1 22)) + (τ_196.1 29) from Y10), (show ¬ (τ_196.1 28) = 0 → τ_196.2.1 25 (τ_196.1 22) < (τ_196.1 9) ∧ τ_196.2.1 28 ((τ_196.1 9) - 1) = 0 from by (first | assumption | omega | (intro _; refine ⟨by omega, ?_⟩; first | exact hz | (rw [e_τ_196]; exact hz)) | fail)), (show j_eq (σ.2.1 25 (σ.1 22)) (σ.2.1 28) (τ_196.2.1 28) from Y13), (show ((0 : Int)) = 0 from by (first | omega | (simp only [st_s] <;> omega) | assumption | omega | fail)), ag, (show n_sp2 (τ_196.2.1 25 (τ_196.1 22)) (τ_196.1 9) (τ_196.1 22) (τ_196.2.1 27) (τ_196.2.1 28) from NSP), (show (τ_196.1 29) + ca (τ_196.2.1 28) (τ_196.2.1 25 (τ_196.1 22)) ≤ ca (τ_196.2.1 28) (τ_196.1 9) from Y10b), (show ¬ (τ_196.1 28) = 0 → 0 ≤ τ_196.2.1 27 ((τ_196.1 9) - 1) from by (first | assumption | (intro z; exfalso; omega) | (intro _; first | (rw [st27]; omega) | (rw [e_τ_196]; show 0 ≤ τ28.2.1 27 (τ28.1 9 - 1); rw [st27]; omega)) | fail))⟩
          ·
            refine ⟨(⟨by (first | omega | (simp only [st_s] <;> omega) | assumption | omega | fail), by (first | omega | (simp only [st_s] <;> omega) | assumption | omega | fail)⟩ : rg ((-1) - (((n1 - 1) - x2) - σ.1 25))), ?_⟩
            refine h162 _ _ _ _ ?_
            have kn : ((-1) - (((n1 - 1) - x2) - σ.1 25)) < σ.1 22 := by first | (rw [e_x13]; exact PK _ (by omega) (by omega)) | (rw [e_x17, e_x15]; exact HYN _ (by omega) (by omega)) | omega
            refine ⟨_, K_X13_addStep hT (show -300 ≤ ((-1) - (((n1 - 1) - x2) - σ.1 25)) from by (first | omega | (simp only [st_s] <;> omega) | assumption | omega | fail)) (show ((-1) - (((n1 - 1) - x2) - σ.1 25)) ≤ 1499 from by (first | omega | (simp only [st_s] <;> omega) | assumption | omega | fail)) (show 0 ≤ n2 from by (first | omega | (simp only [st_s] <;> omega) | assumption | omega | fail)) (show n2 ≤ 60000 from by (first | omega | (simp only [st_s] <;> omega) | assumption | omega | fail)) (show (σ.1 9) < 20000 from by (first | omega | (simp only [st_s] <;> omega) | assumption | omega | fail)) (show σ.2.1 26 (σ.1 22) < 20000 from by (first | omega | (simp only [st_s] <;> omega) | assumption | omega | fail)) (show (σ.1 22) = (σ.1 5) from by (first | omega | (simp only [st_s] <;> omega) | assumption | omega | fail)), ?_⟩
            intro τ28 hn_τ28 hf_τ28 hq
            obtain ⟨hT, q26_1, q26_2, q26_3, q26_4, q26_5, q26_6, q26_7⟩ := hq
            replace q26_1 : (τ28.1 9) = (σ.1 9) + 1 := q26_1
            replace q26_2 : τ28.2.1 26 (τ28.1 22) = σ.2.1 26 (σ.1 22) + 1 := q26_2
            replace q26_3 : τ28.2.1 27 = st (σ.2.1 27) (σ.1 9) ((-1) - (((n1 - 1) - x2) - σ.1 25)) := q26_3
            replace q26_4 : j_eq ((σ.1 9)) (σ.2.1 28) (τ28.2.1 28) := q26_4
            replace q26_5 : ca (τ28.2.1 28) ((τ28.1 9)) = ca (σ.2.1 28) ((σ.1 9)) := q26_5
            replace q26_6 : τ28.2.1 28 (σ.1 9) = 0 := q26_6
            replace q26_7 : m_ag σ τ28 := q26_7
            replace ag : m_ag σ τ28 := ag_t ag q26_7 rfl
            have w3_τ28 : τ28.1 3 = σ.1 3 := hf_τ28.1 3 (by decide)
            have w5_τ28 : τ28.1 5 = σ.1 5 := hf_τ28.1 5 (by decide)
            have w6_τ28 : τ28.1 6 = σ.1 6 := hf_τ28.1 6 (by decide)
            have w7_τ28 : τ28.1 7 = σ.1 7 := hf_τ28.1 7 (by decide)
            have w8_τ28 : τ28.1 8 = σ.1 8 := hf_τ28.1 8 (by decide)
            have w20_τ28 : τ28.1 20 = σ.1 20 := hf_τ28.1 20 (by decide)
            have w22_τ28 : τ28.1 22 = σ.1 22 := hf_τ28.1 22 (by decide)
            have w25_τ28 : τ28.1 25 = σ.1 25 := hf_τ28.1 25 (by decide)
            have w26_τ28 : τ28.1 26 = σ.1 26 := hf_τ28.1 26 (by decide)
            have w28_τ28 : τ28.1 28 = σ.1 28 := hf_τ28.1 28 (by decide)
            have w29_τ28 : τ28.1 29 = σ.1 29 := hf_τ28.1 29 (by decide)
            have g18_τ28 : τ28.2.1 18 = σ.2.1 18 := hf_τ28.2.1 18 (by decide)
            have g19_τ28 : τ28.2.1 19 = σ.2.1 19 := hf_τ28.2.1 19 (by decide)
            have g20_τ28 : τ28.2.1 20 = σ.2.1 20 := hf_τ28.2.1 20 (by decide)
            have g25_τ28 : τ28.2.1 25 = σ.2.1 25 := hf_τ28.2.1 25 (by decide)
            have g39_τ28 : τ28.2.1 39 = σ.2.1 39 := hf_τ28.2.1 39 (by decide)
            have W3 : τ28.1 3 = σ.1 3 := by first | exact w3_τ28.trans W3 | omega
            have W5 : τ28.1 5 = σ.1 5 := by first | exact w5_τ28.trans W5 | omega
            have W6 : τ28.1 6 = σ.1 6 := by first | exact w6_τ28.trans W6 | omega
            have W7 : τ28.1 7 = σ.1 7 := by first | exact w7_τ28.trans W7 | omega
            have W8 : τ28.1 8 = σ.1 8 := by first | exact w8_τ28.trans W8 | omega
            have W22 : τ28.1 22 = σ.1 22 := by first | exact w22_τ28.trans W22 | omega
            have W25 : τ28.1 25 = σ.1 25 := by first | exact w25_τ28.trans W25 | omega
            have W29 : τ28.1 29 = σ.1 29 := by first | exact w29_τ28.trans W29 | omega
            have G18 : τ28.2.1 18 = σ.2.1 18 := (g18_τ28).trans G18
            have G19 : τ28.2.1 19 = σ.2.1 19 := (g19_τ28).trans G19
            have G20 : τ28.2.1 20 = σ.2.1 20 := (g20_τ28).trans G20
            have G25 : τ28.2.1 25 = σ.2.1 25 := (g25_τ28).trans G25
            have G39 : τ28.2.1 39 = σ.2.1 39 := (g39_τ28).trans G39
            have y18_22_τ28 : τ28.2.1 18 (τ28.1 22) = (σ.2.1 18) (σ.1 22) := by rw [g18_τ28, w22_τ28]
            have y19_22_τ28 : τ28.2.1 19 (τ28.1 22) = (σ.2.1 19) (σ.1 22) := by rw [g19_τ28, w22_τ28]
            have y25_22_τ28 : τ28.2.1 25 (τ28.1 22) = (σ.2.1 25) (σ.1 22) := by rw [g25_τ28, w22_τ28]
            have PK : ∀ k : Int, 0 ≤ k → k < (τ28.1 25) → τ28.2.1 39 k < (τ28.1 22) := by rw [show (∀ k : Int, 0 ≤ k → k < (τ28.1 25) → τ28.2.1 39 k < (τ28.1 22)) = (∀ k : Int, 0 ≤ k → k < (σ.1 25) → σ.2.1 39 k < (σ.1 22)) from by rw [w22_τ28, w25_τ28, g39_τ28]]; exact PK
            have HYN : ∀ k : Int, 0 ≤ k → k < τ28.2.1 19 (τ28.1 22) → τ28.2.1 20 (τ28.2.1 18 (τ28.1 22) + k) < (τ28.1 22) := by rw [show (∀ k : Int, 0 ≤ k → k < τ28.2.1 19 (τ28.1 22) → τ28.2.1 20 (τ28.2.1 18 (τ28.1 22) + k) < (τ28.1 22)) = (∀ k : Int, 0 ≤ k → k < σ.2.1 19 (σ.1 22) → σ.2.1 20 (σ.2.1 18 (σ.1 22) + k) < (σ.1 22)) from by rw [w22_τ28, g18_τ28, g19_τ28, g20_τ28]]; exact HYN
            have A18 : ∀ j, 0 ≤ τ28.2.1 18 j ∧ τ28.2.1 18 j ≤ 90000 := fun j => hT.2 18 j
            have A19 : ∀ j, 0 ≤ τ28.2.1 19 j ∧ τ28.2.1 19 j ≤ 60 := fun j => hT.2 19 j
            have A20 : ∀ j, 0 ≤ τ28.2.1 20 j ∧ τ28.2.1 20 j ≤ 1499 := fun j => hT.2 20 j
            have A25 : ∀ j, 0 ≤ τ28.2.1 25 j ∧ τ28.2.1 25 j ≤ 20000 := fun j => hT.2 25 j
            have A26 : ∀ j, 0 ≤ τ28.2.1 26 j ∧ τ28.2.1 26 j ≤ 20000 := fun j => hT.2 26 j
            have A27 : ∀ j, (-300) ≤ τ28.2.1 27 j ∧ τ28.2.1 27 j ≤ 1499 := fun j => hT.2 27 j
            have A28 : ∀ j, 0 ≤ τ28.2.1 28 j ∧ τ28.2.1 28 j ≤ 1 := fun j => hT.2 28 j
            have A39 : ∀ j, 0 ≤ τ28.2.1 39 j ∧ τ28.2.1 39 j ≤ 1499 := fun j => hT.2 39 j
            have v3 : 0 ≤ τ28.1 3 ∧ τ28.1 3 ≤ 1000 := hT.1 3
            have v5 : 0 ≤ τ28.1 5 ∧ τ28.1 5 ≤ 1500 := hT.1 5
            have v6 : 0 ≤ τ28.1 6 ∧ τ28.1 6 ≤ 30000 := hT.1 6
            have v7 : 0 ≤ τ28.1 7 ∧ τ28.1 7 ≤ 90000 := hT.1 7
            have v8 : 0 ≤ τ28.1 8 ∧ τ28.1 8 ≤ 20000 := hT.1 8
            have v9 : 0 ≤ τ28.1 9 ∧ τ28.1 9 ≤ 20000 := hT.1 9
            have v20 : 0 ≤ τ28.1 20 ∧ τ28.1 20 ≤ 19 := hT.1 20
            have v22 : 0 ≤ τ28.1 22 ∧ τ28.1 22 ≤ 1499 := hT.1 22
            have v25 : 0 ≤ τ28.1 25 ∧ τ28.1 25 ≤ 300 := hT.1 25
            have v26 : 0 ≤ τ28.1 26 ∧ τ28.1 26 ≤ 5000010 := hT.1 26
            have v28 : 0 ≤ τ28.1 28 ∧ τ28.1 28 ≤ 1 := hT.1 28
            have v29 : 0 ≤ τ28.1 29 ∧ τ28.1 29 ≤ 300 := hT.1 29
            have a18_22 : 0 ≤ τ28.2.1 18 (τ28.1 22) ∧ τ28.2.1 18 (τ28.1 22) ≤ 90000 := hT.2 18 _
            have a19_22 : 0 ≤ τ28.2.1 19 (τ28.1 22) ∧ τ28.2.1 19 (τ28.1 22) ≤ 60 := hT.2 19 _
            have a25_22 : 0 ≤ τ28.2.1 25 (τ28.1 22) ∧ τ28.2.1 25 (τ28.1 22) ≤ 20000 := hT.2 25 _
            have a26_22 : 0 ≤ τ28.2.1 26 (τ28.1 22) ∧ τ28.2.1 26 (τ28.1 22) ≤ 20000 := hT.2 26 _
            have a28_9 : 0 ≤ τ28.2.1 28 (τ28.1 9) ∧ τ28.2.1 28 (τ28.1 9) ≤ 1 := hT.2 28 _
            have av9 : σ.1 9 ≤ τ28.1 9 := ag.1 9 (by decide)
            have hz : τ28.2.1 28 (τ28.1 9 - 1) = 0 := by rw [show τ28.1 9 - 1 = σ.1 9 from by omega]; exact q26_6
            have Z4 : τ28.2.1 25 (τ28.1 22) + τ28.2.1 26 (τ28.1 22) = τ28.1 9 := by omega
            have ce := ca_eq q26_4 (n := σ.2.1 25 (σ.1 22)) (by omega)
            have Y10 : ca (τ28.2.1 28) (τ28.1 9) ≤ ca (τ28.2.1 28) (τ28.2.1 25 (τ28.1 22)) + τ28.1 29 := by rw [y25_22_τ28, ce, q26_5]; omega
            have Y12 : ¬ τ28.1 28 = 0 → τ28.2.1 25 (τ28.1 22) < τ28.1 9 ∧ τ28.2.1 28 (τ28.1 9 - 1) = 0 := fun _ => ⟨by omega, hz⟩
            have Y13 := j_eqw q26_4 (show σ.2.1 25 (σ.1 22) ≤ σ.1 9 from by omega)
            have NSP : n_sp2 (τ28.2.1 25 (τ28.1 22)) (τ28.1 9) (τ28.1 22) (τ28.2.1 27) (τ28.2.1 28) := by (rw [show τ28.2.1 25 (τ28.1 22) = σ.2.1 25 (σ.1 22) from by omega, show τ28.1 9 = σ.1 9 + 1 from by omega, show τ28.1 22 = σ.1 22 from by omega]; exact n_sp2_a p9 q26_3 q26_4 (by omega) (by omega) (fun z => by omega) (fun y => absurd q26_6 y))
            have st27 : τ28.2.1 27 (τ28.1 9 - 1) = ((-1) - (((n1 - 1) - x2) - σ.1 25)) := by (rw [q26_3, show τ28.1 9 - 1 = σ.1 9 from by omega, st_s])
            have Y10b : τ28.1 29 + ca (τ28.2.1 28) (τ28.2.1 25 (τ28.1 22)) ≤ ca (τ28.2.1 28) (τ28.1 9) := by (rw [y25_22_τ28, ce, q26_5]; have := p10; omega)
            refine ⟨fun c29 => ?_, fun c29 => ?_⟩
            ·
              refine h193 _ _ ?_
              refine ⟨(show 0 ≤ 0 ∧ 0 ≤ 1 from by (first | omega | (simp only [st_s] <;> omega) | assumption | omega | fail)), ?_⟩
              replace ag := ag_v (i := 28) (x := 0) ag (Or.inl rfl)
              replace hT := mT_v (i := 28) hT (show (0 : Int) ≤ 0 ∧ 0 ≤ 1 from by (first | omega | (simp only [st_s] <;> omega) | assumption | omega | fail))
              obtain ⟨τ_196, e_τ_196⟩ : ∃ z : S0, z = s_v τ28 28 0 := ⟨_, rfl⟩
              rw [← e_τ_196]
              replace hT : m_T τ_196 := by rw [e_τ_196]; exact hT
              replace ag : m_ag σ τ_196 := by rw [e_τ_196]; exact ag
              have w3_τ_196 : τ_196.1 3 = τ28.1 3 := by rw [e_τ_196]; rfl
              have w5_τ_196 : τ_196.1 5 = τ28.1 5 := by rw [e_τ_196]; rfl
              have w6_τ_196 : τ_196.1 6 = τ28.1 6 := by rw [e_τ_196]; rfl
              have w7_τ_196 : τ_196.1 7 = τ28.1 7 := by rw [e_τ_196]; rfl
              have w8_τ_196 : τ_196.1 8 = τ28.1 8 := by rw [e_τ_196]; rfl
              have w9_τ_196 : τ_196.1 9 = τ28.1 9 := by rw [e_τ_196]; rfl
              have w20_τ_196 : τ_196.1 20 = τ28.1 20 := by rw [e_τ_196]; rfl
              have w22_τ_196 : τ_196.1 22 = τ28.1 22 := by rw [e_τ_196]; rfl
              have w25_τ_196 : τ_196.1 25 = τ28.1 25 := by rw [e_τ_196]; rfl
              have w26_τ_196 : τ_196.1 26 = τ28.1 26 := by rw [e_τ_196]; rfl
              have w28_τ_196 : τ_196.1 28 = 0 := by rw [e_τ_196]; rfl
              have w29_τ_196 : τ_196.1 29 = τ28.1 29 := by rw [e_τ_196]; rfl
              have g18_τ_196 : τ_196.2.1 18 = τ28.2.1 18 := by rw [e_τ_196]; rfl
              have g19_τ_196 : τ_196.2.1 19 = τ28.2.1 19 := by rw [e_τ_196]; rfl
              have g20_τ_196 : τ_196.2.1 20 = τ28.2.1 20 := by rw [e_τ_196]; rfl
              have g25_τ_196 : τ_196.2.1 25 = τ28.2.1 25 := by rw [e_τ_196]; rfl
              have g26_τ_196 : τ_196.2.1 26 = τ28.2.1 26 := by rw [e_τ_196]; rfl
              have g27_τ_196 : τ_196.2.1 27 = τ28.2.1 27 := by rw [e_τ_196]; rfl
              have g28_τ_196 : τ_196.2.1 28 = τ28.2.1 28 := by rw [e_τ_196]; rfl
              have g39_τ_196 : τ_196.2.1 39 = τ28.2.1 39 := by rw [e_τ_196]; rfl
              have W3 : τ_196.1 3 = σ.1 3 := by first | exact w3_τ_196.trans W3 | omega
              have W5 : τ_196.1 5 = σ.1 5 := by first | exact w5_τ_196.trans W5 | omega
              have W6 : τ_196.1 6 = σ.1 6 := by first | exact w6_τ_196.trans W6 | omega
              have W7 : τ_196.1 7 = σ.1 7 := by first | exact w7_τ_196.trans W7 | omega
              have W8 : τ_196.1 8 = σ.1 8 := by first | exact w8_τ_196.trans W8 | omega
              have W22 : τ_196.1 22 = σ.1 22 := by first | exact w22_τ_196.trans W22 | omega
              have W25 : τ_196.1 25 = σ.1 25 := by first | exact w25_τ_196.trans W25 | omega
              have W29 : τ_196.1 29 = σ.1 29 := by first | exact w29_τ_196.trans W29 | omega
              have G18 : τ_196.2.1 18 = σ.2.1 18 := (g18_τ_196).trans G18
              have G19 : τ_196.2.1 19 = σ.2.1 19 := (g19_τ_196).trans G19
              have G20 : τ_196.2.1 20 = σ.2.1 20 := (g20_τ_196).trans G20
              have G25 : τ_196.2.1 25 = σ.2.1 25 := (g25_τ_196).trans G25
              have G39 : τ_196.2.1 39 = σ.2.1 39 := (g39_τ_196).trans G39
              have y18_22_τ_196 : τ_196.2.1 18 (τ_196.1 22) = (τ28.2.1 18) (τ28.1 22) := by rw [g18_τ_196, w22_τ_196]
              have y19_22_τ_196 : τ_196.2.1 19 (τ_196.1 22) = (τ28.2.1 19) (τ28.1 22) := by rw [g19_τ_196, w22_τ_196]
              have y25_22_τ_196 : τ_196.2.1 25 (τ_196.1 22) = (τ28.2.1 25) (τ28.1 22) := by rw [g25_τ_196, w22_τ_196]
              have y26_22_τ_196 : τ_196.2.1 26 (τ_196.1 22) = (τ28.2.1 26) (τ28.1 22) := by rw [g26_τ_196, w22_τ_196]
              have y28_9_τ_196 : τ_196.2.1 28 (τ_196.1 9) = (τ28.2.1 28) (τ28.1 9) := by rw [g28_τ_196, w9_τ_196]
              have Z4 : τ_196.2.1 25 (τ_196.1 22) + τ_196.2.1 26 (τ_196.1 22) = (τ_196.1 9) := by rw [show (τ_196.2.1 25 (τ_196.1 22) + τ_196.2.1 26 (τ_196.1 22) = (τ_196.1 9)) = (τ28.2.1 25 (τ28.1 22) + τ28.2.1 26 (τ28.1 22) = (τ28.1 9)) from by rw [w9_τ_196, w22_τ_196, g25_τ_196, g26_τ_196]]; exact Z4
              have Y10 : ca (τ_196.2.1 28) ((τ_196.1 9)) ≤ ca (τ_196.2.1 28) (τ_196.2.1 25 (τ_196.1 22)) + (τ_196.1 29) := by rw [show (ca (τ_196.2.1 28) ((τ_196.1 9)) ≤ ca (τ_196.2.1 28) (τ_196.2.1 25 (τ_196.1 22)) + (τ_196.1 29)) = (ca (τ28.2.1 28) ((τ28.1 9)) ≤ ca (τ28.2.1 28) (τ28.2.1 25 (τ28.1 22)) + (τ28.1 29)) from by rw [w9_τ_196, w22_τ_196, w29_τ_196, g25_τ_196, g28_τ_196]]; exact Y10
              have Y13 : j_eq (σ.2.1 25 (σ.1 22)) (σ.2.1 28) (τ_196.2.1 28) := by rw [show (j_eq (σ.2.1 25 (σ.1 22)) (σ.2.1 28) (τ_196.2.1 28)) = (j_eq (σ.2.1 25 (σ.1 22)) (σ.2.1 28) (τ28.2.1 28)) from by rw [g28_τ_196]]; exact Y13
              have NSP : n_sp2 (τ_196.2.1 25 (τ_196.1 22)) (τ_196.1 9) (τ_196.1 22) (τ_196.2.1 27) (τ_196.2.1 28) := by rw [show (n_sp2 (τ_196.2.1 25 (τ_196.1 22)) (τ_196.1 9) (τ_196.1 22) (τ_196.2.1 27) (τ_196.2.1 28)) = (n_sp2 (τ28.2.1 25 (τ28.1 22)) (τ28.1 9) (τ28.1 22) (τ28.2.1 27) (τ28.2.1 28)) from by rw [w9_τ_196, w22_τ_196, g25_τ_196, g27_τ_196, g28_τ_196]]; exact NSP
              have PK : ∀ k : Int, 0 ≤ k → k < (τ_196.1 25) → τ_196.2.1 39 k < (τ_196.1 22) := by rw [show (∀ k : Int, 0 ≤ k → k < (τ_196.1 25) → τ_196.2.1 39 k < (τ_196.1 22)) = (∀ k : Int, 0 ≤ k → k < (τ28.1 25) → τ28.2.1 39 k < (τ28.1 22)) from by rw [w22_τ_196, w25_τ_196, g39_τ_196]]; exact PK
              have Y10b : (τ_196.1 29) + ca (τ_196.2.1 28) (τ_196.2.1 25 (τ_196.1 22)) ≤ ca (τ_196.2.1 28) (τ_196.1 9) := by rw [show ((τ_196.1 29) + ca (τ_196.2.1 28) (τ_196.2.1 25 (τ_196.1 22)) ≤ ca (τ_196.2.1 28) (τ_196.1 9)) = ((τ28.1 29) + ca (τ28.2.1 28) (τ28.2.1 25 (τ28.1 22)) ≤ ca (τ28.2.1 28) (τ28.1 9)) from by rw [w9_τ_196, w22_τ_196, w29_τ_196, g25_τ_196, g28_τ_196]]; exact Y10b
              have HYN : ∀ k : Int, 0 ≤ k → k < τ_196.2.1 19 (τ_196.1 22) → τ_196.2.1 20 (τ_196.2.1 18 (τ_196.1 22) + k) < (τ_196.1 22) := by rw [show (∀ k : Int, 0 ≤ k → k < τ_196.2.1 19 (τ_196.1 22) → τ_196.2.1 20 (τ_196.2.1 18 (τ_196.1 22) + k) < (τ_196.1 22)) = (∀ k : Int, 0 ≤ k → k < τ28.2.1 19 (τ28.1 22) → τ28.2.1 20 (τ28.2.1 18 (τ28.1 22) + k) < (τ28.1 22)) from by rw [w22_τ_196, g18_τ_196, g19_τ_196, g20_τ_196]]; exact HYN
              have A18 : ∀ j, 0 ≤ τ_196.2.1 18 j ∧ τ_196.2.1 18 j ≤ 90000 := fun j => hT.2 18 j
              have A19 : ∀ j, 0 ≤ τ_196.2.1 19 j ∧ τ_196.2.1 19 j ≤ 60 := fun j => hT.2 19 j
              have A20 : ∀ j, 0 ≤ τ_196.2.1 20 j ∧ τ_196.2.1 20 j ≤ 1499 := fun j => hT.2 20 j
              have A25 : ∀ j, 0 ≤ τ_196.2.1 25 j ∧ τ_196.2.1 25 j ≤ 20000 := fun j => hT.2 25 j
              have A26 : ∀ j, 0 ≤ τ_196.2.1 26 j ∧ τ_196.2.1 26 j ≤ 20000 := fun j => hT.2 26 j
              have A27 : ∀ j, (-300) ≤ τ_196.2.1 27 j ∧ τ_196.2.1 27 j ≤ 1499 := fun j => hT.2 27 j
              have A28 : ∀ j, 0 ≤ τ_196.2.1 28 j ∧ τ_196.2.1 28 j ≤ 1 := fun j => hT.2 28 j
              have A39 : ∀ j, 0 ≤ τ_196.2.1 39 j ∧ τ_196.2.1 39 j ≤ 1499 := fun j => hT.2 39 j
              have v3 : 0 ≤ τ_196.1 3 ∧ τ_196.1 3 ≤ 1000 := hT.1 3
              have v5 : 0 ≤ τ_196.1 5 ∧ τ_196.1 5 ≤ 1500 := hT.1 5
              have v6 : 0 ≤ τ_196.1 6 ∧ τ_196.1 6 ≤ 30000 := hT.1 6
              have v7 : 0 ≤ τ_196.1 7 ∧ τ_196.1 7 ≤ 90000 := hT.1 7
              have v8 : 0 ≤ τ_196.1 8 ∧ τ_196.1 8 ≤ 20000 := hT.1 8
              have v9 : 0 ≤ τ_196.1 9 ∧ τ_196.1 9 ≤ 20000 := hT.1 9
              have v20 : 0 ≤ τ_196.1 20 ∧ τ_196.1 20 ≤ 19 := hT.1 20
              have v22 : 0 ≤ τ_196.1 22 ∧ τ_196.1 22 ≤ 1499 := hT.1 22
              have v25 : 0 ≤ τ_196.1 25 ∧ τ_196.1 25 ≤ 300 := hT.1 25
              have v26 : 0 ≤ τ_196.1 26 ∧ τ_196.1 26 ≤ 5000010 := hT.1 26
              have v28 : 0 ≤ τ_196.1 28 ∧ τ_196.1 28 ≤ 1 := hT.1 28
              have v29 : 0 ≤ τ_196.1 29 ∧ τ_196.1 29 ≤ 300 := hT.1 29
              have a18_22 : 0 ≤ τ_196.2.1 18 (τ_196.1 22) ∧ τ_196.2.1 18 (τ_196.1 22) ≤ 90000 := hT.2 18 _
              have a19_22 : 0 ≤ τ_196.2.1 19 (τ_196.1 22) ∧ τ_196.2.1 19 (τ_196.1 22) ≤ 60 := hT.2 19 _
              have a25_22 : 0 ≤ τ_196.2.1 25 (τ_196.1 22) ∧ τ_196.2.1 25 (τ_196.1 22) ≤ 20000 := hT.2 25 _
              have a26_22 : 0 ≤ τ_196.2.1 26 (τ_196.1 22) ∧ τ_196.2.1 26 (τ_196.1 22) ≤ 20000 := hT.2 26 _
              have a28_9 : 0 ≤ τ_196.2.1 28 (τ_196.1 9) ∧ τ_196.2.1 28 (τ_196.1 9) ≤ 1 := hT.2 28 _
              have av9 : σ.1 9 ≤ τ_196.1 9 := ag.1 9 (by decide)
              refine h196 _ ?_
              replace ag := ag_v (i := 26) (x := 0) ag (Or.inl rfl)
              replace hT := mT_v (i := 26) hT (show (0 : Int) ≤ 0 ∧ 0 ≤ 5000010 from by (first | omega | (simp only [st_s] <;> omega) | assumption | omega | fail))
              replace ag := ag_v (i := 27) (x := 0) ag (Or.inl rfl)
              replace hT := mT_v (i := 27) hT (show (0 : Int) ≤ 0 ∧ 0 ≤ 1 from by (first | omega | (simp only [st_s] <;> omega) | assumption | omega | fail))
              exact ⟨hT, (show ¬ (σ.1 20) = 0 → (τ_196.1 20) = (σ.1 20) from by (first | omega | (simp only [st_s] <;> omega) | assumption | omega | fail)), (show τ_196.2.1 25 (τ_196.1 22) + τ_196.2.1 26 (τ_196.1 22) = (τ_196.1 9) from Z4), (show ca (τ_196.2.1 28) ((τ_196.1 9)) ≤ ca (τ_196.2.1 28) (τ_196.2.1 25 (τ_196.1 22)) + (τ_196.1 29) from Y10), (show ¬ (τ_196.1 28) = 0 → τ_196.2.1 25 (τ_196.1 22) < (τ_196.1 9) ∧ τ_196.2.1 28 ((τ_196.1 9) - 1) = 0 from by (first | assumption | omega | (intro _; refine ⟨by omega, ?_⟩; first | exact hz | (rw [e_τ_196]; exact hz)) | fail)), (show j_eq (σ.2.1 25 (σ.1 22)) (σ.2.1 28) (τ_196.2.1 28) from Y13), (show ((0 : Int)) = 0 from by (first | omega | (simp only [st_s] <;> omega) | assumption | omega | fail)), ag, (show n_sp2 (τ_196.2.1 25 (τ_196.1 22)) (τ_196.1 9) (τ_196.1 22) (τ_196.2.1 27) (τ_196.2.1 28) from NSP), (show (τ_196.1 29) + ca (τ_196.2.1 28) (τ_196.2.1 25 (τ_196.1 22)) ≤ ca (τ_196.2.1 28) (τ_196.1 9) from Y10b), (show ¬ (τ_196.1 28) = 0 → 0 ≤ τ_196.2.1 27 ((τ_196.1 9) - 1) from by (first | assumption | (intro z; exfalso; omega) | (intro _; first | (rw [st27]; omega) | (rw [e_τ_196]; show 0 ≤ τ28.2.1 27 (τ28.1 9 - 1); rw [st27]; omega)) | fail))⟩
            ·
              refine ⟨(show 0 ≤ ((-1) - (((n1 - 1) - x2) - σ.1 25)) ∧ ((-1) - (((n1 - 1) - x2) - σ.1 25)) < 1501 from by (first | omega | (simp only [st_s] <;> omega) | assumption | omega | fail)), ?_⟩
              intro x31 r_x31 e_x31
              have b_x31 : 0 ≤ x31 ∧ x31 ≤ 4 := by rw [e_x31]; exact hT.2 13 _
              refine ⟨fun c32 => ?_, fun c32 => ?_⟩
              ·
                refine h193 _ _ ?_
                refine ⟨(show 0 ≤ 0 ∧ 0 ≤ 1 from by (first | omega | (simp only [st_s] <;> omega) | assumption | omega | fail)), ?_⟩
                replace ag := ag_v (i := 28) (x := 0) ag (Or.inl rfl)
                replace hT := mT_v (i := 28) hT (show (0 : Int) ≤ 0 ∧ 0 ≤ 1 from by (first | omega | (simp only [st_s] <;> omega) | assumption | omega | fail))
                obtain ⟨τ_196, e_τ_196⟩ : ∃ z : S0, z = s_v τ28 28 0 := ⟨_, rfl⟩
                rw [← e_τ_196]
                replace hT : m_T τ_196 := by rw [e_τ_196]; exact hT
                replace ag : m_ag σ τ_196 := by rw [e_τ_196]; exact ag
                have w3_τ_196 : τ_196.1 3 = τ28.1 3 := by rw [e_τ_196]; rfl
                have w5_τ_196 : τ_196.1 5 = τ28.1 5 := by rw [e_τ_196]; rfl
                have w6_τ_196 : τ_196.1 6 = τ28.1 6 := by rw [e_τ_196]; rfl
                have w7_τ_196 : τ_196.1 7 = τ28.1 7 := by rw [e_τ_196]; rfl
                have w8_τ_196 : τ_196.1 8 = τ28.1 8 := by rw [e_τ_196]; rfl
                have w9_τ_196 : τ_196.1 9 = τ28.1 9 := by rw [e_τ_196]; rfl
                have w20_τ_196 : τ_196.1 20 = τ28.1 20 := by rw [e_τ_196]; rfl
                have w22_τ_196 : τ_196.1 22 = τ28.1 22 := by rw [e_τ_196]; rfl
                have w25_τ_196 : τ_196.1 25 = τ28.1 25 := by rw [e_τ_196]; rfl
                have w26_τ_196 : τ_196.1 26 = τ28.1 26 := by rw [e_τ_196]; rfl
                have w28_τ_196 : τ_196.1 28 = 0 := by rw [e_τ_196]; rfl
                have w29_τ_196 : τ_196.1 29 = τ28.1 29 := by rw [e_τ_196]; rfl
                have g18_τ_196 : τ_196.2.1 18 = τ28.2.1 18 := by rw [e_τ_196]; rfl
                have g19_τ_196 : τ_196.2.1 19 = τ28.2.1 19 := by rw [e_τ_196]; rfl
                have g20_τ_196 : τ_196.2.1 20 = τ28.2.1 20 := by rw [e_τ_196]; rfl
                have g25_τ_196 : τ_196.2.1 25 = τ28.2.1 25 := by rw [e_τ_196]; rfl
                have g26_τ_196 : τ_196.2.1 26 = τ28.2.1 26 := by rw [e_τ_196]; rfl
                have g27_τ_196 : τ_196.2.1 27 = τ28.2.1 27 := by rw [e_τ_196]; rfl
                have g28_τ_196 : τ_196.2.1 28 = τ28.2.1 28 := by rw [e_τ_196]; rfl
                have g39_τ_196 : τ_196.2.1 39 = τ28.2.1 39 := by rw [e_τ_196]; rfl
                have W3 : τ_196.1 3 = σ.1 3 := by first | exact w3_τ_196.trans W3 | omega
                have W5 : τ_196.1 5 = σ.1 5 := by first | exact w5_τ_196.trans W5 | omega
                have W6 : τ_196.1 6 = σ.1 6 := by first | exact w6_τ_196.trans W6 | omega
                have W7 : τ_196.1 7 = σ.1 7 := by first | exact w7_τ_196.trans W7 | omega
                have W8 : τ_196.1 8 = σ.1 8 := by first | exact w8_τ_196.trans W8 | omega
                have W22 : τ_196.1 22 = σ.1 22 := by first | exact w22_τ_196.trans W22 | omega
                have W25 : τ_196.1 25 = σ.1 25 := by first | exact w25_τ_196.trans W25 | omega
                have W29 : τ_196.1 29 = σ.1 29 := by first | exact w29_τ_196.trans W29 | omega
                have G18 : τ_196.2.1 18 = σ.2.1 18 := (g18_τ_196).trans G18
                have G19 : τ_196.2.1 19 = σ.2.1 19 := (g19_τ_196).trans G19
                have G20 : τ_196.2.1 20 = σ.2.1 20 := (g20_τ_196).trans G20
                have G25 : τ_196.2.1 25 = σ.2.1 25 := (g25_τ_196).trans G25
                have G39 : τ_196.2.1 39 = σ.2.1 39 := (g39_τ_196).trans G39
                have y18_22_τ_196 : τ_196.2.1 18 (τ_196.1 22) = (τ28.2.1 18) (τ28.1 22) := by rw [g18_τ_196, w22_τ_196]
                have y19_22_τ_196 : τ_196.2.1 19 (τ_196.1 22) = (τ28.2.1 19) (τ28.1 22) := by rw [g19_τ_196, w22_τ_196]
                have y25_22_τ_196 : τ_196.2.1 25 (τ_196.1 22) = (τ28.2.1 25) (τ28.1 22) := by rw [g25_τ_196, w22_τ_196]
                have y26_22_τ_196 : τ_196.2.1 26 (τ_196.1 22) = (τ28.2.1 26) (τ28.1 22) := by rw [g26_τ_196, w22_τ_196]
                have y28_9_τ_196 : τ_196.2.1 28 (τ_196.1 9) = (τ28.2.1 28) (τ28.1 9) := by rw [g28_τ_196, w9_τ_196]
                have Z4 : τ_196.2.1 25 (τ_196.1 22) + τ_196.2.1 26 (τ_196.1 22) = (τ_196.1 9) := by rw [show (τ_196.2.1 25 (τ_196.1 22) + τ_196.2.1 26 (τ_196.1 22) = (τ_196.1 9)) = (τ28.2.1 25 (τ28.1 22) + τ28.2.1 26 (τ28.1 22) = (τ28.1 9)) from by rw [w9_τ_196, w22_τ_196, g25_τ_196, g26_τ_196]]; exact Z4
                have Y10 : ca (τ_196.2.1 28) ((τ_196.1 9)) ≤ ca (τ_196.2.1 28) (τ_196.2.1 25 (τ_196.1 22)) + (τ_196.1 29) := by rw [show (ca (τ_196.2.1 28) ((τ_196.1 9)) ≤ ca (τ_196.2.1 28) (τ_196.2.1 25 (τ_196.1 22)) + (τ_196.1 29)) = (ca (τ28.2.1 28) ((τ28.1 9)) ≤ ca (τ28.2.1 28) (τ28.2.1 25 (τ28.1 22)) + (τ28.1 29)) from by rw [w9_τ_196, w22_τ_196, w29_τ_196, g25_τ_196, g28_τ_196]]; exact Y10
                have Y13 : j_eq (σ.2.1 25 (σ.1 22)) (σ.2.1 28) (τ_196.2.1 28) := by rw [show (j_eq (σ.2.1 25 (σ.1 22)) (σ.2.1 28) (τ_196.2.1 28)) = (j_eq (σ.2.1 25 (σ.1 22)) (σ.2.1 28) (τ28.2.1 28)) from by rw [g28_τ_196]]; exact Y13
                have NSP : n_sp2 (τ_196.2.1 25 (τ_196.1 22)) (τ_196.1 9) (τ_196.1 22) (τ_196.2.1 27) (τ_196.2.1 28) := by rw [show (n_sp2 (τ_196.2.1 25 (τ_196.1 22)) (τ_196.1 9) (τ_196.1 22) (τ_196.2.1 27) (τ_196.2.1 28)) = (n_sp2 (τ28.2.1 25 (τ28.1 22)) (τ28.1 9) (τ28.1 22) (τ28.2.1 27) (τ28.2.1 28)) from by rw [w9_τ_196, w22_τ_196, g25_τ_196, g27_τ_196, g28_τ_196]]; exact NSP
                have PK : ∀ k : Int, 0 ≤ k → k < (τ_196.1 25) → τ_196.2.1 39 k < (τ_196.1 22) := by rw [show (∀ k : Int, 0 ≤ k → k < (τ_196.1 25) → τ_196.2.1 39 k < (τ_196.1 22)) = (∀ k : Int, 0 ≤ k → k < (τ28.1 25) → τ28.2.1 39 k < (τ28.1 22)) from by rw [w22_τ_196, w25_τ_196, g39_τ_196]]; exact PK
                have Y10b : (τ_196.1 29) + ca (τ_196.2.1 28) (τ_196.2.1 25 (τ_196.1 22)) ≤ ca (τ_196.2.1 28) (τ_196.1 9) := by rw [show ((τ_196.1 29) + ca (τ_196.2.1 28) (τ_196.2.1 25 (τ_196.1 22)) ≤ ca (τ_196.2.1 28) (τ_196.1 9)) = ((τ28.1 29) + ca (τ28.2.1 28) (τ28.2.1 25 (τ28.1 22)) ≤ ca (τ28.2.1 28) (τ28.1 9)) from by rw [w9_τ_196, w22_τ_196, w29_τ_196, g25_τ_196, g28_τ_196]]; exact Y10b
                have HYN : ∀ k : Int, 0 ≤ k → k < τ_196.2.1 19 (τ_196.1 22) → τ_196.2.1 20 (τ_196.2.1 18 (τ_196.1 22) + k) < (τ_196.1 22) := by rw [show (∀ k : Int, 0 ≤ k → k < τ_196.2.1 19 (τ_196.1 22) → τ_196.2.1 20 (τ_196.2.1 18 (τ_196.1 22) + k) < (τ_196.1 22)) = (∀ k : Int, 0 ≤ k → k < τ28.2.1 19 (τ28.1 22) → τ28.2.1 20 (τ28.2.1 18 (τ28.1 22) + k) < (τ28.1 22)) from by rw [w22_τ_196, g18_τ_196, g19_τ_196, g20_τ_196]]; exact HYN
                have A18 : ∀ j, 0 ≤ τ_196.2.1 18 j ∧ τ_196.2.1 18 j ≤ 90000 := fun j => hT.2 18 j
                have A19 : ∀ j, 0 ≤ τ_196.2.1 19 j ∧ τ_196.2.1 19 j ≤ 60 := fun j => hT.2 19 j
                have A20 : ∀ j, 0 ≤ τ_196.2.1 20 j ∧ τ_196.2.1 20 j ≤ 1499 := fun j => hT.2 20 j
                have A25 : ∀ j, 0 ≤ τ_196.2.1 25 j ∧ τ_196.2.1 25 j ≤ 20000 := fun j => hT.2 25 j
                have A26 : ∀ j, 0 ≤ τ_196.2.1 26 j ∧ τ_196.2.1 26 j ≤ 20000 := fun j => hT.2 26 j
                have A27 : ∀ j, (-300) ≤ τ_196.2.1 27 j ∧ τ_196.2.1 27 j ≤ 1499 := fun j => hT.2 27 j
                have A28 : ∀ j, 0 ≤ τ_196.2.1 28 j ∧ τ_196.2.1 28 j ≤ 1 := fun j => hT.2 28 j
                have A39 : ∀ j, 0 ≤ τ_196.2.1 39 j ∧ τ_196.2.1 39 j ≤ 1499 := fun j => hT.2 39 j
                have v3 : 0 ≤ τ_196.1 3 ∧ τ_196.1 3 ≤ 1000 := hT.1 3
                have v5 : 0 ≤ τ_196.1 5 ∧ τ_196.1 5 ≤ 1500 := hT.1 5
                have v6 : 0 ≤ τ_196.1 6 ∧ τ_196.1 6 ≤ 30000 := hT.1 6
                have v7 : 0 ≤ τ_196.1 7 ∧ τ_196.1 7 ≤ 90000 := hT.1 7
                have v8 : 0 ≤ τ_196.1 8 ∧ τ_196.1 8 ≤ 20000 := hT.1 8
                have v9 : 0 ≤ τ_196.1 9 ∧ τ_196.1 9 ≤ 20000 := hT.1 9
                have v20 : 0 ≤ τ_196.1 20 ∧ τ_196.1 20 ≤ 19 := hT.1 20
                have v22 : 0 ≤ τ_196.1 22 ∧ τ_196.1 22 ≤ 1499 := hT.1 22
                have v25 : 0 ≤ τ_196.1 25 ∧ τ_196.1 25 ≤ 300 := hT.1 25
                have v26 : 0 ≤ τ_196.1 26 ∧ τ_196.1 26 ≤ 5000010 := hT.1 26
                have v28 : 0 ≤ τ_196.1 28 ∧ τ_196.1 28 ≤ 1 := hT.1 28
                have v29 : 0 ≤ τ_196.1 29 ∧ τ_196.1 29 ≤ 300 := hT.1 29
                have a18_22 : 0 ≤ τ_196.2.1 18 (τ_196.1 22) ∧ τ_196.2.1 18 (τ_196.1 22) ≤ 90000 := hT.2 18 _
                have a19_22 : 0 ≤ τ_196.2.1 19 (τ_196.1 22) ∧ τ_196.2.1 19 (τ_196.1 22) ≤ 60 := hT.2 19 _
                have a25_22 : 0 ≤ τ_196.2.1 25 (τ_196.1 22) ∧ τ_196.2.1 25 (τ_196.1 22) ≤ 20000 := hT.2 25 _
                have a26_22 : 0 ≤ τ_196.2.1 26 (τ_196.1 22) ∧ τ_196.2.1 26 (τ_196.1 22) ≤ 20000 := hT.2 26 _
                have a28_9 : 0 ≤ τ_196.2.1 28 (τ_196.1 9) ∧ τ_196.2.1 28 (τ_196.1 9) ≤ 1 := hT.2 28 _
                have av9 : σ.1 9 ≤ τ_196.1 9 := ag.1 9 (by decide)
                refine h196 _ ?_
                replace ag := ag_v (i := 26) (x := 0) ag (Or.inl rfl)
                replace hT := mT_v (i := 26) hT (show (0 : Int) ≤ 0 ∧ 0 ≤ 5000010 from by (first | omega | (simp only [st_s] <;> omega) | assumption | omega | fail))
                replace ag := ag_v (i := 27) (x := 0) ag (Or.inl rfl)
                replace hT := mT_v (i := 27) hT (show (0 : Int) ≤ 0 ∧ 0 ≤ 1 from by (first | omega | (simp only [st_s] <;> omega) | assumption | omega | fail))
                exact ⟨hT, (show ¬ (σ.1 20) = 0 → (τ_196.1 20) = (σ.1 20) from by (first | omega | (simp only [st_s] <;> omega) | assumption | omega | fail)), (show τ_196.2.1 25 (τ_196.1 22) + τ_196.2.1 26 (τ_196.1 22) = (τ_196.1 9) from Z4), (show ca (τ_196.2.1 28) ((τ_196.1 9)) ≤ ca (τ_196.2.1 28) (τ_196.2.1 25 (τ_196.1 22)) + (τ_196.1 29) from Y10), (show ¬ (τ_196.1 28) = 0 → τ_196.2.1 25 (τ_196.1 22) < (τ_196.1 9) ∧ τ_196.2.1 28 ((τ_196.1 9) - 1) = 0 from by (first | assumption | omega | (intro _; refine ⟨by omega, ?_⟩; first | exact hz | (rw [e_τ_196]; exact hz)) | fail)), (show j_eq (σ.2.1 25 (σ.1 22)) (σ.2.1 28) (τ_196.2.1 28) from Y13), (show ((0 : Int)) = 0 from by (first | omega | (simp only [st_s] <;> omega) | assumption | omega | fail)), ag, (show n_sp2 (τ_196.2.1 25 (τ_196.1 22)) (τ_196.1 9) (τ_196.1 22) (τ_196.2.1 27) (τ_196.2.1 28) from NSP), (show (τ_196.1 29) + ca (τ_196.2.1 28) (τ_196.2.1 25 (τ_196.1 22)) ≤ ca (τ_196.2.1 28) (τ_196.1 9) from Y10b), (show ¬ (τ_196.1 28) = 0 → 0 ≤ τ_196.2.1 27 ((τ_196.1 9) - 1) from by (first | assumption | (intro z; exfalso; omega) | (intro _; first | (rw [st27]; omega) | (rw [e_τ_196]; show 0 ≤ τ28.2.1 27 (τ28.1 9 - 1); rw [st27]; omega)) | fail))⟩
              ·
                refine h193 _ _ ?_
                refine ⟨(show 0 ≤ 1 ∧ 1 ≤ 1 from by (first | omega | (simp only [st_s] <;> omega) | assumption | omega | fail)), ?_⟩
                replace ag := ag_v (i := 28) (x := 1) ag (Or.inl rfl)
                replace hT := mT_v (i := 28) hT (show (0 : Int) ≤ 1 ∧ 1 ≤ 1 from by (first | omega | (simp only [st_s] <;> omega) | assumption | omega | fail))
                obtain ⟨τ_196, e_τ_196⟩ : ∃ z : S0, z = s_v τ28 28 1 := ⟨_, rfl⟩
                rw [← e_τ_196]
                replace hT : m_T τ_196 := by rw [e_τ_196]; exact hT
                replace ag : m_ag σ τ_196 := by rw [e_τ_196]; exact ag
                have w3_τ_196 : τ_196.1 3 = τ28.1 3 := by rw [e_τ_196]; rfl
                have w5_τ_196 : τ_196.1 5 = τ28.1 5 := by rw [e_τ_196]; rfl
                have w6_τ_196 : τ_196.1 6 = τ28.1 6 := by rw [e_τ_196]; rfl
                have w7_τ_196 : τ_196.1 7 = τ28.1 7 := by rw [e_τ_196]; rfl
                have w8_τ_196 : τ_196.1 8 = τ28.1 8 := by rw [e_τ_196]; rfl
                have w9_τ_196 : τ_196.1 9 = τ28.1 9 := by rw [e_τ_196]; rfl
                have w20_τ_196 : τ_196.1 20 = τ28.1 20 := by rw [e_τ_196]; rfl
                have w22_τ_196 : τ_196.1 22 = τ28.1 22 := by rw [e_τ_196]; rfl
                have w25_τ_196 : τ_196.1 25 = τ28.1 25 := by rw [e_τ_196]; rfl
                have w26_τ_196 : τ_196.1 26 = τ28.1 26 := by rw [e_τ_196]; rfl
                have w28_τ_196 : τ_196.1 28 = 1 := by rw [e_τ_196]; rfl
                have w29_τ_196 : τ_196.1 29 = τ28.1 29 := by rw [e_τ_196]; rfl
                have g18_τ_196 : τ_196.2.1 18 = τ28.2.1 18 := by rw [e_τ_196]; rfl
                have g19_τ_196 : τ_196.2.1 19 = τ28.2.1 19 := by rw [e_τ_196]; rfl
                have g20_τ_196 : τ_196.2.1 20 = τ28.2.1 20 := by rw [e_τ_196]; rfl
                have g25_τ_196 : τ_196.2.1 25 = τ28.2.1 25 := by rw [e_τ_196]; rfl
                have g26_τ_196 : τ_196.2.1 26 = τ28.2.1 26 := by rw [e_τ_196]; rfl
                have g27_τ_196 : τ_196.2.1 27 = τ28.2.1 27 := by rw [e_τ_196]; rfl
                have g28_τ_196 : τ_196.2.1 28 = τ28.2.1 28 := by rw [e_τ_196]; rfl
                have g39_τ_196 : τ_196.2.1 39 = τ28.2.1 39 := by rw [e_τ_196]; rfl
                have W3 : τ_196.1 3 = σ.1 3 := by first | exact w3_τ_196.trans W3 | omega
                have W5 : τ_196.1 5 = σ.1 5 := by first | exact w5_τ_196.trans W5 | omega
                have W6 : τ_196.1 6 = σ.1 6 := by first | exact w6_τ_196.trans W6 | omega
                have W7 : τ_196.1 7 = σ.1 7 := by first | exact w7_τ_196.trans W7 | omega
                have W8 : τ_196.1 8 = σ.1 8 := by first | exact w8_τ_196.trans W8 | omega
                have W22 : τ_196.1 22 = σ.1 22 := by first | exact w22_τ_196.trans W22 | omega
                have W25 : τ_196.1 25 = σ.1 25 := by first | exact w25_τ_196.trans W25 | omega
                have W29 : τ_196.1 29 = σ.1 29 := by first | exact w29_τ_196.trans W29 | omega
                have G18 : τ_196.2.1 18 = σ.2.1 18 := (g18_τ_196).trans G18
                have G19 : τ_196.2.1 19 = σ.2.1 19 := (g19_τ_196).trans G19
                have G20 : τ_196.2.1 20 = σ.2.1 20 := (g20_τ_196).trans G20
                have G25 : τ_196.2.1 25 = σ.2.1 25 := (g25_τ_196).trans G25
                have G39 : τ_196.2.1 39 = σ.2.1 39 := (g39_τ_196).trans G39
                have y18_22_τ_196 : τ_196.2.1 18 (τ_196.1 22) = (τ28.2.1 18) (τ28.1 22) := by rw [g18_τ_196, w22_τ_196]
                have y19_22_τ_196 : τ_196.2.1 19 (τ_196.1 22) = (τ28.2.1 19) (τ28.1 22) := by rw [g19_τ_196, w22_τ_196]
                have y25_22_τ_196 : τ_196.2.1 25 (τ_196.1 22) = (τ28.2.1 25) (τ28.1 22) := by rw [g25_τ_196, w22_τ_196]
                have y26_22_τ_196 : τ_196.2.1 26 (τ_196.1 22) = (τ28.2.1 26) (τ28.1 22) := by rw [g26_τ_196, w22_τ_196]
                have y28_9_τ_196 : τ_196.2.1 28 (τ_196.1 9) = (τ28.2.1 28) (τ28.1 9) := by rw [g28_τ_196, w9_τ_196]
                have Z4 : τ_196.2.1 25 (τ_196.1 22) + τ_196.2.1 26 (τ_196.1 22) = (τ_196.1 9) := by rw [show (τ_196.2.1 25 (τ_196.1 22) + τ_196.2.1 26 (τ_196.1 22) = (τ_196.1 9)) = (τ28.2.1 25 (τ28.1 22) + τ28.2.1 26 (τ28.1 22) = (τ28.1 9)) from by rw [w9_τ_196, w22_τ_196, g25_τ_196, g26_τ_196]]; exact Z4
                have Y10 : ca (τ_196.2.1 28) ((τ_196.1 9)) ≤ ca (τ_196.2.1 28) (τ_196.2.1 25 (τ_196.1 22)) + (τ_196.1 29) := by rw [show (ca (τ_196.2.1 28) ((τ_196.1 9)) ≤ ca (τ_196.2.1 28) (τ_196.2.1 25 (τ_196.1 22)) + (τ_196.1 29)) = (ca (τ28.2.1 28) ((τ28.1 9)) ≤ ca (τ28.2.1 28) (τ28.2.1 25 (τ28.1 22)) + (τ28.1 29)) from by rw [w9_τ_196, w22_τ_196, w29_τ_196, g25_τ_196, g28_τ_196]]; exact Y10
                have Y13 : j_eq (σ.2.1 25 (σ.1 22)) (σ.2.1 28) (τ_196.2.1 28) := by rw [show (j_eq (σ.2.1 25 (σ.1 22)) (σ.2.1 28) (τ_196.2.1 28)) = (j_eq (σ.2.1 25 (σ.1 22)) (σ.2.1 28) (τ28.2.1 28)) from by rw [g28_τ_196]]; exact Y13
                have NSP : n_sp2 (τ_196.2.1 25 (τ_196.1 22)) (τ_196.1 9) (τ_196.1 22) (τ_196.2.1 27) (τ_196.2.1 28) := by rw [show (n_sp2 (τ_196.2.1 25 (τ_196.1 22)) (τ_196.1 9) (τ_196.1 22) (τ_196.2.1 27) (τ_196.2.1 28)) = (n_sp2 (τ28.2.1 25 (τ28.1 22)) (τ28.1 9) (τ28.1 22) (τ28.2.1 27) (τ28.2.1 28)) from by rw [w9_τ_196, w22_τ_196, g25_τ_196, g27_τ_196, g28_τ_196]]; exact NSP
                have PK : ∀ k : Int, 0 ≤ k → k < (τ_196.1 25) → τ_196.2.1 39 k < (τ_196.1 22) := by rw [show (∀ k : Int, 0 ≤ k → k < (τ_196.1 25) → τ_196.2.1 39 k < (τ_196.1 22)) = (∀ k : Int, 0 ≤ k → k < (τ28.1 25) → τ28.2.1 39 k < (τ28.1 22)) from by rw [w22_τ_196, w25_τ_196, g39_τ_196]]; exact PK
                have Y10b : (τ_196.1 29) + ca (τ_196.2.1 28) (τ_196.2.1 25 (τ_196.1 22)) ≤ ca (τ_196.2.1 28) (τ_196.1 9) := by rw [show ((τ_196.1 29) + ca (τ_196.2.1 28) (τ_196.2.1 25 (τ_196.1 22)) ≤ ca (τ_196.2.1 28) (τ_196.1 9)) = ((τ28.1 29) + ca (τ28.2.1 28) (τ28.2.1 25 (τ28.1 22)) ≤ ca (τ28.2.1 28) (τ28.1 9)) from by rw [w9_τ_196, w22_τ_196, w29_τ_196, g25_τ_196, g28_τ_196]]; exact Y10b
                have HYN : ∀ k : Int, 0 ≤ k → k < τ_196.2.1 19 (τ_196.1 22) → τ_196.2.1 20 (τ_196.2.1 18 (τ_196.1 22) + k) < (τ_196.1 22) := by rw [show (∀ k : Int, 0 ≤ k → k < τ_196.2.1 19 (τ_196.1 22) → τ_196.2.1 20 (τ_196.2.1 18 (τ_196.1 22) + k) < (τ_196.1 22)) = (∀ k : Int, 0 ≤ k → k < τ28.2.1 19 (τ28.1 22) → τ28.2.1 20 (τ28.2.1 18 (τ28.1 22) + k) < (τ28.1 22)) from by rw [w22_τ_196, g18_τ_196, g19_τ_196, g20_τ_196]]; exact HYN
                have A18 : ∀ j, 0 ≤ τ_196.2.1 18 j ∧ τ_196.2.1 18 j ≤ 90000 := fun j => hT.2 18 j
                have A19 : ∀ j, 0 ≤ τ_196.2.1 19 j ∧ τ_196.2.1 19 j ≤ 60 := fun j => hT.2 19 j
                have A20 : ∀ j, 0 ≤ τ_196.2.1 20 j ∧ τ_196.2.1 20 j ≤ 1499 := fun j => hT.2 20 j
                have A25 : ∀ j, 0 ≤ τ_196.2.1 25 j ∧ τ_196.2.1 25 j ≤ 20000 := fun j => hT.2 25 j
                have A26 : ∀ j, 0 ≤ τ_196.2.1 26 j ∧ τ_196.2.1 26 j ≤ 20000 := fun j => hT.2 26 j
                have A27 : ∀ j, (-300) ≤ τ_196.2.1 27 j ∧ τ_196.2.1 27 j ≤ 1499 := fun j => hT.2 27 j
                have A28 : ∀ j, 0 ≤ τ_196.2.1 28 j ∧ τ_196.2.1 28 j ≤ 1 := fun j => hT.2 28 j
                have A39 : ∀ j, 0 ≤ τ_196.2.1 39 j ∧ τ_196.2.1 39 j ≤ 1499 := fun j => hT.2 39 j
                have v3 : 0 ≤ τ_196.1 3 ∧ τ_196.1 3 ≤ 1000 := hT.1 3
                have v5 : 0 ≤ τ_196.1 5 ∧ τ_196.1 5 ≤ 1500 := hT.1 5
                have v6 : 0 ≤ τ_196.1 6 ∧ τ_196.1 6 ≤ 30000 := hT.1 6
                have v7 : 0 ≤ τ_196.1 7 ∧ τ_196.1 7 ≤ 90000 := hT.1 7
                have v8 : 0 ≤ τ_196.1 8 ∧ τ_196.1 8 ≤ 20000 := hT.1 8
                have v9 : 0 ≤ τ_196.1 9 ∧ τ_196.1 9 ≤ 20000 := hT.1 9
                have v20 : 0 ≤ τ_196.1 20 ∧ τ_196.1 20 ≤ 19 := hT.1 20
                have v22 : 0 ≤ τ_196.1 22 ∧ τ_196.1 22 ≤ 1499 := hT.1 22
                have v25 : 0 ≤ τ_196.1 25 ∧ τ_196.1 25 ≤ 300 := hT.1 25
                have v26 : 0 ≤ τ_196.1 26 ∧ τ_196.1 26 ≤ 5000010 := hT.1 26
                have v28 : 0 ≤ τ_196.1 28 ∧ τ_196.1 28 ≤ 1 := hT.1 28
                have v29 : 0 ≤ τ_196.1 29 ∧ τ_196.1 29 ≤ 300 := hT.1 29
                have a18_22 : 0 ≤ τ_196.2.1 18 (τ_196.1 22) ∧ τ_196.2.1 18 (τ_196.1 22) ≤ 90000 := hT.2 18 _
                have a19_22 : 0 ≤ τ_196.2.1 19 (τ_196.1 22) ∧ τ_196.2.1 19 (τ_196.1 22) ≤ 60 := hT.2 19 _
                have a25_22 : 0 ≤ τ_196.2.1 25 (τ_196.1 22) ∧ τ_196.2.1 25 (τ_196.1 22) ≤ 20000 := hT.2 25 _
                have a26_22 : 0 ≤ τ_196.2.1 26 (τ_196.1 22) ∧ τ_196.2.1 26 (τ_196.1 22) ≤ 20000 := hT.2 26 _
                have a28_9 : 0 ≤ τ_196.2.1 28 (τ_196.1 9) ∧ τ_196.2.1 28 (τ_196.1 9) ≤ 1 := hT.2 28 _
                have av9 : σ.1 9 ≤ τ_196.1 9 := ag.1 9 (by decide)
                refine h196 _ ?_
                replace ag := ag_v (i := 26) (x := 0) ag (Or.inl rfl)
                replace hT := mT_v (i := 26) hT (show (0 : Int) ≤ 0 ∧ 0 ≤ 5000010 from by (first | omega | (simp only [st_s] <;> omega) | assumption | omega | fail))
                replace ag := ag_v (i := 27) (x := 0) ag (Or.inl rfl)
                replace hT := mT_v (i := 27) hT (show (0 : Int) ≤ 0 ∧ 0 ≤ 1 from by (first | omega | (simp only [st_s] <;> omega) | assumption | omega | fail))
                exact ⟨hT, (show ¬ (σ.1 20) = 0 → (τ_196.1 20) = (σ.1 20) from by (first | omega | (simp only [st_s] <;> omega) | assumption | omega | fail)), (show τ_196.2.1 25 (τ_196.1 22) + τ_196.2.1 26 (τ_196.1 22) = (τ_196.1 9) from Z4), (show ca (τ_196.2.1 28) ((τ_196.1 9)) ≤ ca (τ_196.2.1 28) (τ_196.2.1 25 (τ_196.1 22)) + (τ_196.1 29) from Y10), (show ¬ (τ_196.1 28) = 0 → τ_196.2.1 25 (τ_196.1 22) < (τ_196.1 9) ∧ τ_196.2.1 28 ((τ_196.1 9) - 1) = 0 from by (first | assumption | omega | (intro _; refine ⟨by omega, ?_⟩; first | exact hz | (rw [e_τ_196]; exact hz)) | fail)), (show j_eq (σ.2.1 25 (σ.1 22)) (σ.2.1 28) (τ_196.2.1 28) from Y13), (show ((0 : Int)) = 0 from by (first | omega | (simp only [st_s] <;> omega) | assumption | omega | fail)), ag, (show n_sp2 (τ_196.2.1 25 (τ_196.1 22)) (τ_196.1 9) (τ_196.1 22) (τ_196.2.1 27) (τ_196.2.1 28) from NSP), (show (τ_196.1 29) + ca (τ_196.2.1 28) (τ_196.2.1 25 (τ_196.1 22)) ≤ ca (τ_196.2.1 28) (τ_196.1 9) from Y10b), (show ¬ (τ_196.1 28) = 0 → 0 ≤ τ_196.2.1 27 ((τ_196.1 9) - 1) from by (first | assumption | (intro z; exfalso; omega) | (intro _; first | (rw [st27]; omega) | (rw [e_τ_196]; show 0 ≤ τ28.2.1 27 (τ28.1 9 - 1); rw [st27]; omega)) | fail))⟩
        ·
          refine ⟨_, K_X13_fail hT (show 0 ≤ (5 : Int) from by (first | omega | (simp only [st_s] <;> omega) | assumption | omega | fail)) (show (5 : Int) ≤ 19 from by (first | omega | (simp only [st_s] <;> omega) | assumption | omega | fail)) (show -1 ≤ n2 from by (first | omega | (simp only [st_s] <;> omega) | assumption | omega | fail)) (show n2 ≤ 60000 from by (first | omega | (simp only [st_s] <;> omega) | assumption | omega | fail)), ?_⟩
          intro τ21 hn_τ21 hf_τ21 hq
          obtain ⟨hT, q19_1, q19_2⟩ := hq
          replace q19_1 : ¬ (σ.1 20) = 0 → (τ21.1 20) = (σ.1 20) := q19_1
          replace q19_2 : (σ.1 20) = 0 → (τ21.1 20) = (5 : Int) := q19_2
          replace ag : m_ag σ τ21 := ag_r ag hf_τ21 rfl rfl
          have w3_τ21 : τ21.1 3 = σ.1 3 := hf_τ21.1 3 (by decide)
          have w5_τ21 : τ21.1 5 = σ.1 5 := hf_τ21.1 5 (by decide)
          have w6_τ21 : τ21.1 6 = σ.1 6 := hf_τ21.1 6 (by decide)
          have w7_τ21 : τ21.1 7 = σ.1 7 := hf_τ21.1 7 (by decide)
          have w8_τ21 : τ21.1 8 = σ.1 8 := hf_τ21.1 8 (by decide)
          have w9_τ21 : τ21.1 9 = σ.1 9 := hf_τ21.1 9 (by decide)
          have w22_τ21 : τ21.1 22 = σ.1 22 := hf_τ21.1 22 (by decide)
          have w25_τ21 : τ21.1 25 = σ.1 25 := hf_τ21.1 25 (by decide)
          have w26_τ21 : τ21.1 26 = σ.1 26 := hf_τ21.1 26 (by decide)
          have w28_τ21 : τ21.1 28 = σ.1 28 := hf_τ21.1 28 (by decide)
          have w29_τ21 : τ21.1 29 = σ.1 29 := hf_τ21.1 29 (by decide)
          have g18_τ21 : τ21.2.1 18 = σ.2.1 18 := hf_τ21.2.1 18 (by decide)
          have g19_τ21 : τ21.2.1 19 = σ.2.1 19 := hf_τ21.2.1 19 (by decide)
          have g20_τ21 : τ21.2.1 20 = σ.2.1 20 := hf_τ21.2.1 20 (by decide)
          have g25_τ21 : τ21.2.1 25 = σ.2.1 25 := hf_τ21.2.1 25 (by decide)
          have g26_τ21 : τ21.2.1 26 = σ.2.1 26 := hf_τ21.2.1 26 (by decide)
          have g27_τ21 : τ21.2.1 27 = σ.2.1 27 := hf_τ21.2.1 27 (by decide)
          have g28_τ21 : τ21.2.1 28 = σ.2.1 28 := hf_τ21.2.1 28 (by decide)
          have g39_τ21 : τ21.2.1 39 = σ.2.1 39 := hf_τ21.2.1 39 (by decide)
          have W3 : τ21.1 3 = σ.1 3 := by first | exact w3_τ21.trans W3 | omega
          have W5 : τ21.1 5 = σ.1 5 := by first | exact w5_τ21.trans W5 | omega
          have W6 : τ21.1 6 = σ.1 6 := by first | exact w6_τ21.trans W6 | omega
          have W7 : τ21.1 7 = σ.1 7 := by first | exact w7_τ21.trans W7 | omega
          have W8 : τ21.1 8 = σ.1 8 := by first | exact w8_τ21.trans W8 | omega
          have W22 : τ21.1 22 = σ.1 22 := by first | exact w22_τ21.trans W22 | omega
          have W25 : τ21.1 25 = σ.1 25 := by first | exact w25_τ21.trans W25 | omega
          have W29 : τ21.1 29 = σ.1 29 := by first | exact w29_τ21.trans W29 | omega
          have G18 : τ21.2.1 18 = σ.2.1 18 := (g18_τ21).trans G18
          have G19 : τ21.2.1 19 = σ.2.1 19 := (g19_τ21).trans G19
          have G20 : τ21.2.1 20 = σ.2.1 20 := (g20_τ21).trans G20
          have G25 : τ21.2.1 25 = σ.2.1 25 := (g25_τ21).trans G25
          have G39 : τ21.2.1 39 = σ.2.1 39 := (g39_τ21).trans G39
          have y18_22_τ21 : τ21.2.1 18 (τ21.1 22) = (σ.2.1 18) (σ.1 22) := by rw [g18_τ21, w22_τ21]
          have y19_22_τ21 : τ21.2.1 19 (τ21.1 22) = (σ.2.1 19) (σ.1 22) := by rw [g19_τ21, w22_τ21]
          have y25_22_τ21 : τ21.2.1 25 (τ21.1 22) = (σ.2.1 25) (σ.1 22) := by rw [g25_τ21, w22_τ21]
          have y26_22_τ21 : τ21.2.1 26 (τ21.1 22) = (σ.2.1 26) (σ.1 22) := by rw [g26_τ21, w22_τ21]
          have y28_9_τ21 : τ21.2.1 28 (τ21.1 9) = (σ.2.1 28) (σ.1 9) := by rw [g28_τ21, w9_τ21]
          have Z4 : τ21.2.1 25 (τ21.1 22) + τ21.2.1 26 (τ21.1 22) = (τ21.1 9) := by rw [show (τ21.2.1 25 (τ21.1 22) + τ21.2.1 26 (τ21.1 22) = (τ21.1 9)) = (σ.2.1 25 (σ.1 22) + σ.2.1 26 (σ.1 22) = (σ.1 9)) from by rw [w9_τ21, w22_τ21, g25_τ21, g26_τ21]]; exact Z4
          have Y10 : ca (τ21.2.1 28) ((τ21.1 9)) ≤ ca (τ21.2.1 28) (τ21.2.1 25 (τ21.1 22)) + (τ21.1 29) := by rw [show (ca (τ21.2.1 28) ((τ21.1 9)) ≤ ca (τ21.2.1 28) (τ21.2.1 25 (τ21.1 22)) + (τ21.1 29)) = (ca (σ.2.1 28) ((σ.1 9)) ≤ ca (σ.2.1 28) (σ.2.1 25 (σ.1 22)) + (σ.1 29)) from by rw [w9_τ21, w22_τ21, w29_τ21, g25_τ21, g28_τ21]]; exact Y10
          have Y12 : ¬ (τ21.1 28) = 0 → τ21.2.1 25 (τ21.1 22) < (τ21.1 9) ∧ τ21.2.1 28 ((τ21.1 9) - 1) = 0 := by rw [show (¬ (τ21.1 28) = 0 → τ21.2.1 25 (τ21.1 22) < (τ21.1 9) ∧ τ21.2.1 28 ((τ21.1 9) - 1) = 0) = (¬ (σ.1 28) = 0 → σ.2.1 25 (σ.1 22) < (σ.1 9) ∧ σ.2.1 28 ((σ.1 9) - 1) = 0) from by rw [w9_τ21, w22_τ21, w28_τ21, g25_τ21, g28_τ21]]; exact Y12
          have Y13 : j_eq (σ.2.1 25 (σ.1 22)) (σ.2.1 28) (τ21.2.1 28) := by rw [show (j_eq (σ.2.1 25 (σ.1 22)) (σ.2.1 28) (τ21.2.1 28)) = (j_eq (σ.2.1 25 (σ.1 22)) (σ.2.1 28) (σ.2.1 28)) from by rw [g28_τ21]]; exact Y13
          have NSP : n_sp2 (τ21.2.1 25 (τ21.1 22)) (τ21.1 9) (τ21.1 22) (τ21.2.1 27) (τ21.2.1 28) := by rw [show (n_sp2 (τ21.2.1 25 (τ21.1 22)) (τ21.1 9) (τ21.1 22) (τ21.2.1 27) (τ21.2.1 28)) = (n_sp2 (σ.2.1 25 (σ.1 22)) (σ.1 9) (σ.1 22) (σ.2.1 27) (σ.2.1 28)) from by rw [w9_τ21, w22_τ21, g25_τ21, g27_τ21, g28_τ21]]; exact NSP
          have Y12c : ¬ (τ21.1 28) = 0 → 0 ≤ τ21.2.1 27 ((τ21.1 9) - 1) := by rw [show (¬ (τ21.1 28) = 0 → 0 ≤ τ21.2.1 27 ((τ21.1 9) - 1)) = (¬ (σ.1 28) = 0 → 0 ≤ σ.2.1 27 ((σ.1 9) - 1)) from by rw [w9_τ21, w28_τ21, g27_τ21]]; exact Y12c
          have PK : ∀ k : Int, 0 ≤ k → k < (τ21.1 25) → τ21.2.1 39 k < (τ21.1 22) := by rw [show (∀ k : Int, 0 ≤ k → k < (τ21.1 25) → τ21.2.1 39 k < (τ21.1 22)) = (∀ k : Int, 0 ≤ k → k < (σ.1 25) → σ.2.1 39 k < (σ.1 22)) from by rw [w22_τ21, w25_τ21, g39_τ21]]; exact PK
          have Y10b : (τ21.1 29) + ca (τ21.2.1 28) (τ21.2.1 25 (τ21.1 22)) ≤ ca (τ21.2.1 28) (τ21.1 9) := by rw [show ((τ21.1 29) + ca (τ21.2.1 28) (τ21.2.1 25 (τ21.1 22)) ≤ ca (τ21.2.1 28) (τ21.1 9)) = ((σ.1 29) + ca (σ.2.1 28) (σ.2.1 25 (σ.1 22)) ≤ ca (σ.2.1 28) (σ.1 9)) from by rw [w9_τ21, w22_τ21, w29_τ21, g25_τ21, g28_τ21]]; exact Y10b
          have HYN : ∀ k : Int, 0 ≤ k → k < τ21.2.1 19 (τ21.1 22) → τ21.2.1 20 (τ21.2.1 18 (τ21.1 22) + k) < (τ21.1 22) := by rw [show (∀ k : Int, 0 ≤ k → k < τ21.2.1 19 (τ21.1 22) → τ21.2.1 20 (τ21.2.1 18 (τ21.1 22) + k) < (τ21.1 22)) = (∀ k : Int, 0 ≤ k → k < σ.2.1 19 (σ.1 22) → σ.2.1 20 (σ.2.1 18 (σ.1 22) + k) < (σ.1 22)) from by rw [w22_τ21, g18_τ21, g19_τ21, g20_τ21]]; exact HYN
          have A18 : ∀ j, 0 ≤ τ21.2.1 18 j ∧ τ21.2.1 18 j ≤ 90000 := fun j => hT.2 18 j
          have A19 : ∀ j, 0 ≤ τ21.2.1 19 j ∧ τ21.2.1 19 j ≤ 60 := fun j => hT.2 19 j
          have A20 : ∀ j, 0 ≤ τ21.2.1 20 j ∧ τ21.2.1 20 j ≤ 1499 := fun j => hT.2 20 j
          have A25 : ∀ j, 0 ≤ τ21.2.1 25 j ∧ τ21.2.1 25 j ≤ 20000 := fun j => hT.2 25 j
          have A26 : ∀ j, 0 ≤ τ21.2.1 26 j ∧ τ21.2.1 26 j ≤ 20000 := fun j => hT.2 26 j
          have A27 : ∀ j, (-300) ≤ τ21.2.1 27 j ∧ τ21.2.1 27 j ≤ 1499 := fun j => hT.2 27 j
          have A28 : ∀ j, 0 ≤ τ21.2.1 28 j ∧ τ21.2.1 28 j ≤ 1 := fun j => hT.2 28 j
          have A39 : ∀ j, 0 ≤ τ21.2.1 39 j ∧ τ21.2.1 39 j ≤ 1499 := fun j => hT.2 39 j
          have v3 : 0 ≤ τ21.1 3 ∧ τ21.1 3 ≤ 1000 := hT.1 3
          have v5 : 0 ≤ τ21.1 5 ∧ τ21.1 5 ≤ 1500 := hT.1 5
          have v6 : 0 ≤ τ21.1 6 ∧ τ21.1 6 ≤ 30000 := hT.1 6
          have v7 : 0 ≤ τ21.1 7 ∧ τ21.1 7 ≤ 90000 := hT.1 7
          have v8 : 0 ≤ τ21.1 8 ∧ τ21.1 8 ≤ 20000 := hT.1 8
          have v9 : 0 ≤ τ21.1 9 ∧ τ21.1 9 ≤ 20000 := hT.1 9
          have v20 : 0 ≤ τ21.1 20 ∧ τ21.1 20 ≤ 19 := hT.1 20
          have v22 : 0 ≤ τ21.1 22 ∧ τ21.1 22 ≤ 1499 := hT.1 22
          have v25 : 0 ≤ τ21.1 25 ∧ τ21.1 25 ≤ 300 := hT.1 25
          have v26 : 0 ≤ τ21.1 26 ∧ τ21.1 26 ≤ 5000010 := hT.1 26
          have v28 : 0 ≤ τ21.1 28 ∧ τ21.1 28 ≤ 1 := hT.1 28
          have v29 : 0 ≤ τ21.1 29 ∧ τ21.1 29 ≤ 300 := hT.1 29
          have a18_22 : 0 ≤ τ21.2.1 18 (τ21.1 22) ∧ τ21.2.1 18 (τ21.1 22) ≤ 90000 := hT.2 18 _
          have a19_22 : 0 ≤ τ21.2.1 19 (τ21.1 22) ∧ τ21.2.1 19 (τ21.1 22) ≤ 60 := hT.2 19 _
          have a25_22 : 0 ≤ τ21.2.1 25 (τ21.1 22) ∧ τ21.2.1 25 (τ21.1 22) ≤ 20000 := hT.2 25 _
          have a26_22 : 0 ≤ τ21.2.1 26 (τ21.1 22) ∧ τ21.2.1 26 (τ21.1 22) ≤ 20000 := hT.2 26 _
          have a28_9 : 0 ≤ τ21.2.1 28 (τ21.1 9) ∧ τ21.2.1 28 (τ21.1 9) ≤ 1 := hT.2 28 _
          have av9 : σ.1 9 ≤ τ21.1 9 := ag.1 9 (by decide)
          refine h196 _ ?_
          replace ag := ag_v (i := 26) (x := 0) ag (Or.inl rfl)
          replace hT := mT_v (i := 26) hT (show (0 : Int) ≤ 0 ∧ 0 ≤ 5000010 from by (first | omega | (simp only [st_s] <;> omega) | assumption | omega | fail))
          replace ag := ag_v (i := 27) (x := 0) ag (Or.inl rfl)
          replace hT := mT_v (i := 27) hT (show (0 : Int) ≤ 0 ∧ 0 ≤ 1 from by (first | omega | (simp only [st_s] <;> omega) | assumption | omega | fail))
          exact ⟨hT, (show ¬ (σ.1 20) = 0 → (τ21.1 20) = (σ.1 20) from by (first | omega | (simp only [st_s] <;> omega) | assumption | omega | fail)), (show τ21.2.1 25 (τ21.1 22) + τ21.2.1 26 (τ21.1 22) = (τ21.1 9) from Z4), (show ca (τ21.2.1 28) ((τ21.1 9)) ≤ ca (τ21.2.1 28) (τ21.2.1 25 (τ21.1 22)) + (τ21.1 29) from Y10), (show ¬ (τ21.1 28) = 0 → τ21.2.1 25 (τ21.1 22) < (τ21.1 9) ∧ τ21.2.1 28 ((τ21.1 9) - 1) = 0 from Y12), (show j_eq (σ.2.1 25 (σ.1 22)) (σ.2.1 28) (τ21.2.1 28) from Y13), (show ((0 : Int)) = 0 from by (first | omega | (simp only [st_s] <;> omega) | assumption | omega | fail)), ag, (show n_sp2 (τ21.2.1 25 (τ21.1 22)) (τ21.1 9) (τ21.1 22) (τ21.2.1 27) (τ21.2.1 28) from NSP), (show (τ21.1 29) + ca (τ21.2.1 28) (τ21.2.1 25 (τ21.1 22)) ≤ ca (τ21.2.1 28) (τ21.1 9) from Y10b), (show ¬ (τ21.1 28) = 0 → 0 ≤ τ21.2.1 27 ((τ21.1 9) - 1) from Y12c)⟩
      ·
        refine ⟨fun c22 => ?_, fun c22 => ?_⟩
        ·
          refine h82 _ _ _ ?_
          refine ⟨_, K_X13_fail hT (show 0 ≤ (14 : Int) from by (first | omega | (simp only [st_s] <;> omega) | assumption | omega | fail)) (show (14 : Int) ≤ 19 from by (first | omega | (simp only [st_s] <;> omega) | assumption | omega | fail)) (show -1 ≤ n2 from by (first | omega | (simp only [st_s] <;> omega) | assumption | omega | fail)) (show n2 ≤ 60000 from by (first | omega | (simp only [st_s] <;> omega) | assumption | omega | fail)), ?_⟩
          intro τ35 hn_τ35 hf_τ35 hq
          obtain ⟨hT, q33_1, q33_2⟩ := hq
          replace q33_1 : ¬ (σ.1 20) = 0 → (τ35.1 20) = (σ.1 20) := q33_1
          replace q33_2 : (σ.1 20) = 0 → (τ35.1 20) = (14 : Int) := q33_2
          replace ag : m_ag σ τ35 := ag_r ag hf_τ35 rfl rfl
          have w3_τ35 : τ35.1 3 = σ.1 3 := hf_τ35.1 3 (by decide)
          have w5_τ35 : τ35.1 5 = σ.1 5 := hf_τ35.1 5 (by decide)
          have w6_τ35 : τ35.1 6 = σ.1 6 := hf_τ35.1 6 (by decide)
          have w7_τ35 : τ35.1 7 = σ.1 7 := hf_τ35.1 7 (by decide)
          have w8_τ35 : τ35.1 8 = σ.1 8 := hf_τ35.1 8 (by decide)
          have w9_τ35 : τ35.1 9 = σ.1 9 := hf_τ35.1 9 (by decide)
          have w22_τ35 : τ35.1 22 = σ.1 22 := hf_τ35.1 22 (by decide)
          have w25_τ35 : τ35.1 25 = σ.1 25 := hf_τ35.1 25 (by decide)
          have w26_τ35 : τ35.1 26 = σ.1 26 := hf_τ35.1 26 (by decide)
          have w28_τ35 : τ35.1 28 = σ.1 28 := hf_τ35.1 28 (by decide)
          have w29_τ35 : τ35.1 29 = σ.1 29 := hf_τ35.1 29 (by decide)
          have g18_τ35 : τ35.2.1 18 = σ.2.1 18 := hf_τ35.2.1 18 (by decide)
          have g19_τ35 : τ35.2.1 19 = σ.2.1 19 := hf_τ35.2.1 19 (by decide)
          have g20_τ35 : τ35.2.1 20 = σ.2.1 20 := hf_τ35.2.1 20 (by decide)
          have g25_τ35 : τ35.2.1 25 = σ.2.1 25 := hf_τ35.2.1 25 (by decide)
          have g26_τ35 : τ35.2.1 26 = σ.2.1 26 := hf_τ35.2.1 26 (by decide)
          have g27_τ35 : τ35.2.1 27 = σ.2.1 27 := hf_τ35.2.1 27 (by decide)
          have g28_τ35 : τ35.2.1 28 = σ.2.1 28 := hf_τ35.2.1 28 (by decide)
          have g39_τ35 : τ35.2.1 39 = σ.2.1 39 := hf_τ35.2.1 39 (by decide)
          have W3 : τ35.1 3 = σ.1 3 := by first | exact w3_τ35.trans W3 | omega
          have W5 : τ35.1 5 = σ.1 5 := by first | exact w5_τ35.trans W5 | omega
          have W6 : τ35.1 6 = σ.1 6 := by first | exact w6_τ35.trans W6 | omega
          have W7 : τ35.1 7 = σ.1 7 := by first | exact w7_τ35.trans W7 | omega
          have W8 : τ35.1 8 = σ.1 8 := by first | exact w8_τ35.trans W8 | omega
          have W22 : τ35.1 22 = σ.1 22 := by first | exact w22_τ35.trans W22 | omega
          have W25 : τ35.1 25 = σ.1 25 := by first | exact w25_τ35.trans W25 | omega
          have W29 : τ35.1 29 = σ.1 29 := by first | exact w29_τ35.trans W29 | omega
          have G18 : τ35.2.1 18 = σ.2.1 18 := (g18_τ35).trans G18
          have G19 : τ35.2.1 19 = σ.2.1 19 := (g19_τ35).trans G19
          have G20 : τ35.2.1 20 = σ.2.1 20 := (g20_τ35).trans G20
          have G25 : τ35.2.1 25 = σ.2.1 25 := (g25_τ35).trans G25
          have G39 : τ35.2.1 39 = σ.2.1 39 := (g39_τ35).trans G39
          have y18_22_τ35 : τ35.2.1 18 (τ35.1 22) = (σ.2.1 18) (σ.1 22) := by rw [g18_τ35, w22_τ35]
          have y19_22_τ35 : τ35.2.1 19 (τ35.1 22) = (σ.2.1 19) (σ.1 22) := by rw [g19_τ35, w22_τ35]
          have y25_22_τ35 : τ35.2.1 25 (τ35.1 22) = (σ.2.1 25) (σ.1 22) := by rw [g25_τ35, w22_τ35]
          have y26_22_τ35 : τ35.2.1 26 (τ35.1 22) = (σ.2.1 26) (σ.1 22) := by rw [g26_τ35, w22_τ35]
          have y28_9_τ35 : τ35.2.1 28 (τ35.1 9) = (σ.2.1 28) (σ.1 9) := by rw [g28_τ35, w9_τ35]
          have Z4 : τ35.2.1 25 (τ35.1 22) + τ35.2.1 26 (τ35.1 22) = (τ35.1 9) := by rw [show (τ35.2.1 25 (τ35.1 22) + τ35.2.1 26 (τ35.1 22) = (τ35.1 9)) = (σ.2.1 25 (σ.1 22) + σ.2.1 26 (σ.1 22) = (σ.1 9)) from by rw [w9_τ35, w22_τ35, g25_τ35, g26_τ35]]; exact Z4
          have Y10 : ca (τ35.2.1 28) ((τ35.1 9)) ≤ ca (τ35.2.1 28) (τ35.2.1 25 (τ35.1 22)) + (τ35.1 29) := by rw [show (ca (τ35.2.1 28) ((τ35.1 9)) ≤ ca (τ35.2.1 28) (τ35.2.1 25 (τ35.1 22)) + (τ35.1 29)) = (ca (σ.2.1 28) ((σ.1 9)) ≤ ca (σ.2.1 28) (σ.2.1 25 (σ.1 22)) + (σ.1 29)) from by rw [w9_τ35, w22_τ35, w29_τ35, g25_τ35, g28_τ35]]; exact Y10
          have Y12 : ¬ (τ35.1 28) = 0 → τ35.2.1 25 (τ35.1 22) < (τ35.1 9) ∧ τ35.2.1 28 ((τ35.1 9) - 1) = 0 := by rw [show (¬ (τ35.1 28) = 0 → τ35.2.1 25 (τ35.1 22) < (τ35.1 9) ∧ τ35.2.1 28 ((τ35.1 9) - 1) = 0) = (¬ (σ.1 28) = 0 → σ.2.1 25 (σ.1 22) < (σ.1 9) ∧ σ.2.1 28 ((σ.1 9) - 1) = 0) from by rw [w9_τ35, w22_τ35, w28_τ35, g25_τ35, g28_τ35]]; exact Y12
          have Y13 : j_eq (σ.2.1 25 (σ.1 22)) (σ.2.1 28) (τ35.2.1 28) := by rw [show (j_eq (σ.2.1 25 (σ.1 22)) (σ.2.1 28) (τ35.2.1 28)) = (j_eq (σ.2.1 25 (σ.1 22)) (σ.2.1 28) (σ.2.1 28)) from by rw [g28_τ35]]; exact Y13
          have NSP : n_sp2 (τ35.2.1 25 (τ35.1 22)) (τ35.1 9) (τ35.1 22) (τ35.2.1 27) (τ35.2.1 28) := by rw [show (n_sp2 (τ35.2.1 25 (τ35.1 22)) (τ35.1 9) (τ35.1 22) (τ35.2.1 27) (τ35.2.1 28)) = (n_sp2 (σ.2.1 25 (σ.1 22)) (σ.1 9) (σ.1 22) (σ.2.1 27) (σ.2.1 28)) from by rw [w9_τ35, w22_τ35, g25_τ35, g27_τ35, g28_τ35]]; exact NSP
          have Y12c : ¬ (τ35.1 28) = 0 → 0 ≤ τ35.2.1 27 ((τ35.1 9) - 1) := by rw [show (¬ (τ35.1 28) = 0 → 0 ≤ τ35.2.1 27 ((τ35.1 9) - 1)) = (¬ (σ.1 28) = 0 → 0 ≤ σ.2.1 27 ((σ.1 9) - 1)) from by rw [w9_τ35, w28_τ35, g27_τ35]]; exact Y12c
          have PK : ∀ k : Int, 0 ≤ k → k < (τ35.1 25) → τ35.2.1 39 k < (τ35.1 22) := by rw [show (∀ k : Int, 0 ≤ k → k < (τ35.1 25) → τ35.2.1 39 k < (τ35.1 22)) = (∀ k : Int, 0 ≤ k → k < (σ.1 25) → σ.2.1 39 k < (σ.1 22)) from by rw [w22_τ35, w25_τ35, g39_τ35]]; exact PK
          have Y10b : (τ35.1 29) + ca (τ35.2.1 28) (τ35.2.1 25 (τ35.1 22)) ≤ ca (τ35.2.1 28) (τ35.1 9) := by rw [show ((τ35.1 29) + ca (τ35.2.1 28) (τ35.2.1 25 (τ35.1 22)) ≤ ca (τ35.2.1 28) (τ35.1 9)) = ((σ.1 29) + ca (σ.2.1 28) (σ.2.1 25 (σ.1 22)) ≤ ca (σ.2.1 28) (σ.1 9)) from by rw [w9_τ35, w22_τ35, w29_τ35, g25_τ35, g28_τ35]]; exact Y10b
          have HYN : ∀ k : Int, 0 ≤ k → k < τ35.2.1 19 (τ35.1 22) → τ35.2.1 20 (τ35.2.1 18 (τ35.1 22) + k) < (τ35.1 22) := by rw [show (∀ k : Int, 0 ≤ k → k < τ35.2.1 19 (τ35.1 22) → τ35.2.1 20 (τ35.2.1 18 (τ35.1 22) + k) < (τ35.1 22)) = (∀ k : Int, 0 ≤ k → k < σ.2.1 19 (σ.1 22) → σ.2.1 20 (σ.2.1 18 (σ.1 22) + k) < (σ.1 22)) from by rw [w22_τ35, g18_τ35, g19_τ35, g20_τ35]]; exact HYN
          have A18 : ∀ j, 0 ≤ τ35.2.1 18 j ∧ τ35.2.1 18 j ≤ 90000 := fun j => hT.2 18 j
          have A19 : ∀ j, 0 ≤ τ35.2.1 19 j ∧ τ35.2.1 19 j ≤ 60 := fun j => hT.2 19 j
          have A20 : ∀ j, 0 ≤ τ35.2.1 20 j ∧ τ35.2.1 20 j ≤ 1499 := fun j => hT.2 20 j
          have A25 : ∀ j, 0 ≤ τ35.2.1 25 j ∧ τ35.2.1 25 j ≤ 20000 := fun j => hT.2 25 j
          have A26 : ∀ j, 0 ≤ τ35.2.1 26 j ∧ τ35.2.1 26 j ≤ 20000 := fun j => hT.2 26 j
          have A27 : ∀ j, (-300) ≤ τ35.2.1 27 j ∧ τ35.2.1 27 j ≤ 1499 := fun j => hT.2 27 j
          have A28 : ∀ j, 0 ≤ τ35.2.1 28 j ∧ τ35.2.1 28 j ≤ 1 := fun j => hT.2 28 j
          have A39 : ∀ j, 0 ≤ τ35.2.1 39 j ∧ τ35.2.1 39 j ≤ 1499 := fun j => hT.2 39 j
          have v3 : 0 ≤ τ35.1 3 ∧ τ35.1 3 ≤ 1000 := hT.1 3
          have v5 : 0 ≤ τ35.1 5 ∧ τ35.1 5 ≤ 1500 := hT.1 5
          have v6 : 0 ≤ τ35.1 6 ∧ τ35.1 6 ≤ 30000 := hT.1 6
          have v7 : 0 ≤ τ35.1 7 ∧ τ35.1 7 ≤ 90000 := hT.1 7
          have v8 : 0 ≤ τ35.1 8 ∧ τ35.1 8 ≤ 20000 := hT.1 8
          have v9 : 0 ≤ τ35.1 9 ∧ τ35.1 9 ≤ 20000 := hT.1 9
          have v20 : 0 ≤ τ35.1 20 ∧ τ35.1 20 ≤ 19 := hT.1 20
          have v22 : 0 ≤ τ35.1 22 ∧ τ35.1 22 ≤ 1499 := hT.1 22
          have v25 : 0 ≤ τ35.1 25 ∧ τ35.1 25 ≤ 300 := hT.1 25
          have v26 : 0 ≤ τ35.1 26 ∧ τ35.1 26 ≤ 5000010 := hT.1 26
          have v28 : 0 ≤ τ35.1 28 ∧ τ35.1 28 ≤ 1 := hT.1 28
          have v29 : 0 ≤ τ35.1 29 ∧ τ35.1 29 ≤ 300 := hT.1 29
          have a18_22 : 0 ≤ τ35.2.1 18 (τ35.1 22) ∧ τ35.2.1 18 (τ35.1 22) ≤ 90000 := hT.2 18 _
          have a19_22 : 0 ≤ τ35.2.1 19 (τ35.1 22) ∧ τ35.2.1 19 (τ35.1 22) ≤ 60 := hT.2 19 _
          have a25_22 : 0 ≤ τ35.2.1 25 (τ35.1 22) ∧ τ35.2.1 25 (τ35.1 22) ≤ 20000 := hT.2 25 _
          have a26_22 : 0 ≤ τ35.2.1 26 (τ35.1 22) ∧ τ35.2.1 26 (τ35.1 22) ≤ 20000 := hT.2 26 _
          have a28_9 : 0 ≤ τ35.2.1 28 (τ35.1 9) ∧ τ35.2.1 28 (τ35.1 9) ≤ 1 := hT.2 28 _
          have av9 : σ.1 9 ≤ τ35.1 9 := ag.1 9 (by decide)
          refine h196 _ ?_
          replace ag := ag_v (i := 26) (x := 0) ag (Or.inl rfl)
          replace hT := mT_v (i := 26) hT (show (0 : Int) ≤ 0 ∧ 0 ≤ 5000010 from by (first | omega | (simp only [st_s] <;> omega) | assumption | omega | fail))
          replace ag := ag_v (i := 27) (x := 0) ag (Or.inl rfl)
          replace hT := mT_v (i := 27) hT (show (0 : Int) ≤ 0 ∧ 0 ≤ 1 from by (first | omega | (simp only [st_s] <;> omega) | assumption | omega | fail))
          exact ⟨hT, (show ¬ (σ.1 20) = 0 → (τ35.1 20) = (σ.1 20) from by (first | omega | (simp only [st_s] <;> omega) | assumption | omega | fail)), (show τ35.2.1 25 (τ35.1 22) + τ35.2.1 26 (τ35.1 22) = (τ35.1 9) from Z4), (show ca (τ35.2.1 28) ((τ35.1 9)) ≤ ca (τ35.2.1 28) (τ35.2.1 25 (τ35.1 22)) + (τ35.1 29) from Y10), (show ¬ (τ35.1 28) = 0 → τ35.2.1 25 (τ35.1 22) < (τ35.1 9) ∧ τ35.2.1 28 ((τ35.1 9) - 1) = 0 from Y12), (show j_eq (σ.2.1 25 (σ.1 22)) (σ.2.1 28) (τ35.2.1 28) from Y13), (show ((0 : Int)) = 0 from by (first | omega | (simp only [st_s] <;> omega) | assumption | omega | fail)), ag, (show n_sp2 (τ35.2.1 25 (τ35.1 22)) (τ35.1 9) (τ35.1 22) (τ35.2.1 27) (τ35.2.1 28) from NSP), (show (τ35.1 29) + ca (τ35.2.1 28) (τ35.2.1 25 (τ35.1 22)) ≤ ca (τ35.2.1 28) (τ35.1 9) from Y10b), (show ¬ (τ35.1 28) = 0 → 0 ≤ τ35.2.1 27 ((τ35.1 9) - 1) from Y12c)⟩
        ·
          refine h82 _ _ _ ?_
          refine ⟨_, K_X13_fail hT (show 0 ≤ (5 : Int) from by (first | omega | (simp only [st_s] <;> omega) | assumption | omega | fail)) (show (5 : Int) ≤ 19 from by (first | omega | (simp only [st_s] <;> omega) | assumption | omega | fail)) (show -1 ≤ n2 from by (first | omega | (simp only [st_s] <;> omega) | assumption | omega | fail)) (show n2 ≤ 60000 from by (first | omega | (simp only [st_s] <;> omega) | assumption | omega | fail)), ?_⟩
          intro τ35 hn_τ35 hf_τ35 hq
          obtain ⟨hT, q33_1, q33_2⟩ := hq
          replace q33_1 : ¬ (σ.1 20) = 0 → (τ35.1 20) = (σ.1 20) := q33_1
          replace q33_2 : (σ.1 20) = 0 → (τ35.1 20) = (5 : Int) := q33_2
          replace ag : m_ag σ τ35 := ag_r ag hf_τ35 rfl rfl
          have w3_τ35 : τ35.1 3 = σ.1 3 := hf_τ35.1 3 (by decide)
          have w5_τ35 : τ35.1 5 = σ.1 5 := hf_τ35.1 5 (by decide)
          have w6_τ35 : τ35.1 6 = σ.1 6 := hf_τ35.1 6 (by decide)
          have w7_τ35 : τ35.1 7 = σ.1 7 := hf_τ35.1 7 (by decide)
          have w8_τ35 : τ35.1 8 = σ.1 8 := hf_τ35.1 8 (by decide)
          have w9_τ35 : τ35.1 9 = σ.1 9 := hf_τ35.1 9 (by decide)
          have w22_τ35 : τ35.1 22 = σ.1 22 := hf_τ35.1 22 (by decide)
          have w25_τ35 : τ35.1 25 = σ.1 25 := hf_τ35.1 25 (by decide)
          have w26_τ35 : τ35.1 26 = σ.1 26 := hf_τ35.1 26 (by decide)
          have w28_τ35 : τ35.1 28 = σ.1 28 := hf_τ35.1 28 (by decide)
          have w29_τ35 : τ35.1 29 = σ.1 29 := hf_τ35.1 29 (by decide)
          have g18_τ35 : τ35.2.1 18 = σ.2.1 18 := hf_τ35.2.1 18 (by decide)
          have g19_τ35 : τ35.2.1 19 = σ.2.1 19 := hf_τ35.2.1 19 (by decide)
          have g20_τ35 : τ35.2.1 20 = σ.2.1 20 := hf_τ35.2.1 20 (by decide)
          have g25_τ35 : τ35.2.1 25 = σ.2.1 25 := hf_τ35.2.1 25 (by decide)
          have g26_τ35 : τ35.2.1 26 = σ.2.1 26 := hf_τ35.2.1 26 (by decide)
          have g27_τ35 : τ35.2.1 27 = σ.2.1 27 := hf_τ35.2.1 27 (by decide)
          have g28_τ35 : τ35.2.1 28 = σ.2.1 28 := hf_τ35.2.1 28 (by decide)
          have g39_τ35 : τ35.2.1 39 = σ.2.1 39 := hf_τ35.2.1 39 (by decide)
          have W3 : τ35.1 3 = σ.1 3 := by first | exact w3_τ35.trans W3 | omega
          have W5 : τ35.1 5 = σ.1 5 := by first | exact w5_τ35.trans W5 | omega
          have W6 : τ35.1 6 = σ.1 6 := by first | exact w6_τ35.trans W6 | omega
          have W7 : τ35.1 7 = σ.1 7 := by first | exact w7_τ35.trans W7 | omega
          have W8 : τ35.1 8 = σ.1 8 := by first | exact w8_τ35.trans W8 | omega
          have W22 : τ35.1 22 = σ.1 22 := by first | exact w22_τ35.trans W22 | omega
          have W25 : τ35.1 25 = σ.1 25 := by first | exact w25_τ35.trans W25 | omega
          have W29 : τ35.1 29 = σ.1 29 := by first | exact w29_τ35.trans W29 | omega
          have G18 : τ35.2.1 18 = σ.2.1 18 := (g18_τ35).trans G18
          have G19 : τ35.2.1 19 = σ.2.1 19 := (g19_τ35).trans G19
          have G20 : τ35.2.1 20 = σ.2.1 20 := (g20_τ35).trans G20
          have G25 : τ35.2.1 25 = σ.2.1 25 := (g25_τ35).trans G25
          have G39 : τ35.2.1 39 = σ.2.1 39 := (g39_τ35).trans G39
          have y18_22_τ35 : τ35.2.1 18 (τ35.1 22) = (σ.2.1 18) (σ.1 22) := by rw [g18_τ35, w22_τ35]
          have y19_22_τ35 : τ35.2.1 19 (τ35.1 22) = (σ.2.1 19) (σ.1 22) := by rw [g19_τ35, w22_τ35]
          have y25_22_τ35 : τ35.2.1 25 (τ35.1 22) = (σ.2.1 25) (σ.1 22) := by rw [g25_τ35, w22_τ35]
          have y26_22_τ35 : τ35.2.1 26 (τ35.1 22) = (σ.2.1 26) (σ.1 22) := by rw [g26_τ35, w22_τ35]
          have y28_9_τ35 : τ35.2.1 28 (τ35.1 9) = (σ.2.1 28) (σ.1 9) := by rw [g28_τ35, w9_τ35]
          have Z4 : τ35.2.1 25 (τ35.1 22) + τ35.2.1 26 (τ35.1 22) = (τ35.1 9) := by rw [show (τ35.2.1 25 (τ35.1 22) + τ35.2.1 26 (τ35.1 22) = (τ35.1 9)) = (σ.2.1 25 (σ.1 22) + σ.2.1 26 (σ.1 22) = (σ.1 9)) from by rw [w9_τ35, w22_τ35, g25_τ35, g26_τ35]]; exact Z4
          have Y10 : ca (τ35.2.1 28) ((τ35.1 9)) ≤ ca (τ35.2.1 28) (τ35.2.1 25 (τ35.1 22)) + (τ35.1 29) := by rw [show (ca (τ35.2.1 28) ((τ35.1 9)) ≤ ca (τ35.2.1 28) (τ35.2.1 25 (τ35.1 22)) + (τ35.1 29)) = (ca (σ.2.1 28) ((σ.1 9)) ≤ ca (σ.2.1 28) (σ.2.1 25 (σ.1 22)) + (σ.1 29)) from by rw [w9_τ35, w22_τ35, w29_τ35, g25_τ35, g28_τ35]]; exact Y10
          have Y12 : ¬ (τ35.1 28) = 0 → τ35.2.1 25 (τ35.1 22) < (τ35.1 9) ∧ τ35.2.1 28 ((τ35.1 9) - 1) = 0 := by rw [show (¬ (τ35.1 28) = 0 → τ35.2.1 25 (τ35.1 22) < (τ35.1 9) ∧ τ35.2.1 28 ((τ35.1 9) - 1) = 0) = (¬ (σ.1 28) = 0 → σ.2.1 25 (σ.1 22) < (σ.1 9) ∧ σ.2.1 28 ((σ.1 9) - 1) = 0) from by rw [w9_τ35, w22_τ35, w28_τ35, g25_τ35, g28_τ35]]; exact Y12
          have Y13 : j_eq (σ.2.1 25 (σ.1 22)) (σ.2.1 28) (τ35.2.1 28) := by rw [show (j_eq (σ.2.1 25 (σ.1 22)) (σ.2.1 28) (τ35.2.1 28)) = (j_eq (σ.2.1 25 (σ.1 22)) (σ.2.1 28) (σ.2.1 28)) from by rw [g28_τ35]]; exact Y13
          have NSP : n_sp2 (τ35.2.1 25 (τ35.1 22)) (τ35.1 9) (τ35.1 22) (τ35.2.1 27) (τ35.2.1 28) := by rw [show (n_sp2 (τ35.2.1 25 (τ35.1 22)) (τ35.1 9) (τ35.1 22) (τ35.2.1 27) (τ35.2.1 28)) = (n_sp2 (σ.2.1 25 (σ.1 22)) (σ.1 9) (σ.1 22) (σ.2.1 27) (σ.2.1 28)) from by rw [w9_τ35, w22_τ35, g25_τ35, g27_τ35, g28_τ35]]; exact NSP
          have Y12c : ¬ (τ35.1 28) = 0 → 0 ≤ τ35.2.1 27 ((τ35.1 9) - 1) := by rw [show (¬ (τ35.1 28) = 0 → 0 ≤ τ35.2.1 27 ((τ35.1 9) - 1)) = (¬ (σ.1 28) = 0 → 0 ≤ σ.2.1 27 ((σ.1 9) - 1)) from by rw [w9_τ35, w28_τ35, g27_τ35]]; exact Y12c
          have PK : ∀ k : Int, 0 ≤ k → k < (τ35.1 25) → τ35.2.1 39 k < (τ35.1 22) := by rw [show (∀ k : Int, 0 ≤ k → k < (τ35.1 25) → τ35.2.1 39 k < (τ35.1 22)) = (∀ k : Int, 0 ≤ k → k < (σ.1 25) → σ.2.1 39 k < (σ.1 22)) from by rw [w22_τ35, w25_τ35, g39_τ35]]; exact PK
          have Y10b : (τ35.1 29) + ca (τ35.2.1 28) (τ35.2.1 25 (τ35.1 22)) ≤ ca (τ35.2.1 28) (τ35.1 9) := by rw [show ((τ35.1 29) + ca (τ35.2.1 28) (τ35.2.1 25 (τ35.1 22)) ≤ ca (τ35.2.1 28) (τ35.1 9)) = ((σ.1 29) + ca (σ.2.1 28) (σ.2.1 25 (σ.1 22)) ≤ ca (σ.2.1 28) (σ.1 9)) from by rw [w9_τ35, w22_τ35, w29_τ35, g25_τ35, g28_τ35]]; exact Y10b
          have HYN : ∀ k : Int, 0 ≤ k → k < τ35.2.1 19 (τ35.1 22) → τ35.2.1 20 (τ35.2.1 18 (τ35.1 22) + k) < (τ35.1 22) := by rw [show (∀ k : Int, 0 ≤ k → k < τ35.2.1 19 (τ35.1 22) → τ35.2.1 20 (τ35.2.1 18 (τ35.1 22) + k) < (τ35.1 22)) = (∀ k : Int, 0 ≤ k → k < σ.2.1 19 (σ.1 22) → σ.2.1 20 (σ.2.1 18 (σ.1 22) + k) < (σ.1 22)) from by rw [w22_τ35, g18_τ35, g19_τ35, g20_τ35]]; exact HYN
          have A18 : ∀ j, 0 ≤ τ35.2.1 18 j ∧ τ35.2.1 18 j ≤ 90000 := fun j => hT.2 18 j
          have A19 : ∀ j, 0 ≤ τ35.2.1 19 j ∧ τ35.2.1 19 j ≤ 60 := fun j => hT.2 19 j
          have A20 : ∀ j, 0 ≤ τ35.2.1 20 j ∧ τ35.2.1 20 j ≤ 1499 := fun j => hT.2 20 j
          have A25 : ∀ j, 0 ≤ τ35.2.1 25 j ∧ τ35.2.1 25 j ≤ 20000 := fun j => hT.2 25 j
          have A26 : ∀ j, 0 ≤ τ35.2.1 26 j ∧ τ35.2.1 26 j ≤ 20000 := fun j => hT.2 26 j
          have A27 : ∀ j, (-300) ≤ τ35.2.1 27 j ∧ τ35.2.1 27 j ≤ 1499 := fun j => hT.2 27 j
          have A28 : ∀ j, 0 ≤ τ35.2.1 28 j ∧ τ35.2.1 28 j ≤ 1 := fun j => hT.2 28 j
          have A39 : ∀ j, 0 ≤ τ35.2.1 39 j ∧ τ35.2.1 39 j ≤ 1499 := fun j => hT.2 39 j
          have v3 : 0 ≤ τ35.1 3 ∧ τ35.1 3 ≤ 1000 := hT.1 3
          have v5 : 0 ≤ τ35.1 5 ∧ τ35.1 5 ≤ 1500 := hT.1 5
          have v6 : 0 ≤ τ35.1 6 ∧ τ35.1 6 ≤ 30000 := hT.1 6
          have v7 : 0 ≤ τ35.1 7 ∧ τ35.1 7 ≤ 90000 := hT.1 7
          have v8 : 0 ≤ τ35.1 8 ∧ τ35.1 8 ≤ 20000 := hT.1 8
          have v9 : 0 ≤ τ35.1 9 ∧ τ35.1 9 ≤ 20000 := hT.1 9
          have v20 : 0 ≤ τ35.1 20 ∧ τ35.1 20 ≤ 19 := hT.1 20
          have v22 : 0 ≤ τ35.1 22 ∧ τ35.1 22 ≤ 1499 := hT.1 22
          have v25 : 0 ≤ τ35.1 25 ∧ τ35.1 25 ≤ 300 := hT.1 25
          have v26 : 0 ≤ τ35.1 26 ∧ τ35.1 26 ≤ 5000010 := hT.1 26
          have v28 : 0 ≤ τ35.1 28 ∧ τ35.1 28 ≤ 1 := hT.1 28
          have v29 : 0 ≤ τ35.1 29 ∧ τ35.1 29 ≤ 300 := hT.1 29
          have a18_22 : 0 ≤ τ35.2.1 18 (τ35.1 22) ∧ τ35.2.1 18 (τ35.1 22) ≤ 90000 := hT.2 18 _
          have a19_22 : 0 ≤ τ35.2.1 19 (τ35.1 22) ∧ τ35.2.1 19 (τ35.1 22) ≤ 60 := hT.2 19 _
          have a25_22 : 0 ≤ τ35.2.1 25 (τ35.1 22) ∧ τ35.2.1 25 (τ35.1 22) ≤ 20000 := hT.2 25 _
          have a26_22 : 0 ≤ τ35.2.1 26 (τ35.1 22) ∧ τ35.2.1 26 (τ35.1 22) ≤ 20000 := hT.2 26 _
          have a28_9 : 0 ≤ τ35.2.1 28 (τ35.1 9) ∧ τ35.2.1 28 (τ35.1 9) ≤ 1 := hT.2 28 _
          have av9 : σ.1 9 ≤ τ35.1 9 := ag.1 9 (by decide)
          refine h196 _ ?_
          replace ag := ag_v (i := 26) (x := 0) ag (Or.inl rfl)
          replace hT := mT_v (i := 26) hT (show (0 : Int) ≤ 0 ∧ 0 ≤ 5000010 from by (first | omega | (simp only [st_s] <;> omega) | assumption | omega | fail))
          replace ag := ag_v (i := 27) (x := 0) ag (Or.inl rfl)
          replace hT := mT_v (i := 27) hT (show (0 : Int) ≤ 0 ∧ 0 ≤ 1 from by (first | omega | (simp only [st_s] <;> omega) | assumption | omega | fail))
          exact ⟨hT, (show ¬ (σ.1 20) = 0 → (τ35.1 20) = (σ.1 20) from by (first | omega | (simp only [st_s] <;> omega) | assumption | omega | fail)), (show τ35.2.1 25 (τ35.1 22) + τ35.2.1 26 (τ35.1 22) = (τ35.1 9) from Z4), (show ca (τ35.2.1 28) ((τ35.1 9)) ≤ ca (τ35.2.1 28) (τ35.2.1 25 (τ35.1 22)) + (τ35.1 29) from Y10), (show ¬ (τ35.1 28) = 0 → τ35.2.1 25 (τ35.1 22) < (τ35.1 9) ∧ τ35.2.1 28 ((τ35.1 9) - 1) = 0 from Y12), (show j_eq (σ.2.1 25 (σ.1 22)) (σ.2.1 28) (τ35.2.1 28) from Y13), (show ((0 : Int)) = 0 from by (first | omega | (simp only [st_s] <;> omega) | assumption | omega | fail)), ag, (show n_sp2 (τ35.2.1 25 (τ35.1 22)) (τ35.1 9) (τ35.1 22) (τ35.2.1 27) (τ35.2.1 28) from NSP), (show (τ35.1 29) + ca (τ35.2.1 28) (τ35.2.1 25 (τ35.1 22)) ≤ ca (τ35.2.1 28) (τ35.1 9) from Y10b), (show ¬ (τ35.1 28) = 0 → 0 ≤ τ35.2.1 27 ((τ35.1 9) - 1) from Y12c)⟩
    ·
      refine ⟨_, K_X13_fail hT (show 0 ≤ (5 : Int) from by (first | omega | (simp only [st_s] <;> omega) | assumption | omega | fail)) (show (5 : Int) ≤ 19 from by (first | omega | (simp only [st_s] <;> omega) | assumption | omega | fail)) (show -1 ≤ n2 from by (first | omega | (simp only [st_s] <;> omega) | assumption | omega | fail)) (show n2 ≤ 60000 from by (first | omega | (simp only [st_s] <;> omega) | assumption | omega | fail)), ?_⟩
      intro τ25 hn_τ25 hf_τ25 hq
      obtain ⟨hT, q23_1, q23_2⟩ := hq
      replace q23_1 : ¬ (σ.1 20) = 0 → (τ25.1 20) = (σ.1 20) := q23_1
      replace q23_2 : (σ.1 20) = 0 → (τ25.1 20) = (5 : Int) := q23_2
      replace ag : m_ag σ τ25 := ag_r ag hf_τ25 rfl rfl
      have w3_τ25 : τ25.1 3 = σ.1 3 := hf_τ25.1 3 (by decide)
      have w5_τ25 : τ25.1 5 = σ.1 5 := hf_τ25.1 5 (by decide)
      have w6_τ25 : τ25.1 6 = σ.1 6 := hf_τ25.1 6 (by decide)
      have w7_τ25 : τ25.1 7 = σ.1 7 := hf_τ25.1 7 (by decide)
      have w8_τ25 : τ25.1 8 = σ.1 8 := hf_τ25.1 8 (by decide)
      have w9_τ25 : τ25.1 9 = σ.1 9 := hf_τ25.1 9 (by decide)
      have w22_τ25 : τ25.1 22 = σ.1 22 := hf_τ25.1 22 (by decide)
      have w25_τ25 : τ25.1 25 = σ.1 25 := hf_τ25.1 25 (by decide)
      have w26_τ25 : τ25.1 26 = σ.1 26 := hf_τ25.1 26 (by decide)
      have w28_τ25 : τ25.1 28 = σ.1 28 := hf_τ25.1 28 (by decide)
      have w29_τ25 : τ25.1 29 = σ.1 29 := hf_τ25.1 29 (by decide)
      have g18_τ25 : τ25.2.1 18 = σ.2.1 18 := hf_τ25.2.1 18 (by decide)
      have g19_τ25 : τ25.2.1 19 = σ.2.1 19 := hf_τ25.2.1 19 (by decide)
      have g20_τ25 : τ25.2.1 20 = σ.2.1 20 := hf_τ25.2.1 20 (by decide)
      have g25_τ25 : τ25.2.1 25 = σ.2.1 25 := hf_τ25.2.1 25 (by decide)
      have g26_τ25 : τ25.2.1 26 = σ.2.1 26 := hf_τ25.2.1 26 (by decide)
      have g27_τ25 : τ25.2.1 27 = σ.2.1 27 := hf_τ25.2.1 27 (by decide)
      have g28_τ25 : τ25.2.1 28 = σ.2.1 28 := hf_τ25.2.1 28 (by decide)
      have g39_τ25 : τ25.2.1 39 = σ.2.1 39 := hf_τ25.2.1 39 (by decide)
      have W3 : τ25.1 3 = σ.1 3 := by first | exact w3_τ25.trans W3 | omega
      have W5 : τ25.1 5 = σ.1 5 := by first | exact w5_τ25.trans W5 | omega
      have W6 : τ25.1 6 = σ.1 6 := by first | exact w6_τ25.trans W6 | omega
      have W7 : τ25.1 7 = σ.1 7 := by first | exact w7_τ25.trans W7 | omega
      have W8 : τ25.1 8 = σ.1 8 := by first | exact w8_τ25.trans W8 | omega
      have W22 : τ25.1 22 = σ.1 22 := by first | exact w22_τ25.trans W22 | omega
      have W25 : τ25.1 25 = σ.1 25 := by first | exact w25_τ25.trans W25 | omega
      have W29 : τ25.1 29 = σ.1 29 := by first | exact w29_τ25.trans W29 | omega
      have G18 : τ25.2.1 18 = σ.2.1 18 := (g18_τ25).trans G18
      have G19 : τ25.2.1 19 = σ.2.1 19 := (g19_τ25).trans G19
      have G20 : τ25.2.1 20 = σ.2.1 20 := (g20_τ25).trans G20
      have G25 : τ25.2.1 25 = σ.2.1 25 := (g25_τ25).trans G25
      have G39 : τ25.2.1 39 = σ.2.1 39 := (g39_τ25).trans G39
      have y18_22_τ25 : τ25.2.1 18 (τ25.1 22) = (σ.2.1 18) (σ.1 22) := by rw [g18_τ25, w22_τ25]
      have y19_22_τ25 : τ25.2.1 19 (τ25.1 22) = (σ.2.1 19) (σ.1 22) := by rw [g19_τ25, w22_τ25]
      have y25_22_τ25 : τ25.2.1 25 (τ25.1 22) = (σ.2.1 25) (σ.1 22) := by rw [g25_τ25, w22_τ25]
      have y26_22_τ25 : τ25.2.1 26 (τ25.1 22) = (σ.2.1 26) (σ.1 22) := by rw [g26_τ25, w22_τ25]
      have y28_9_τ25 : τ25.2.1 28 (τ25.1 9) = (σ.2.1 28) (σ.1 9) := by rw [g28_τ25, w9_τ25]
      have Z4 : τ25.2.1 25 (τ25.1 22) + τ25.2.1 26 (τ25.1 22) = (τ25.1 9) := by rw [show (τ25.2.1 25 (τ25.1 22) + τ25.2.1 26 (τ25.1 22) = (τ25.1 9)) = (σ.2.1 25 (σ.1 22) + σ.2.1 26 (σ.1 22) = (σ.1 9)) from by rw [w9_τ25, w22_τ25, g25_τ25, g26_τ25]]; exact Z4
      have Y10 : ca (τ25.2.1 28) ((τ25.1 9)) ≤ ca (τ25.2.1 28) (τ25.2.1 25 (τ25.1 22)) + (τ25.1 29) := by rw [show (ca (τ25.2.1 28) ((τ25.1 9)) ≤ ca (τ25.2.1 28) (τ25.2.1 25 (τ25.1 22)) + (τ25.1 29)) = (ca (σ.2.1 28) ((σ.1 9)) ≤ ca (σ.2.1 28) (σ.2.1 25 (σ.1 22)) + (σ.1 29)) from by rw [w9_τ25, w22_τ25, w29_τ25, g25_τ25, g28_τ25]]; exact Y10
      have Y12 : ¬ (τ25.1 28) = 0 → τ25.2.1 25 (τ25.1 22) < (τ25.1 9) ∧ τ25.2.1 28 ((τ25.1 9) - 1) = 0 := by rw [show (¬ (τ25.1 28) = 0 → τ25.2.1 25 (τ25.1 22) < (τ25.1 9) ∧ τ25.2.1 28 ((τ25.1 9) - 1) = 0) = (¬ (σ.1 28) = 0 → σ.2.1 25 (σ.1 22) < (σ.1 9) ∧ σ.2.1 28 ((σ.1 9) - 1) = 0) from by rw [w9_τ25, w22_τ25, w28_τ25, g25_τ25, g28_τ25]]; exact Y12
      have Y13 : j_eq (σ.2.1 25 (σ.1 22)) (σ.2.1 28) (τ25.2.1 28) := by rw [show (j_eq (σ.2.1 25 (σ.1 22)) (σ.2.1 28) (τ25.2.1 28)) = (j_eq (σ.2.1 25 (σ.1 22)) (σ.2.1 28) (σ.2.1 28)) from by rw [g28_τ25]]; exact Y13
      have NSP : n_sp2 (τ25.2.1 25 (τ25.1 22)) (τ25.1 9) (τ25.1 22) (τ25.2.1 27) (τ25.2.1 28) := by rw [show (n_sp2 (τ25.2.1 25 (τ25.1 22)) (τ25.1 9) (τ25.1 22) (τ25.2.1 27) (τ25.2.1 28)) = (n_sp2 (σ.2.1 25 (σ.1 22)) (σ.1 9) (σ.1 22) (σ.2.1 27) (σ.2.1 28)) from by rw [w9_τ25, w22_τ25, g25_τ25, g27_τ25, g28_τ25]]; exact NSP
      have Y12c : ¬ (τ25.1 28) = 0 → 0 ≤ τ25.2.1 27 ((τ25.1 9) - 1) := by rw [show (¬ (τ25.1 28) = 0 → 0 ≤ τ25.2.1 27 ((τ25.1 9) - 1)) = (¬ (σ.1 28) = 0 → 0 ≤ σ.2.1 27 ((σ.1 9) - 1)) from by rw [w9_τ25, w28_τ25, g27_τ25]]; exact Y12c
      have PK : ∀ k : Int, 0 ≤ k → k < (τ25.1 25) → τ25.2.1 39 k < (τ25.1 22) := by rw [show (∀ k : Int, 0 ≤ k → k < (τ25.1 25) → τ25.2.1 39 k < (τ25.1 22)) = (∀ k : Int, 0 ≤ k → k < (σ.1 25) → σ.2.1 39 k < (σ.1 22)) from by rw [w22_τ25, w25_τ25, g39_τ25]]; exact PK
      have Y10b : (τ25.1 29) + ca (τ25.2.1 28) (τ25.2.1 25 (τ25.1 22)) ≤ ca (τ25.2.1 28) (τ25.1 9) := by rw [show ((τ25.1 29) + ca (τ25.2.1 28) (τ25.2.1 25 (τ25.1 22)) ≤ ca (τ25.2.1 28) (τ25.1 9)) = ((σ.1 29) + ca (σ.2.1 28) (σ.2.1 25 (σ.1 22)) ≤ ca (σ.2.1 28) (σ.1 9)) from by rw [w9_τ25, w22_τ25, w29_τ25, g25_τ25, g28_τ25]]; exact Y10b
      have HYN : ∀ k : Int, 0 ≤ k → k < τ25.2.1 19 (τ25.1 22) → τ25.2.1 20 (τ25.2.1 18 (τ25.1 22) + k) < (τ25.1 22) := by rw [show (∀ k : Int, 0 ≤ k → k < τ25.2.1 19 (τ25.1 22) → τ25.2.1 20 (τ25.2.1 18 (τ25.1 22) + k) < (τ25.1 22)) = (∀ k : Int, 0 ≤ k → k < σ.2.1 19 (σ.1 22) → σ.2.1 20 (σ.2.1 18 (σ.1 22) + k) < (σ.1 22)) from by rw [w22_τ25, g18_τ25, g19_τ25, g20_τ25]]; exact HYN
      have A18 : ∀ j, 0 ≤ τ25.2.1 18 j ∧ τ25.2.1 18 j ≤ 90000 := fun j => hT.2 18 j
      have A19 : ∀ j, 0 ≤ τ25.2.1 19 j ∧ τ25.2.1 19 j ≤ 60 := fun j => hT.2 19 j
      have A20 : ∀ j, 0 ≤ τ25.2.1 20 j ∧ τ25.2.1 20 j ≤ 1499 := fun j => hT.2 20 j
      have A25 : ∀ j, 0 ≤ τ25.2.1 25 j ∧ τ25.2.1 25 j ≤ 20000 := fun j => hT.2 25 j
      have A26 : ∀ j, 0 ≤ τ25.2.1 26 j ∧ τ25.2.1 26 j ≤ 20000 := fun j => hT.2 26 j
      have A27 : ∀ j, (-300) ≤ τ25.2.1 27 j ∧ τ25.2.1 27 j ≤ 1499 := fun j => hT.2 27 j
      have A28 : ∀ j, 0 ≤ τ25.2.1 28 j ∧ τ25.2.1 28 j ≤ 1 := fun j => hT.2 28 j
      have A39 : ∀ j, 0 ≤ τ25.2.1 39 j ∧ τ25.2.1 39 j ≤ 1499 := fun j => hT.2 39 j
      have v3 : 0 ≤ τ25.1 3 ∧ τ25.1 3 ≤ 1000 := hT.1 3
      have v5 : 0 ≤ τ25.1 5 ∧ τ25.1 5 ≤ 1500 := hT.1 5
      have v6 : 0 ≤ τ25.1 6 ∧ τ25.1 6 ≤ 30000 := hT.1 6
      have v7 : 0 ≤ τ25.1 7 ∧ τ25.1 7 ≤ 90000 := hT.1 7
      have v8 : 0 ≤ τ25.1 8 ∧ τ25.1 8 ≤ 20000 := hT.1 8
      have v9 : 0 ≤ τ25.1 9 ∧ τ25.1 9 ≤ 20000 := hT.1 9
      have v20 : 0 ≤ τ25.1 20 ∧ τ25.1 20 ≤ 19 := hT.1 20
      have v22 : 0 ≤ τ25.1 22 ∧ τ25.1 22 ≤ 1499 := hT.1 22
      have v25 : 0 ≤ τ25.1 25 ∧ τ25.1 25 ≤ 300 := hT.1 25
      have v26 : 0 ≤ τ25.1 26 ∧ τ25.1 26 ≤ 5000010 := hT.1 26
      have v28 : 0 ≤ τ25.1 28 ∧ τ25.1 28 ≤ 1 := hT.1 28
      have v29 : 0 ≤ τ25.1 29 ∧ τ25.1 29 ≤ 300 := hT.1 29
      have a18_22 : 0 ≤ τ25.2.1 18 (τ25.1 22) ∧ τ25.2.1 18 (τ25.1 22) ≤ 90000 := hT.2 18 _
      have a19_22 : 0 ≤ τ25.2.1 19 (τ25.1 22) ∧ τ25.2.1 19 (τ25.1 22) ≤ 60 := hT.2 19 _
      have a25_22 : 0 ≤ τ25.2.1 25 (τ25.1 22) ∧ τ25.2.1 25 (τ25.1 22) ≤ 20000 := hT.2 25 _
      have a26_22 : 0 ≤ τ25.2.1 26 (τ25.1 22) ∧ τ25.2.1 26 (τ25.1 22) ≤ 20000 := hT.2 26 _
      have a28_9 : 0 ≤ τ25.2.1 28 (τ25.1 9) ∧ τ25.2.1 28 (τ25.1 9) ≤ 1 := hT.2 28 _
      have av9 : σ.1 9 ≤ τ25.1 9 := ag.1 9 (by decide)
      refine h196 _ ?_
      replace ag := ag_v (i := 26) (x := 0) ag (Or.inl rfl)
      replace hT := mT_v (i := 26) hT (show (0 : Int) ≤ 0 ∧ 0 ≤ 5000010 from by (first | omega | (simp only [st_s] <;> omega) | assumption | omega | fail))
      replace ag := ag_v (i := 27) (x := 0) ag (Or.inl rfl)
      replace hT := mT_v (i := 27) hT (show (0 : Int) ≤ 0 ∧ 0 ≤ 1 from by (first | omega | (simp only [st_s] <;> omega) | assumption | omega | fail))
      exact ⟨hT, (show ¬ (σ.1 20) = 0 → (τ25.1 20) = (σ.1 20) from by (first | omega | (simp only [st_s] <;> omega) | assumption | omega | fail)), (show τ25.2.1 25 (τ25.1 22) + τ25.2.1 26 (τ25.1 22) = (τ25.1 9) from Z4), (show ca (τ25.2.1 28) ((τ25.1 9)) ≤ ca (τ25.2.1 28) (τ25.2.1 25 (τ25.1 22)) + (τ25.1 29) from Y10), (show ¬ (τ25.1 28) = 0 → τ25.2.1 25 (τ25.1 22) < (τ25.1 9) ∧ τ25.2.1 28 ((τ25.1 9) - 1) = 0 from Y12), (show j_eq (σ.2.1 25 (σ.1 22)) (σ.2.1 28) (τ25.2.1 28) from Y13), (show ((0 : Int)) = 0 from by (first | omega | (simp only [st_s] <;> omega) | assumption | omega | fail)), ag, (show n_sp2 (τ25.2.1 25 (τ25.1 22)) (τ25.1 9) (τ25.1 22) (τ25.2.1 27) (τ25.2.1 28) from NSP), (show (τ25.1 29) + ca (τ25.2.1 28) (τ25.2.1 25 (τ25.1 22)) ≤ ca (τ25.2.1 28) (τ25.1 9) from Y10b), (show ¬ (τ25.1 28) = 0 → 0 ≤ τ25.2.1 27 ((τ25.1 9) - 1) from Y12c)⟩
  ·
    refine h31 _ _ _ _ _ _ ?_
    refine ⟨fun c6 => ?_, fun c6 => ?_⟩
    ·
      refine ⟨(⟨by (first | omega | (simp only [st_s] <;> omega) | assumption | omega | fail), by (first | omega | (simp only [st_s] <;> omega) | assumption | omega | fail)⟩ : rg ((x2 + σ.1 25) + σ.1 29)), ?_⟩
      refine ⟨fun c8 => ?_, fun c8 => ?_⟩
      ·
        refine ⟨fun c9 => ?_, fun c9 => ?_⟩
        ·
          refine ⟨fun c10 => ?_, fun c10 => ?_⟩
          ·
            refine ⟨fun c11 => ?_, fun c11 => ?_⟩
            ·
              refine ⟨(show 0 ≤ ((n1 - 1) - x2) ∧ ((n1 - 1) - x2) < 300 from by (first | omega | (simp only [st_s] <;> omega) | assumption | omega | fail)), ?_⟩
              intro x13 r_x13 e_x13
              have b_x13 : 0 ≤ x13 ∧ x13 ≤ 1499 := by rw [e_x13]; exact hT.2 39 _
              refine h162 _ _ _ _ ?_
              have kn : x13 < σ.1 22 := by first | (rw [e_x13]; exact PK _ (by omega) (by omega)) | (rw [e_x17, e_x15]; exact HYN _ (by omega) (by omega)) | omega
              refine ⟨_, K_X13_addStep hT (show -300 ≤ x13 from by (first | omega | (simp only [st_s] <;> omega) | assumption | omega | fail)) (show x13 ≤ 1499 from by (first | omega | (simp only [st_s] <;> omega) | assumption | omega | fail)) (show 0 ≤ n2 from by (first | omega | (simp only [st_s] <;> omega) | assumption | omega | fail)) (show n2 ≤ 60000 from by (first | omega | (simp only [st_s] <;> omega) | assumption | omega | fail)) (show (σ.1 9) < 20000 from by (first | omega | (simp only [st_s] <;> omega) | assumption | omega | fail)) (show σ.2.1 26 (σ.1 22) < 20000 from by (first | omega | (simp only [st_s] <;> omega) | assumption | omega | fail)) (show (σ.1 22) = (σ.1 5) from by (first | omega | (simp only [st_s] <;> omega) | assumption | omega | fail)), ?_⟩
              intro τ28 hn_τ28 hf_τ28 hq
              obtain ⟨hT, q26_1, q26_2, q26_3, q26_4, q26_5, q26_6, q26_7⟩ := hq
              replace q26_1 : (τ28.1 9) = (σ.1 9) + 1 := q26_1
              replace q26_2 : τ28.2.1 26 (τ28.1 22) = σ.2.1 26 (σ.1 22) + 1 := q26_2
              replace q26_3 : τ28.2.1 27 = st (σ.2.1 27) (σ.1 9) x13 := q26_3
              replace q26_4 : j_eq ((σ.1 9)) (σ.2.1 28) (τ28.2.1 28) := q26_4
              replace q26_5 : ca (τ28.2.1 28) ((τ28.1 9)) = ca (σ.2.1 28) ((σ.1 9)) := q26_5
              replace q26_6 : τ28.2.1 28 (σ.1 9) = 0 := q26_6
              replace q26_7 : m_ag σ τ28 := q26_7
              replace ag : m_ag σ τ28 := ag_t ag q26_7 rfl
              have w3_τ28 : τ28.1 3 = σ.1 3 := hf_τ28.1 3 (by decide)
              have w5_τ28 : τ28.1 5 = σ.1 5 := hf_τ28.1 5 (by decide)
              have w6_τ28 : τ28.1 6 = σ.1 6 := hf_τ28.1 6 (by decide)
              have w7_τ28 : τ28.1 7 = σ.1 7 := hf_τ28.1 7 (by decide)
              have w8_τ28 : τ28.1 8 = σ.1 8 := hf_τ28.1 8 (by decide)
              have w20_τ28 : τ28.1 20 = σ.1 20 := hf_τ28.1 20 (by decide)
              have w22_τ28 : τ28.1 22 = σ.1 22 := hf_τ28.1 22 (by decide)
              have w25_τ28 : τ28.1 25 = σ.1 25 := hf_τ28.1 25 (by decide)
              have w26_τ28 : τ28.1 26 = σ.1 26 := hf_τ28.1 26 (by decide)
              have w28_τ28 : τ28.1 28 = σ.1 28 := hf_τ28.1 28 (by decide)
              have w29_τ28 : τ28.1 29 = σ.1 29 := hf_τ28.1 29 (by decide)
              have g18_τ28 : τ28.2.1 18 = σ.2.1 18 := hf_τ28.2.1 18 (by decide)
              have g19_τ28 : τ28.2.1 19 = σ.2.1 19 := hf_τ28.2.1 19 (by decide)
              have g20_τ28 : τ28.2.1 20 = σ.2.1 20 := hf_τ28.2.1 20 (by decide)
              have g25_τ28 : τ28.2.1 25 = σ.2.1 25 := hf_τ28.2.1 25 (by decide)
              have g39_τ28 : τ28.2.1 39 = σ.2.1 39 := hf_τ28.2.1 39 (by decide)
              have W3 : τ28.1 3 = σ.1 3 := by first | exact w3_τ28.trans W3 | omega
              have W5 : τ28.1 5 = σ.1 5 := by first | exact w5_τ28.trans W5 | omega
              have W6 : τ28.1 6 = σ.1 6 := by first | exact w6_τ28.trans W6 | omega
              have W7 : τ28.1 7 = σ.1 7 := by first | exact w7_τ28.trans W7 | omega
              have W8 : τ28.1 8 = σ.1 8 := by first | exact w8_τ28.trans W8 | omega
              have W22 : τ28.1 22 = σ.1 22 := by first | exact w22_τ28.trans W22 | omega
              have W25 : τ28.1 25 = σ.1 25 := by first | exact w25_τ28.trans W25 | omega
              have W29 : τ28.1 29 = σ.1 29 := by first | exact w29_τ28.trans W29 | omega
              have G18 : τ28.2.1 18 = σ.2.1 18 := (g18_τ28).trans G18
              have G19 : τ28.2.1 19 = σ.2.1 19 := (g19_τ28).trans G19
              have G20 : τ28.2.1 20 = σ.2.1 20 := (g20_τ28).trans G20
              have G25 : τ28.2.1 25 = σ.2.1 25 := (g25_τ28).trans G25
              have G39 : τ28.2.1 39 = σ.2.1 39 := (g39_τ28).trans G39
              have y18_22_τ28 : τ28.2.1 18 (τ28.1 22) = (σ.2.1 18) (σ.1 22) := by rw [g18_τ28, w22_τ28]
              have y19_22_τ28 : τ28.2.1 19 (τ28.1 22) = (σ.2.1 19) (σ.1 22) := by rw [g19_τ28, w22_τ28]
              have y25_22_τ28 : τ28.2.1 25 (τ28.1 22) = (σ.2.1 25) (σ.1 22) := by rw [g25_τ28, w22_τ28]
              have PK : ∀ k : Int, 0 ≤ k → k < (τ28.1 25) → τ28.2.1 39 k < (τ28.1 22) := by rw [show (∀ k : Int, 0 ≤ k → k < (τ28.1 25) → τ28.2.1 39 k < (τ28.1 22)) = (∀ k : Int, 0 ≤ k → k < (σ.1 25) → σ.2.1 39 k < (σ.1 22)) from by rw [w22_τ28, w25_τ28, g39_τ28]]; exact PK
              have HYN : ∀ k : Int, 0 ≤ k → k < τ28.2.1 19 (τ28.1 22) → τ28.2.1 20 (τ28.2.1 18 (τ28.1 22) + k) < (τ28.1 22) := by rw [show (∀ k : Int, 0 ≤ k → k < τ28.2.1 19 (τ28.1 22) → τ28.2.1 20 (τ28.2.1 18 (τ28.1 22) + k) < (τ28.1 22)) = (∀ k : Int, 0 ≤ k → k < σ.2.1 19 (σ.1 22) → σ.2.1 20 (σ.2.1 18 (σ.1 22) + k) < (σ.1 22)) from by rw [w22_τ28, g18_τ28, g19_τ28, g20_τ28]]; exact HYN
              have A18 : ∀ j, 0 ≤ τ28.2.1 18 j ∧ τ28.2.1 18 j ≤ 90000 := fun j => hT.2 18 j
              have A19 : ∀ j, 0 ≤ τ28.2.1 19 j ∧ τ28.2.1 19 j ≤ 60 := fun j => hT.2 19 j
              have A20 : ∀ j, 0 ≤ τ28.2.1 20 j ∧ τ28.2.1 20 j ≤ 1499 := fun j => hT.2 20 j
              have A25 : ∀ j, 0 ≤ τ28.2.1 25 j ∧ τ28.2.1 25 j ≤ 20000 := fun j => hT.2 25 j
              have A26 : ∀ j, 0 ≤ τ28.2.1 26 j ∧ τ28.2.1 26 j ≤ 20000 := fun j => hT.2 26 j
              have A27 : ∀ j, (-300) ≤ τ28.2.1 27 j ∧ τ28.2.1 27 j ≤ 1499 := fun j => hT.2 27 j
              have A28 : ∀ j, 0 ≤ τ28.2.1 28 j ∧ τ28.2.1 28 j ≤ 1 := fun j => hT.2 28 j
              have A39 : ∀ j, 0 ≤ τ28.2.1 39 j ∧ τ28.2.1 39 j ≤ 1499 := fun j => hT.2 39 j
              have v3 : 0 ≤ τ28.1 3 ∧ τ28.1 3 ≤ 1000 := hT.1 3
              have v5 : 0 ≤ τ28.1 5 ∧ τ28.1 5 ≤ 1500 := hT.1 5
              have v6 : 0 ≤ τ28.1 6 ∧ τ28.1 6 ≤ 30000 := hT.1 6
              have v7 : 0 ≤ τ28.1 7 ∧ τ28.1 7 ≤ 90000 := hT.1 7
              have v8 : 0 ≤ τ28.1 8 ∧ τ28.1 8 ≤ 20000 := hT.1 8
              have v9 : 0 ≤ τ28.1 9 ∧ τ28.1 9 ≤ 20000 := hT.1 9
              have v20 : 0 ≤ τ28.1 20 ∧ τ28.1 20 ≤ 19 := hT.1 20
              have v22 : 0 ≤ τ28.1 22 ∧ τ28.1 22 ≤ 1499 := hT.1 22
              have v25 : 0 ≤ τ28.1 25 ∧ τ28.1 25 ≤ 300 := hT.1 25
              have v26 : 0 ≤ τ28.1 26 ∧ τ28.1 26 ≤ 5000010 := hT.1 26
              have v28 : 0 ≤ τ28.1 28 ∧ τ28.1 28 ≤ 1 := hT.1 28
              have v29 : 0 ≤ τ28.1 29 ∧ τ28.1 29 ≤ 300 := hT.1 29
              have a18_22 : 0 ≤ τ28.2.1 18 (τ28.1 22) ∧ τ28.2.1 18 (τ28.1 22) ≤ 90000 := hT.2 18 _
              have a19_22 : 0 ≤ τ28.2.1 19 (τ28.1 22) ∧ τ28.2.1 19 (τ28.1 22) ≤ 60 := hT.2 19 _
              have a25_22 : 0 ≤ τ28.2.1 25 (τ28.1 22) ∧ τ28.2.1 25 (τ28.1 22) ≤ 20000 := hT.2 25 _
              have a26_22 : 0 ≤ τ28.2.1 26 (τ28.1 22) ∧ τ28.2.1 26 (τ28.1 22) ≤ 20000 := hT.2 26 _
              have a28_9 : 0 ≤ τ28.2.1 28 (τ28.1 9) ∧ τ28.2.1 28 (τ28.1 9) ≤ 1 := hT.2 28 _
              have av9 : σ.1 9 ≤ τ28.1 9 := ag.1 9 (by decide)
              have hz : τ28.2.1 28 (τ28.1 9 - 1) = 0 := by rw [show τ28.1 9 - 1 = σ.1 9 from by omega]; exact q26_6
              have Z4 : τ28.2.1 25 (τ28.1 22) + τ28.2.1 26 (τ28.1 22) = τ28.1 9 := by omega
              have ce := ca_eq q26_4 (n := σ.2.1 25 (σ.1 22)) (by omega)
              have Y10 : ca (τ28.2.1 28) (τ28.1 9) ≤ ca (τ28.2.1 28) (τ28.2.1 25 (τ28.1 22)) + τ28.1 29 := by rw [y25_22_τ28, ce, q26_5]; omega
              have Y12 : ¬ τ28.1 28 = 0 → τ28.2.1 25 (τ28.1 22) < τ28.1 9 ∧ τ28.2.1 28 (τ28.1 9 - 1) = 0 := fun _ => ⟨by omega, hz⟩
              have Y13 := j_eqw q26_4 (show σ.2.1 25 (σ.1 22) ≤ σ.1 9 from by omega)
              have NSP : n_sp2 (τ28.2.1 25 (τ28.1 22)) (τ28.1 9) (τ28.1 22) (τ28.2.1 27) (τ28.2.1 28) := by (rw [show τ28.2.1 25 (τ28.1 22) = σ.2.1 25 (σ.1 22) from by omega, show τ28.1 9 = σ.1 9 + 1 from by omega, show τ28.1 22 = σ.1 22 from by omega]; exact n_sp2_a p9 q26_3 q26_4 (by omega) (by omega) (fun z => by omega) (fun y => absurd q26_6 y))
              have st27 : τ28.2.1 27 (τ28.1 9 - 1) = x13 := by (rw [q26_3, show τ28.1 9 - 1 = σ.1 9 from by omega, st_s])
              have Y10b : τ28.1 29 + ca (τ28.2.1 28) (τ28.2.1 25 (τ28.1 22)) ≤ ca (τ28.2.1 28) (τ28.1 9) := by (rw [y25_22_τ28, ce, q26_5]; have := p10; omega)
              refine ⟨fun c29 => ?_, fun c29 => ?_⟩
              ·
                refine h193 _ _ ?_
                refine ⟨(show 0 ≤ 0 ∧ 0 ≤ 1 from by (first | omega | (simp only [st_s] <;> omega) | assumption | omega | fail)), ?_⟩
                replace ag := ag_v (i := 28) (x := 0) ag (Or.inl rfl)
                replace hT := mT_v (i := 28) hT (show (0 : Int) ≤ 0 ∧ 0 ≤ 1 from by (first | omega | (simp only [st_s] <;> omega) | assumption | omega | fail))
                obtain ⟨τ_196, e_τ_196⟩ : ∃ z : S0, z = s_v τ28 28 0 := ⟨_, rfl⟩
                rw [← e_τ_196]
                replace hT : m_T τ_196 := by rw [e_τ_196]; exact hT
                replace ag : m_ag σ τ_196 := by rw [e_τ_196]; exact ag
                have w3_τ_196 : τ_196.1 3 = τ28.1 3 := by rw [e_τ_196]; rfl
                have w5_τ_196 : τ_196.1 5 = τ28.1 5 := by rw [e_τ_196]; rfl
                have w6_τ_196 : τ_196.1 6 = τ28.1 6 := by rw [e_τ_196]; rfl
                have w7_τ_196 : τ_196.1 7 = τ28.1 7 := by rw [e_τ_196]; rfl
                have w8_τ_196 : τ_196.1 8 = τ28.1 8 := by rw [e_τ_196]; rfl
                have w9_τ_196 : τ_196.1 9 = τ28.1 9 := by rw [e_τ_196]; rfl
                have w20_τ_196 : τ_196.1 20 = τ28.1 20 := by rw [e_τ_196]; rfl
                have w22_τ_196 : τ_196.1 22 = τ28.1 22 := by rw [e_τ_196]; rfl
                have w25_τ_196 : τ_196.1 25 = τ28.1 25 := by rw [e_τ_196]; rfl
                have w26_τ_196 : τ_196.1 26 = τ28.1 26 := by rw [e_τ_196]; rfl
                have w28_τ_196 : τ_196.1 28 = 0 := by rw [e_τ_196]; rfl
                have w29_τ_196 : τ_196.1 29 = τ28.1 29 := by rw [e_τ_196]; rfl
                have g18_τ_196 : τ_196.2.1 18 = τ28.2.1 18 := by rw [e_τ_196]; rfl
                have g19_τ_196 : τ_196.2.1 19 = τ28.2.1 19 := by rw [e_τ_196]; rfl
                have g20_τ_196 : τ_196.2.1 20 = τ28.2.1 20 := by rw [e_τ_196]; rfl
                have g25_τ_196 : τ_196.2.1 25 = τ28.2.1 25 := by rw [e_τ_196]; rfl
                have g26_τ_196 : τ_196.2.1 26 = τ28.2.1 26 := by rw [e_τ_196]; rfl
                have g27_τ_196 : τ_196.2.1 27 = τ28.2.1 27 := by rw [e_τ_196]; rfl
                have g28_τ_196 : τ_196.2.1 28 = τ28.2.1 28 := by rw [e_τ_196]; rfl
                have g39_τ_196 : τ_196.2.1 39 = τ28.2.1 39 := by rw [e_τ_196]; rfl
                have W3 : τ_196.1 3 = σ.1 3 := by first | exact w3_τ_196.trans W3 | omega
                have W5 : τ_196.1 5 = σ.1 5 := by first | exact w5_τ_196.trans W5 | omega
                have W6 : τ_196.1 6 = σ.1 6 := by first | exact w6_τ_196.trans W6 | omega
                have W7 : τ_196.1 7 = σ.1 7 := by first | exact w7_τ_196.trans W7 | omega
                have W8 : τ_196.1 8 = σ.1 8 := by first | exact w8_τ_196.trans W8 | omega
                have W22 : τ_196.1 22 = σ.1 22 := by first | exact w22_τ_196.trans W22 | omega
                have W25 : τ_196.1 25 = σ.1 25 := by first | exact w25_τ_196.trans W25 | omega
                have W29 : τ_196.1 29 = σ.1 29 := by first | exact w29_τ_196.trans W29 | omega
                have G18 : τ_196.2.1 18 = σ.2.1 18 := (g18_τ_196).trans G18
                have G19 : τ_196.2.1 19 = σ.2.1 19 := (g19_τ_196).trans G19
                have G20 : τ_196.2.1 20 = σ.2.1 20 := (g20_τ_196).trans G20
                have G25 : τ_196.2.1 25 = σ.2.1 25 := (g25_τ_196).trans G25
                have G39 : τ_196.2.1 39 = σ.2.1 39 := (g39_τ_196).trans G39
                have y18_22_τ_196 : τ_196.2.1 18 (τ_196.1 22) = (τ28.2.1 18) (τ28.1 22) := by rw [g18_τ_196, w22_τ_196]
                have y19_22_τ_196 : τ_196.2.1 19 (τ_196.1 22) = (τ28.2.1 19) (τ28.1 22) := by rw [g19_τ_196, w22_τ_196]
                have y25_22_τ_196 : τ_196.2.1 25 (τ_196.1 22) = (τ28.2.1 25) (τ28.1 22) := by rw [g25_τ_196, w22_τ_196]
                have y26_22_τ_196 : τ_196.2.1 26 (τ_196.1 22) = (τ28.2.1 26) (τ28.1 22) := by rw [g26_τ_196, w22_τ_196]
                have y28_9_τ_196 : τ_196.2.1 28 (τ_196.1 9) = (τ28.2.1 28) (τ28.1 9) := by rw [g28_τ_196, w9_τ_196]
                have Z4 : τ_196.2.1 25 (τ_196.1 22) + τ_196.2.1 26 (τ_196.1 22) = (τ_196.1 9) := by rw [show (τ_196.2.1 25 (τ_196.1 22) + τ_196.2.1 26 (τ_196.1 22) = (τ_196.1 9)) = (τ28.2.1 25 (τ28.1 22) + τ28.2.1 26 (τ28.1 22) = (τ28.1 9)) from by rw [w9_τ_196, w22_τ_196, g25_τ_196, g26_τ_196]]; exact Z4
                have Y10 : ca (τ_196.2.1 28) ((τ_196.1 9)) ≤ ca (τ_196.2.1 28) (τ_196.2.1 25 (τ_196.1 22)) + (τ_196.1 29) := by rw [show (ca (τ_196.2.1 28) ((τ_196.1 9)) ≤ ca (τ_196.2.1 28) (τ_196.2.1 25 (τ_196.1 22)) + (τ_196.1 29)) = (ca (τ28.2.1 28) ((τ28.1 9)) ≤ ca (τ28.2.1 28) (τ28.2.1 25 (τ28.1 22)) + (τ28.1 29)) from by rw [w9_τ_196, w22_τ_196, w29_τ_196, g25_τ_196, g28_τ_196]]; exact Y10
                have Y13 : j_eq (σ.2.1 25 (σ.1 22)) (σ.2.1 28) (τ_196.2.1 28) := by rw [show (j_eq (σ.2.1 25 (σ.1 22)) (σ.2.1 28) (τ_196.2.1 28)) = (j_eq (σ.2.1 25 (σ.1 22)) (σ.2.1 28) (τ28.2.1 28)) from by rw [g28_τ_196]]; exact Y13
                have NSP : n_sp2 (τ_196.2.1 25 (τ_196.1 22)) (τ_196.1 9) (τ_196.1 22) (τ_196.2.1 27) (τ_196.2.1 28) := by rw [show (n_sp2 (τ_196.2.1 25 (τ_196.1 22)) (τ_196.1 9) (τ_196.1 22) (τ_196.2.1 27) (τ_196.2.1 28)) = (n_sp2 (τ28.2.1 25 (τ28.1 22)) (τ28.1 9) (τ28.1 22) (τ28.2.1 27) (τ28.2.1 28)) from by rw [w9_τ_196, w22_τ_196, g25_τ_196, g27_τ_196, g28_τ_196]]; exact NSP
                have PK : ∀ k : Int, 0 ≤ k → k < (τ_196.1 25) → τ_196.2.1 39 k < (τ_196.1 22) := by rw [show (∀ k : Int, 0 ≤ k → k < (τ_196.1 25) → τ_196.2.1 39 k < (τ_196.1 22)) = (∀ k : Int, 0 ≤ k → k < (τ28.1 25) → τ28.2.1 39 k < (τ28.1 22)) from by rw [w22_τ_196, w25_τ_196, g39_τ_196]]; exact PK
                have Y10b : (τ_196.1 29) + ca (τ_196.2.1 28) (τ_196.2.1 25 (τ_196.1 22)) ≤ ca (τ_196.2.1 28) (τ_196.1 9) := by rw [show ((τ_196.1 29) + ca (τ_196.2.1 28) (τ_196.2.1 25 (τ_196.1 22)) ≤ ca (τ_196.2.1 28) (τ_196.1 9)) = ((τ28.1 29) + ca (τ28.2.1 28) (τ28.2.1 25 (τ28.1 22)) ≤ ca (τ28.2.1 28) (τ28.1 9)) from by rw [w9_τ_196, w22_τ_196, w29_τ_196, g25_τ_196, g28_τ_196]]; exact Y10b
                have HYN : ∀ k : Int, 0 ≤ k → k < τ_196.2.1 19 (τ_196.1 22) → τ_196.2.1 20 (τ_196.2.1 18 (τ_196.1 22) + k) < (τ_196.1 22) := by rw [show (∀ k : Int, 0 ≤ k → k < τ_196.2.1 19 (τ_196.1 22) → τ_196.2.1 20 (τ_196.2.1 18 (τ_196.1 22) + k) < (τ_196.1 22)) = (∀ k : Int, 0 ≤ k → k < τ28.2.1 19 (τ28.1 22) → τ28.2.1 20 (τ28.2.1 18 (τ28.1 22) + k) < (τ28.1 22)) from by rw [w22_τ_196, g18_τ_196, g19_τ_196, g20_τ_196]]; exact HYN
                have A18 : ∀ j, 0 ≤ τ_196.2.1 18 j ∧ τ_196.2.1 18 j ≤ 90000 := fun j => hT.2 18 j
                have A19 : ∀ j, 0 ≤ τ_196.2.1 19 j ∧ τ_196.2.1 19 j ≤ 60 := fun j => hT.2 19 j
                have A20 : ∀ j, 0 ≤ τ_196.2.1 20 j ∧ τ_196.2.1 20 j ≤ 1499 := fun j => hT.2 20 j
                have A25 : ∀ j, 0 ≤ τ_196.2.1 25 j ∧ τ_196.2.1 25 j ≤ 20000 := fun j => hT.2 25 j
                have A26 : ∀ j, 0 ≤ τ_196.2.1 26 j ∧ τ_196.2.1 26 j ≤ 20000 := fun j => hT.2 26 j
                have A27 : ∀ j, (-300) ≤ τ_196.2.1 27 j ∧ τ_196.2.1 27 j ≤ 1499 := fun j => hT.2 27 j
                have A28 : ∀ j, 0 ≤ τ_196.2.1 28 j ∧ τ_196.2.1 28 j ≤ 1 := fun j => hT.2 28 j
                have A39 : ∀ j, 0 ≤ τ_196.2.1 39 j ∧ τ_196.2.1 39 j ≤ 1499 := fun j => hT.2 39 j
                have v3 : 0 ≤ τ_196.1 3 ∧ τ_196.1 3 ≤ 1000 := hT.1 3
                have v5 : 0 ≤ τ_196.1 5 ∧ τ_196.1 5 ≤ 1500 := hT.1 5
                have v6 : 0 ≤ τ_196.1 6 ∧ τ_196.1 6 ≤ 30000 := hT.1 6
                have v7 : 0 ≤ τ_196.1 7 ∧ τ_196.1 7 ≤ 90000 := hT.1 7
                have v8 : 0 ≤ τ_196.1 8 ∧ τ_196.1 8 ≤ 20000 := hT.1 8
                have v9 : 0 ≤ τ_196.1 9 ∧ τ_196.1 9 ≤ 20000 := hT.1 9
                have v20 : 0 ≤ τ_196.1 20 ∧ τ_196.1 20 ≤ 19 := hT.1 20
                have v22 : 0 ≤ τ_196.1 22 ∧ τ_196.1 22 ≤ 1499 := hT.1 22
                have v25 : 0 ≤ τ_196.1 25 ∧ τ_196.1 25 ≤ 300 := hT.1 25
                have v26 : 0 ≤ τ_196.1 26 ∧ τ_196.1 26 ≤ 5000010 := hT.1 26
                have v28 : 0 ≤ τ_196.1 28 ∧ τ_196.1 28 ≤ 1 := hT.1 28
                have v29 : 0 ≤ τ_196.1 29 ∧ τ_196.1 29 ≤ 300 := hT.1 29
                have a18_22 : 0 ≤ τ_196.2.1 18 (τ_196.1 22) ∧ τ_196.2.1 18 (τ_196.1 22) ≤ 90000 := hT.2 18 _
                have a19_22 : 0 ≤ τ_196.2.1 19 (τ_196.1 22) ∧ τ_196.2.1 19 (τ_196.1 22) ≤ 60 := hT.2 19 _
                have a25_22 : 0 ≤ τ_196.2.1 25 (τ_196.1 22) ∧ τ_196.2.1 25 (τ_196.1 22) ≤ 20000 := hT.2 25 _
                have a26_22 : 0 ≤ τ_196.2.1 26 (τ_196.1 22) ∧ τ_196.2.1 26 (τ_196.1 22) ≤ 20000 := hT.2 26 _
                have a28_9 : 0 ≤ τ_196.2.1 28 (τ_196.1 9) ∧ τ_196.2.1 28 (τ_196.1 9) ≤ 1 := hT.2 28 _
                have av9 : σ.1 9 ≤ τ_196.1 9 := ag.1 9 (by decide)
                refine h196 _ ?_
                replace ag := ag_v (i := 26) (x := 0) ag (Or.inl rfl)
                replace hT := mT_v (i := 26) hT (show (0 : Int) ≤ 0 ∧ 0 ≤ 5000010 from by (first | omega | (simp only [st_s] <;> omega) | assumption | omega | fail))
                replace ag := ag_v (i := 27) (x := 0) ag (Or.inl rfl)
                replace hT := mT_v (i := 27) hT (show (0 : Int) ≤ 0 ∧ 0 ≤ 1 from by (first | omega | (simp only [st_s] <;> omega) | assumption | omega | fail))
                exact ⟨hT, (show ¬ (σ.1 20) = 0 → (τ_196.1 20) = (σ.1 20) from by (first | omega | (simp only [st_s] <;> omega) | assumption | omega | fail)), (show τ_196.2.1 25 (τ_196.1 22) + τ_196.2.1 26 (τ_196.1 22) = (τ_196.1 9) from Z4), (show ca (τ_196.2.1 28) ((τ_196.1 9)) ≤ ca (τ_196.2.1 28) (τ_196.2.1 25 (τ_196.1 22)) + (τ_196.1 29) from Y10), (show ¬ (τ_196.1 28) = 0 → τ_196.2.1 25 (τ_196.1 22) < (τ_196.1 9) ∧ τ_196.2.1 28 ((τ_196.1 9) - 1) = 0 from by (first | assumption | omega | (intro _; refine ⟨by omega, ?_⟩; first | exact hz | (rw [e_τ_196]; exact hz)) | fail)), (show j_eq (σ.2.1 25 (σ.1 22)) (σ.2.1 28) (τ_196.2.1 28) from Y13), (show ((0 : Int)) = 0 from by (first | omega | (simp only [st_s] <;> omega) | assumption | omega | fail)), ag, (show n_sp2 (τ_196.2.1 25 (τ_196.1 22)) (τ_196.1 9) (τ_196.1 22) (τ_196.2.1 27) (τ_196.2.1 28) from NSP), (show (τ_196.1 29) + ca (τ_196.2.1 28) (τ_196.2.1 25 (τ_196.1 22)) ≤ ca (τ_196.2.1 28) (τ_196.1 9) from Y10b), (show ¬ (τ_196.1 28) = 0 → 0 ≤ τ_196.2.1 27 ((τ_196.1 9) - 1) from by (first | assumption | (intro z; exfalso; omega) | (intro _; first | (rw [st27]; omega) | (rw [e_τ_196]; show 0 ≤ τ28.2.1 27 (τ28.1 9 - 1); rw [st27]; omega)) | fail))⟩
              ·
                refine ⟨(show 0 ≤ x13 ∧ x13 < 1501 from by (first | omega | (simp only [st_s] <;> omega) | assumption | omega | fail)), ?_⟩
                intro x31 r_x31 e_x31
                have b_x31 : 0 ≤ x31 ∧ x31 ≤ 4 := by rw [e_x31]; exact hT.2 13 _
                refine ⟨fun c32 => ?_, fun c32 => ?_⟩
                ·
                  refine h193 _ _ ?_
                  refine ⟨(show 0 ≤ 0 ∧ 0 ≤ 1 from by (first | omega | (simp only [st_s] <;> omega) | assumption | omega | fail)), ?_⟩
                  replace ag := ag_v (i := 28) (x := 0) ag (Or.inl rfl)
                  replace hT := mT_v (i := 28) hT (show (0 : Int) ≤ 0 ∧ 0 ≤ 1 from by (first | omega | (simp only [st_s] <;> omega) | assumption | omega | fail))
                  obtain ⟨τ_196, e_τ_196⟩ : ∃ z : S0, z = s_v τ28 28 0 := ⟨_, rfl⟩
                  rw [← e_τ_196]
                  replace hT : m_T τ_196 := by rw [e_τ_196]; exact hT
                  replace ag : m_ag σ τ_196 := by rw [e_τ_196]; exact ag
                  have w3_τ_196 : τ_196.1 3 = τ28.1 3 := by rw [e_τ_196]; rfl
                  have w5_τ_196 : τ_196.1 5 = τ28.1 5 := by rw [e_τ_196]; rfl
                  have w6_τ_196 : τ_196.1 6 = τ28.1 6 := by rw [e_τ_196]; rfl
                  have w7_τ_196 : τ_196.1 7 = τ28.1 7 := by rw [e_τ_196]; rfl
                  have w8_τ_196 : τ_196.1 8 = τ28.1 8 := by rw [e_τ_196]; rfl
                  have w9_τ_196 : τ_196.1 9 = τ28.1 9 := by rw [e_τ_196]; rfl
                  have w20_τ_196 : τ_196.1 20 = τ28.1 20 := by rw [e_τ_196]; rfl
                  have w22_τ_196 : τ_196.1 22 = τ28.1 22 := by rw [e_τ_196]; rfl
                  have w25_τ_196 : τ_196.1 25 = τ28.1 25 := by rw [e_τ_196]; rfl
                  have w26_τ_196 : τ_196.1 26 = τ28.1 26 := by rw [e_τ_196]; rfl
                  have w28_τ_196 : τ_196.1 28 = 0 := by rw [e_τ_196]; rfl
                  have w29_τ_196 : τ_196.1 29 = τ28.1 29 := by rw [e_τ_196]; rfl
                  have g18_τ_196 : τ_196.2.1 18 = τ28.2.1 18 := by rw [e_τ_196]; rfl
                  have g19_τ_196 : τ_196.2.1 19 = τ28.2.1 19 := by rw [e_τ_196]; rfl
                  have g20_τ_196 : τ_196.2.1 20 = τ28.2.1 20 := by rw [e_τ_196]; rfl
                  have g25_τ_196 : τ_196.2.1 25 = τ28.2.1 25 := by rw [e_τ_196]; rfl
                  have g26_τ_196 : τ_196.2.1 26 = τ28.2.1 26 := by rw [e_τ_196]; rfl
                  have g27_τ_196 : τ_196.2.1 27 = τ28.2.1 27 := by rw [e_τ_196]; rfl
                  have g28_τ_196 : τ_196.2.1 28 = τ28.2.1 28 := by rw [e_τ_196]; rfl
                  have g39_τ_196 : τ_196.2.1 39 = τ28.2.1 39 := by rw [e_τ_196]; rfl
                  have W3 : τ_196.1 3 = σ.1 3 := by first | exact w3_τ_196.trans W3 | omega
                  have W5 : τ_196.1 5 = σ.1 5 := by first | exact w5_τ_196.trans W5 | omega
                  have W6 : τ_196.1 6 = σ.1 6 := by first | exact w6_τ_196.trans W6 | omega
                  have W7 : τ_196.1 7 = σ.1 7 := by first | exact w7_τ_196.trans W7 | omega
                  have W8 : τ_196.1 8 = σ.1 8 := by first | exact w8_τ_196.trans W8 | omega
                  have W22 : τ_196.1 22 = σ.1 22 := by first | exact w22_τ_196.trans W22 | omega
                  have W25 : τ_196.1 25 = σ.1 25 := by first | exact w25_τ_196.trans W25 | omega
                  have W29 : τ_196.1 29 = σ.1 29 := by first | exact w29_τ_196.trans W29 | omega
                  have G18 : τ_196.2.1 18 = σ.2.1 18 := (g18_τ_196).trans G18
                  have G19 : τ_196.2.1 19 = σ.2.1 19 := (g19_τ_196).trans G19
                  have G20 : τ_196.2.1 20 = σ.2.1 20 := (g20_τ_196).trans G20
                  have G25 : τ_196.2.1 25 = σ.2.1 25 := (g25_τ_196).trans G25
                  have G39 : τ_196.2.1 39 = σ.2.1 39 := (g39_τ_196).trans G39
                  have y18_22_τ_196 : τ_196.2.1 18 (τ_196.1 22) = (τ28.2.1 18) (τ28.1 22) := by rw [g18_τ_196, w22_τ_196]
                  have y19_22_τ_196 : τ_196.2.1 19 (τ_196.1 22) = (τ28.2.1 19) (τ28.1 22) := by rw [g19_τ_196, w22_τ_196]
                  have y25_22_τ_196 : τ_196.2.1 25 (τ_196.1 22) = (τ28.2.1 25) (τ28.1 22) := by rw [g25_τ_196, w22_τ_196]
                  have y26_22_τ_196 : τ_196.2.1 26 (τ_196.1 22) = (τ28.2.1 26) (τ28.1 22) := by rw [g26_τ_196, w22_τ_196]
                  have y28_9_τ_196 : τ_196.2.1 28 (τ_196.1 9) = (τ28.2.1 28) (τ28.1 9) := by rw [g28_τ_196, w9_τ_196]
                  have Z4 : τ_196.2.1 25 (τ_196.1 22) + τ_196.2.1 26 (τ_196.1 22) = (τ_196.1 9) := by rw [show (τ_196.2.1 25 (τ_196.1 22) + τ_196.2.1 26 (τ_196.1 22) = (τ_196.1 9)) = (τ28.2.1 25 (τ28.1 22) + τ28.2.1 26 (τ28.1 22) = (τ28.1 9)) from by rw [w9_τ_196, w22_τ_196, g25_τ_196, g26_τ_196]]; exact Z4
                  have Y10 : ca (τ_196.2.1 28) ((τ_196.1 9)) ≤ ca (τ_196.2.1 28) (τ_196.2.1 25 (τ_196.1 22)) + (τ_196.1 29) := by rw [show (ca (τ_196.2.1 28) ((τ_196.1 9)) ≤ ca (τ_196.2.1 28) (τ_196.2.1 25 (τ_196.1 22)) + (τ_196.1 29)) = (ca (τ28.2.1 28) ((τ28.1 9)) ≤ ca (τ28.2.1 28) (τ28.2.1 25 (τ28.1 22)) + (τ28.1 29)) from by rw [w9_τ_196, w22_τ_196, w29_τ_196, g25_τ_196, g28_τ_196]]; exact Y10
                  have Y13 : j_eq (σ.2.1 25 (σ.1 22)) (σ.2.1 28) (τ_196.2.1 28) := by rw [show (j_eq (σ.2.1 25 (σ.1 22)) (σ.2.1 28) (τ_196.2.1 28)) = (j_eq (σ.2.1 25 (σ.1 22)) (σ.2.1 28) (τ28.2.1 28)) from by rw [g28_τ_196]]; exact Y13
                  have NSP : n_sp2 (τ_196.2.1 25 (τ_196.1 22)) (τ_196.1 9) (τ_196.1 22) (τ_196.2.1 27) (τ_196.2.1 28) := by rw [show (n_sp2 (τ_196.2.1 25 (τ_196.1 22)) (τ_196.1 9) (τ_196.1 22) (τ_196.2.1 27) (τ_196.2.1 28)) = (n_sp2 (τ28.2.1 25 (τ28.1 22)) (τ28.1 9) (τ28.1 22) (τ28.2.1 27) (τ28.2.1 28)) from by rw [w9_τ_196, w22_τ_196, g25_τ_196, g27_τ_196, g28_τ_196]]; exact NSP
                  have PK : ∀ k : Int, 0 ≤ k → k < (τ_196.1 25) → τ_196.2.1 39 k < (τ_196.1 22) := by rw [show (∀ k : Int, 0 ≤ k → k < (τ_196.1 25) → τ_196.2.1 39 k < (τ_196.1 22)) = (∀ k : Int, 0 ≤ k → k < (τ28.1 25) → τ28.2.1 39 k < (τ28.1 22)) from by rw [w22_τ_196, w25_τ_196, g39_τ_196]]; exact PK
                  have Y10b : (τ_196.1 29) + ca (τ_196.2.1 28) (τ_196.2.1 25 (τ_196.1 22)) ≤ ca (τ_196.2.1 28) (τ_196.1 9) := by rw [show ((τ_196.1 29) + ca (τ_196.2.1 28) (τ_196.2.1 25 (τ_196.1 22)) ≤ ca (τ_196.2.1 28) (τ_196.1 9)) = ((τ28.1 29) + ca (τ28.2.1 28) (τ28.2.1 25 (τ28.1 22)) ≤ ca (τ28.2.1 28) (τ28.1 9)) from by rw [w9_τ_196, w22_τ_196, w29_τ_196, g25_τ_196, g28_τ_196]]; exact Y10b
                  have HYN : ∀ k : Int, 0 ≤ k → k < τ_196.2.1 19 (τ_196.1 22) → τ_196.2.1 20 (τ_196.2.1 18 (τ_196.1 22) + k) < (τ_196.1 22) := by rw [show (∀ k : Int, 0 ≤ k → k < τ_196.2.1 19 (τ_196.1 22) → τ_196.2.1 20 (τ_196.2.1 18 (τ_196.1 22) + k) < (τ_196.1 22)) = (∀ k : Int, 0 ≤ k → k < τ28.2.1 19 (τ28.1 22) → τ28.2.1 20 (τ28.2.1 18 (τ28.1 22) + k) < (τ28.1 22)) from by rw [w22_τ_196, g18_τ_196, g19_τ_196, g20_τ_196]]; exact HYN
                  have A18 : ∀ j, 0 ≤ τ_196.2.1 18 j ∧ τ_196.2.1 18 j ≤ 90000 := fun j => hT.2 18 j
                  have A19 : ∀ j, 0 ≤ τ_196.2.1 19 j ∧ τ_196.2.1 19 j ≤ 60 := fun j => hT.2 19 j
                  have A20 : ∀ j, 0 ≤ τ_196.2.1 20 j ∧ τ_196.2.1 20 j ≤ 1499 := fun j => hT.2 20 j
                  have A25 : ∀ j, 0 ≤ τ_196.2.1 25 j ∧ τ_196.2.1 25 j ≤ 20000 := fun j => hT.2 25 j
                  have A26 : ∀ j, 0 ≤ τ_196.2.1 26 j ∧ τ_196.2.1 26 j ≤ 20000 := fun j => hT.2 26 j
                  have A27 : ∀ j, (-300) ≤ τ_196.2.1 27 j ∧ τ_196.2.1 27 j ≤ 1499 := fun j => hT.2 27 j
                  have A28 : ∀ j, 0 ≤ τ_196.2.1 28 j ∧ τ_196.2.1 28 j ≤ 1 := fun j => hT.2 28 j
                  have A39 : ∀ j, 0 ≤ τ_196.2.1 39 j ∧ τ_196.2.1 39 j ≤ 1499 := fun j => hT.2 39 j
                  have v3 : 0 ≤ τ_196.1 3 ∧ τ_196.1 3 ≤ 1000 := hT.1 3
                  have v5 : 0 ≤ τ_196.1 5 ∧ τ_196.1 5 ≤ 1500 := hT.1 5
                  have v6 : 0 ≤ τ_196.1 6 ∧ τ_196.1 6 ≤ 30000 := hT.1 6
                  have v7 : 0 ≤ τ_196.1 7 ∧ τ_196.1 7 ≤ 90000 := hT.1 7
                  have v8 : 0 ≤ τ_196.1 8 ∧ τ_196.1 8 ≤ 20000 := hT.1 8
                  have v9 : 0 ≤ τ_196.1 9 ∧ τ_196.1 9 ≤ 20000 := hT.1 9
                  have v20 : 0 ≤ τ_196.1 20 ∧ τ_196.1 20 ≤ 19 := hT.1 20
                  have v22 : 0 ≤ τ_196.1 22 ∧ τ_196.1 22 ≤ 1499 := hT.1 22
                  have v25 : 0 ≤ τ_196.1 25 ∧ τ_196.1 25 ≤ 300 := hT.1 25
                  have v26 : 0 ≤ τ_196.1 26 ∧ τ_196.1 26 ≤ 5000010 := hT.1 26
                  have v28 : 0 ≤ τ_196.1 28 ∧ τ_196.1 28 ≤ 1 := hT.1 28
                  have v29 : 0 ≤ τ_196.1 29 ∧ τ_196.1 29 ≤ 300 := hT.1 29
                  have a18_22 : 0 ≤ τ_196.2.1 18 (τ_196.1 22) ∧ τ_196.2.1 18 (τ_196.1 22) ≤ 90000 := hT.2 18 _
                  have a19_22 : 0 ≤ τ_196.2.1 19 (τ_196.1 22) ∧ τ_196.2.1 19 (τ_196.1 22) ≤ 60 := hT.2 19 _
                  have a25_22 : 0 ≤ τ_196.2.1 25 (τ_196.1 22) ∧ τ_196.2.1 25 (τ_196.1 22) ≤ 20000 := hT.2 25 _
                  have a26_22 : 0 ≤ τ_196.2.1 26 (τ_196.1 22) ∧ τ_196.2.1 26 (τ_196.1 22) ≤ 20000 := hT.2 26 _
                  have a28_9 : 0 ≤ τ_196.2.1 28 (τ_196.1 9) ∧ τ_196.2.1 28 (τ_196.1 9) ≤ 1 := hT.2 28 _
                  have av9 : σ.1 9 ≤ τ_196.1 9 := ag.1 9 (by decide)
                  refine h196 _ ?_
                  replace ag := ag_v (i := 26) (x := 0) ag (Or.inl rfl)
                  replace hT := mT_v (i := 26) hT (show (0 : Int) ≤ 0 ∧ 0 ≤ 5000010 from by (first | omega | (simp only [st_s] <;> omega) | assumption | omega | fail))
                  replace ag := ag_v (i := 27) (x := 0) ag (Or.inl rfl)
                  replace hT := mT_v (i := 27) hT (show (0 : Int) ≤ 0 ∧ 0 ≤ 1 from by (first | omega | (simp only [st_s] <;> omega) | assumption | omega | fail))
                  exact ⟨hT, (show ¬ (σ.1 20) = 0 → (τ_196.1 20) = (σ.1 20) from by (first | omega | (simp only [st_s] <;> omega) | assumption | omega | fail)), (show τ_196.2.1 25 (τ_196.1 22) + τ_196.2.1 26 (τ_196.1 22) = (τ_196.1 9) from Z4), (show ca (τ_196.2.1 28) ((τ_196.1 9)) ≤ ca (τ_196.2.1 28) (τ_196.2.1 25 (τ_196.1 22)) + (τ_196.1 29) from Y10), (show ¬ (τ_196.1 28) = 0 → τ_196.2.1 25 (τ_196.1 22) < (τ_196.1 9) ∧ τ_196.2.1 28 ((τ_196.1 9) - 1) = 0 from by (first | assumption | omega | (intro _; refine ⟨by omega, ?_⟩; first | exact hz | (rw [e_τ_196]; exact hz)) | fail)), (show j_eq (σ.2.1 25 (σ.1 22)) (σ.2.1 28) (τ_196.2.1 28) from Y13), (show ((0 : Int)) = 0 from by (first | omega | (simp only [st_s] <;> omega) | assumption | omega | fail)), ag, (show n_sp2 (τ_196.2.1 25 (τ_196.1 22)) (τ_196.1 9) (τ_196.1 22) (τ_196.2.1 27) (τ_196.2.1 28) from NSP), (show (τ_196.1 29) + ca (τ_196.2.1 28) (τ_196.2.1 25 (τ_196.1 22)) ≤ ca (τ_196.2.1 28) (τ_196.1 9) from Y10b), (show ¬ (τ_196.1 28) = 0 → 0 ≤ τ_196.2.1 27 ((τ_196.1 9) - 1) from by (first | assumption | (intro z; exfalso; omega) | (intro _; first | (rw [st27]; omega) | (rw [e_τ_196]; show 0 ≤ τ28.2.1 27 (τ28.1 9 - 1); rw [st27]; omega)) | fail))⟩
                ·
                  refine h193 _ _ ?_
                  refine ⟨(show 0 ≤ 1 ∧ 1 ≤ 1 from by (first | omega | (simp only [st_s] <;> omega) | assumption | omega | fail)), ?_⟩
                  replace ag := ag_v (i := 28) (x := 1) ag (Or.inl rfl)
                  replace hT := mT_v (i := 28) hT (show (0 : Int) ≤ 1 ∧ 1 ≤ 1 from by (first | omega | (simp only [st_s] <;> omega) | assumption | omega | fail))
                  obtain ⟨τ_196, e_τ_196⟩ : ∃ z : S0, z = s_v τ28 28 1 := ⟨_, rfl⟩
                  rw [← e_τ_196]
                  replace hT : m_T τ_196 := by rw [e_τ_196]; exact hT
                  replace ag : m_ag σ τ_196 := by rw [e_τ_196]; exact ag
                  have w3_τ_196 : τ_196.1 3 = τ28.1 3 := by rw [e_τ_196]; rfl
                  have w5_τ_196 : τ_196.1 5 = τ28.1 5 := by rw [e_τ_196]; rfl
                  have w6_τ_196 : τ_196.1 6 = τ28.1 6 := by rw [e_τ_196]; rfl
                  have w7_τ_196 : τ_196.1 7 = τ28.1 7 := by rw [e_τ_196]; rfl
                  have w8_τ_196 : τ_196.1 8 = τ28.1 8 := by rw [e_τ_196]; rfl
                  have w9_τ_196 : τ_196.1 9 = τ28.1 9 := by rw [e_τ_196]; rfl
                  have w20_τ_196 : τ_196.1 20 = τ28.1 20 := by rw [e_τ_196]; rfl
                  have w22_τ_196 : τ_196.1 22 = τ28.1 22 := by rw [e_τ_196]; rfl
                  have w25_τ_196 : τ_196.1 25 = τ28.1 25 := by rw [e_τ_196]; rfl
                  have w26_τ_196 : τ_196.1 26 = τ28.1 26 := by rw [e_τ_196]; rfl
                  have w28_τ_196 : τ_196.1 28 = 1 := by rw [e_τ_196]; rfl
                  have w29_τ_196 : τ_196.1 29 = τ28.1 29 := by rw [e_τ_196]; rfl
                  have g18_τ_196 : τ_196.2.1 18 = τ28.2.1 18 := by rw [e_τ_196]; rfl
                  have g19_τ_196 : τ_196.2.1 19 = τ28.2.1 19 := by rw [e_τ_196]; rfl
                  have g20_τ_196 : τ_196.2.1 20 = τ28.2.1 20 := by rw [e_τ_196]; rfl
                  have g25_τ_196 : τ_196.2.1 25 = τ28.2.1 25 := by rw [e_τ_196]; rfl
                  have g26_τ_196 : τ_196.2.1 26 = τ28.2.1 26 := by rw [e_τ_196]; rfl
                  have g27_τ_196 : τ_196.2.1 27 = τ28.2.1 27 := by rw [e_τ_196]; rfl
                  have g28_τ_196 : τ_196.2.1 28 = τ28.2.1 28 := by rw [e_τ_196]; rfl
                  have g39_τ_196 : τ_196.2.1 39 = τ28.2.1 39 := by rw [e_τ_196]; rfl
                  have W3 : τ_196.1 3 = σ.1 3 := by first | exact w3_τ_196.trans W3 | omega
                  have W5 : τ_196.1 5 = σ.1 5 := by first | exact w5_τ_196.trans W5 | omega
                  have W6 : τ_196.1 6 = σ.1 6 := by first | exact w6_τ_196.trans W6 | omega
                  have W7 : τ_196.1 7 = σ.1 7 := by first | exact w7_τ_196.trans W7 | omega
                  have W8 : τ_196.1 8 = σ.1 8 := by first | exact w8_τ_196.trans W8 | omega
                  have W22 : τ_196.1 22 = σ.1 22 := by first | exact w22_τ_196.trans W22 | omega
                  have W25 : τ_196.1 25 = σ.1 25 := by first | exact w25_τ_196.trans W25 | omega
                  have W29 : τ_196.1 29 = σ.1 29 := by first | exact w29_τ_196.trans W29 | omega
                  have G18 : τ_196.2.1 18 = σ.2.1 18 := (g18_τ_196).trans G18
                  have G19 : τ_196.2.1 19 = σ.2.1 19 := (g19_τ_196).trans G19
                  have G20 : τ_196.2.1 20 = σ.2.1 20 := (g20_τ_196).trans G20
                  have G25 : τ_196.2.1 25 = σ.2.1 25 := (g25_τ_196).trans G25
                  have G39 : τ_196.2.1 39 = σ.2.1 39 := (g39_τ_196).trans G39
                  have y18_22_τ_196 : τ_196.2.1 18 (τ_196.1 22) = (τ28.2.1 18) (τ28.1 22) := by rw [g18_τ_196, w22_τ_196]
                  have y19_22_τ_196 : τ_196.2.1 19 (τ_196.1 22) = (τ28.2.1 19) (τ28.1 22) := by rw [g19_τ_196, w22_τ_196]
                  have y25_22_τ_196 : τ_196.2.1 25 (τ_196.1 22) = (τ28.2.1 25) (τ28.1 22) := by rw [g25_τ_196, w22_τ_196]
                  have y26_22_τ_196 : τ_196.2.1 26 (τ_196.1 22) = (τ28.2.1 26) (τ28.1 22) := by rw [g26_τ_196, w22_τ_196]
                  have y28_9_τ_196 : τ_196.2.1 28 (τ_196.1 9) = (τ28.2.1 28) (τ28.1 9) := by rw [g28_τ_196, w9_τ_196]
                  have Z4 : τ_196.2.1 25 (τ_196.1 22) + τ_196.2.1 26 (τ_196.1 22) = (τ_196.1 9) := by rw [show (τ_196.2.1 25 (τ_196.1 22) + τ_196.2.1 26 (τ_196.1 22) = (τ_196.1 9)) = (τ28.2.1 25 (τ28.1 22) + τ28.2.1 26 (τ28.1 22) = (τ28.1 9)) from by rw [w9_τ_196, w22_τ_196, g25_τ_196, g26_τ_196]]; exact Z4
                  have Y10 : ca (τ_196.2.1 28) ((τ_196.1 9)) ≤ ca (τ_196.2.1 28) (τ_196.2.1 25 (τ_196.1 22)) + (τ_196.1 29) := by rw [show (ca (τ_196.2.1 28) ((τ_196.1 9)) ≤ ca (τ_196.2.1 28) (τ_196.2.1 25 (τ_196.1 22)) + (τ_196.1 29)) = (ca (τ28.2.1 28) ((τ28.1 9)) ≤ ca (τ28.2.1 28) (τ28.2.1 25 (τ28.1 22)) + (τ28.1 29)) from by rw [w9_τ_196, w22_τ_196, w29_τ_196, g25_τ_196, g28_τ_196]]; exact Y10
                  have Y13 : j_eq (σ.2.1 25 (σ.1 22)) (σ.2.1 28) (τ_196.2.1 28) := by rw [show (j_eq (σ.2.1 25 (σ.1 22)) (σ.2.1 28) (τ_196.2.1 28)) = (j_eq (σ.2.1 25 (σ.1 22)) (σ.2.1 28) (τ28.2.1 28)) from by rw [g28_τ_196]]; exact Y13
                  have NSP : n_sp2 (τ_196.2.1 25 (τ_196.1 22)) (τ_196.1 9) (τ_196.1 22) (τ_196.2.1 27) (τ_196.2.1 28) := by rw [show (n_sp2 (τ_196.2.1 25 (τ_196.1 22)) (τ_196.1 9) (τ_196.1 22) (τ_196.2.1 27) (τ_196.2.1 28)) = (n_sp2 (τ28.2.1 25 (τ28.1 22)) (τ28.1 9) (τ28.1 22) (τ28.2.1 27) (τ28.2.1 28)) from by rw [w9_τ_196, w22_τ_196, g25_τ_196, g27_τ_196, g28_τ_196]]; exact NSP
                  have PK : ∀ k : Int, 0 ≤ k → k < (τ_196.1 25) → τ_196.2.1 39 k < (τ_196.1 22) := by rw [show (∀ k : Int, 0 ≤ k → k < (τ_196.1 25) → τ_196.2.1 39 k < (τ_196.1 22)) = (∀ k : Int, 0 ≤ k → k < (τ28.1 25) → τ28.2.1 39 k < (τ28.1 22)) from by rw [w22_τ_196, w25_τ_196, g39_τ_196]]; exact PK
                  have Y10b : (τ_196.1 29) + ca (τ_196.2.1 28) (τ_196.2.1 25 (τ_196.1 22)) ≤ ca (τ_196.2.1 28) (τ_196.1 9) := by rw [show ((τ_196.1 29) + ca (τ_196.2.1 28) (τ_196.2.1 25 (τ_196.1 22)) ≤ ca (τ_196.2.1 28) (τ_196.1 9)) = ((τ28.1 29) + ca (τ28.2.1 28) (τ28.2.1 25 (τ28.1 22)) ≤ ca (τ28.2.1 28) (τ28.1 9)) from by rw [w9_τ_196, w22_τ_196, w29_τ_196, g25_τ_196, g28_τ_196]]; exact Y10b
                  have HYN : ∀ k : Int, 0 ≤ k → k < τ_196.2.1 19 (τ_196.1 22) → τ_196.2.1 20 (τ_196.2.1 18 (τ_196.1 22) + k) < (τ_196.1 22) := by rw [show (∀ k : Int, 0 ≤ k → k < τ_196.2.1 19 (τ_196.1 22) → τ_196.2.1 20 (τ_196.2.1 18 (τ_196.1 22) + k) < (τ_196.1 22)) = (∀ k : Int, 0 ≤ k → k < τ28.2.1 19 (τ28.1 22) → τ28.2.1 20 (τ28.2.1 18 (τ28.1 22) + k) < (τ28.1 22)) from by rw [w22_τ_196, g18_τ_196, g19_τ_196, g20_τ_196]]; exact HYN
                  have A18 : ∀ j, 0 ≤ τ_196.2.1 18 j ∧ τ_196.2.1 18 j ≤ 90000 := fun j => hT.2 18 j
                  have A19 : ∀ j, 0 ≤ τ_196.2.1 19 j ∧ τ_196.2.1 19 j ≤ 60 := fun j => hT.2 19 j
                  have A20 : ∀ j, 0 ≤ τ_196.2.1 20 j ∧ τ_196.2.1 20 j ≤ 1499 := fun j => hT.2 20 j
                  have A25 : ∀ j, 0 ≤ τ_196.2.1 25 j ∧ τ_196.2.1 25 j ≤ 20000 := fun j => hT.2 25 j
                  have A26 : ∀ j, 0 ≤ τ_196.2.1 26 j ∧ τ_196.2.1 26 j ≤ 20000 := fun j => hT.2 26 j
                  have A27 : ∀ j, (-300) ≤ τ_196.2.1 27 j ∧ τ_196.2.1 27 j ≤ 1499 := fun j => hT.2 27 j
                  have A28 : ∀ j, 0 ≤ τ_196.2.1 28 j ∧ τ_196.2.1 28 j ≤ 1 := fun j => hT.2 28 j
                  have A39 : ∀ j, 0 ≤ τ_196.2.1 39 j ∧ τ_196.2.1 39 j ≤ 1499 := fun j => hT.2 39 j
                  have v3 : 0 ≤ τ_196.1 3 ∧ τ_196.1 3 ≤ 1000 := hT.1 3
                  have v5 : 0 ≤ τ_196.1 5 ∧ τ_196.1 5 ≤ 1500 := hT.1 5
                  have v6 : 0 ≤ τ_196.1 6 ∧ τ_196.1 6 ≤ 30000 := hT.1 6
                  have v7 : 0 ≤ τ_196.1 7 ∧ τ_196.1 7 ≤ 90000 := hT.1 7
                  have v8 : 0 ≤ τ_196.1 8 ∧ τ_196.1 8 ≤ 20000 := hT.1 8
                  have v9 : 0 ≤ τ_196.1 9 ∧ τ_196.1 9 ≤ 20000 := hT.1 9
                  have v20 : 0 ≤ τ_196.1 20 ∧ τ_196.1 20 ≤ 19 := hT.1 20
                  have v22 : 0 ≤ τ_196.1 22 ∧ τ_196.1 22 ≤ 1499 := hT.1 22
                  have v25 : 0 ≤ τ_196.1 25 ∧ τ_196.1 25 ≤ 300 := hT.1 25
                  have v26 : 0 ≤ τ_196.1 26 ∧ τ_196.1 26 ≤ 5000010 := hT.1 26
                  have v28 : 0 ≤ τ_196.1 28 ∧ τ_196.1 28 ≤ 1 := hT.1 28
                  have v29 : 0 ≤ τ_196.1 29 ∧ τ_196.1 29 ≤ 300 := hT.1 29
                  have a18_22 : 0 ≤ τ_196.2.1 18 (τ_196.1 22) ∧ τ_196.2.1 18 (τ_196.1 22) ≤ 90000 := hT.2 18 _
                  have a19_22 : 0 ≤ τ_196.2.1 19 (τ_196.1 22) ∧ τ_196.2.1 19 (τ_196.1 22) ≤ 60 := hT.2 19 _
                  have a25_22 : 0 ≤ τ_196.2.1 25 (τ_196.1 22) ∧ τ_196.2.1 25 (τ_196.1 22) ≤ 20000 := hT.2 25 _
                  have a26_22 : 0 ≤ τ_196.2.1 26 (τ_196.1 22) ∧ τ_196.2.1 26 (τ_196.1 22) ≤ 20000 := hT.2 26 _
                  have a28_9 : 0 ≤ τ_196.2.1 28 (τ_196.1 9) ∧ τ_196.2.1 28 (τ_196.1 9) ≤ 1 := hT.2 28 _
                  have av9 : σ.1 9 ≤ τ_196.1 9 := ag.1 9 (by decide)
                  refine h196 _ ?_
                  replace ag := ag_v (i := 26) (x := 0) ag (Or.inl rfl)
                  replace hT := mT_v (i := 26) hT (show (0 : Int) ≤ 0 ∧ 0 ≤ 5000010 from by (first | omega | (simp only [st_s] <;> omega) | assumption | omega | fail))
                  replace ag := ag_v (i := 27) (x := 0) ag (Or.inl rfl)
                  replace hT := mT_v (i := 27) hT (show (0 : Int) ≤ 0 ∧ 0 ≤ 1 from by (first | omega | (simp only [st_s] <;> omega) | assumption | omega | fail))
                  exact ⟨hT, (show ¬ (σ.1 20) = 0 → (τ_196.1 20) = (σ.1 20) from by (first | omega | (simp only [st_s] <;> omega) | assumption | omega | fail)), (show τ_196.2.1 25 (τ_196.1 22) + τ_196.2.1 26 (τ_196.1 22) = (τ_196.1 9) from Z4), (show ca (τ_196.2.1 28) ((τ_196.1 9)) ≤ ca (τ_196.2.1 28) (τ_196.2.1 25 (τ_196.1 22)) + (τ_196.1 29) from Y10), (show ¬ (τ_196.1 28) = 0 → τ_196.2.1 25 (τ_196.1 22) < (τ_196.1 9) ∧ τ_196.2.1 28 ((τ_196.1 9) - 1) = 0 from by (first | assumption | omega | (intro _; refine ⟨by omega, ?_⟩; first | exact hz | (rw [e_τ_196]; exact hz)) | fail)), (show j_eq (σ.2.1 25 (σ.1 22)) (σ.2.1 28) (τ_196.2.1 28) from Y13), (show ((0 : Int)) = 0 from by (first | omega | (simp only [st_s] <;> omega) | assumption | omega | fail)), ag, (show n_sp2 (τ_196.2.1 25 (τ_196.1 22)) (τ_196.1 9) (τ_196.1 22) (τ_196.2.1 27) (τ_196.2.1 28) from NSP), (show (τ_196.1 29) + ca (τ_196.2.1 28) (τ_196.2.1 25 (τ_196.1 22)) ≤ ca (τ_196.2.1 28) (τ_196.1 9) from Y10b), (show ¬ (τ_196.1 28) = 0 → 0 ≤ τ_196.2.1 27 ((τ_196.1 9) - 1) from by (first | assumption | (intro z; exfalso; omega) | (intro _; first | (rw [st27]; omega) | (rw [e_τ_196]; show 0 ≤ τ28.2.1 27 (τ28.1 9 - 1); rw [st27]; omega)) | fail))⟩
            ·
              refine ⟨(show 0 ≤ σ.1 22 ∧ σ.1 22 < 1501 from by (first | omega | (simp only [st_s] <;> omega) | assumption | omega | fail)), ?_⟩
              intro x15 r_x15 e_x15
              have b_x15 : 0 ≤ x15 ∧ x15 ≤ 90000 := by rw [e_x15]; exact hT.2 18 _
              refine ⟨(show 0 ≤ (x15 + (n1 - 1)) ∧ (x15 + (n1 - 1)) < 90100 from by (first | omega | (simp only [st_s] <;> omega) | assumption | omega | fail)), ?_⟩
              intro x17 r_x17 e_x17
              have b_x17 : 0 ≤ x17 ∧ x17 ≤ 1499 := by rw [e_x17]; exact hT.2 20 _
              refine h162 _ _ _ _ ?_
              have kn : x17 < σ.1 22 := by first | (rw [e_x13]; exact PK _ (by omega) (by omega)) | (rw [e_x17, e_x15]; exact HYN _ (by omega) (by omega)) | omega
              refine ⟨_, K_X13_addStep hT (show -300 ≤ x17 from by (first | omega | (simp only [st_s] <;> omega) | assumption | omega | fail)) (show x17 ≤ 1499 from by (first | omega | (simp only [st_s] <;> omega) | assumption | omega | fail)) (show 0 ≤ n2 from by (first | omega | (simp only [st_s] <;> omega) | assumption | omega | fail)) (show n2 ≤ 60000 from by (first | omega | (simp only [st_s] <;> omega) | assumption | omega | fail)) (show (σ.1 9) < 20000 from by (first | omega | (simp only [st_s] <;> omega) | assumption | omega | fail)) (show σ.2.1 26 (σ.1 22) < 20000 from by (first | omega | (simp only [st_s] <;> omega) | assumption | omega | fail)) (show (σ.1 22) = (σ.1 5) from by (first | omega | (simp only [st_s] <;> omega) | assumption | omega | fail)), ?_⟩
              intro τ28 hn_τ28 hf_τ28 hq
              obtain ⟨hT, q26_1, q26_2, q26_3, q26_4, q26_5, q26_6, q26_7⟩ := hq
              replace q26_1 : (τ28.1 9) = (σ.1 9) + 1 := q26_1
              replace q26_2 : τ28.2.1 26 (τ28.1 22) = σ.2.1 26 (σ.1 22) + 1 := q26_2
              replace q26_3 : τ28.2.1 27 = st (σ.2.1 27) (σ.1 9) x17 := q26_3
              replace q26_4 : j_eq ((σ.1 9)) (σ.2.1 28) (τ28.2.1 28) := q26_4
              replace q26_5 : ca (τ28.2.1 28) ((τ28.1 9)) = ca (σ.2.1 28) ((σ.1 9)) := q26_5
              replace q26_6 : τ28.2.1 28 (σ.1 9) = 0 := q26_6
              replace q26_7 : m_ag σ τ28 := q26_7
              replace ag : m_ag σ τ28 := ag_t ag q26_7 rfl
              have w3_τ28 : τ28.1 3 = σ.1 3 := hf_τ28.1 3 (by decide)
              have w5_τ28 : τ28.1 5 = σ.1 5 := hf_τ28.1 5 (by decide)
              have w6_τ28 : τ28.1 6 = σ.1 6 := hf_τ28.1 6 (by decide)
              have w7_τ28 : τ28.1 7 = σ.1 7 := hf_τ28.1 7 (by decide)
              have w8_τ28 : τ28.1 8 = σ.1 8 := hf_τ28.1 8 (by decide)
              have w20_τ28 : τ28.1 20 = σ.1 20 := hf_τ28.1 20 (by decide)
              have w22_τ28 : τ28.1 22 = σ.1 22 := hf_τ28.1 22 (by decide)
              have w25_τ28 : τ28.1 25 = σ.1 25 := hf_τ28.1 25 (by decide)
              have w26_τ28 : τ28.1 26 = σ.1 26 := hf_τ28.1 26 (by decide)
              have w28_τ28 : τ28.1 28 = σ.1 28 := hf_τ28.1 28 (by decide)
              have w29_τ28 : τ28.1 29 = σ.1 29 := hf_τ28.1 29 (by decide)
              have g18_τ28 : τ28.2.1 18 = σ.2.1 18 := hf_τ28.2.1 18 (by decide)
              have g19_τ28 : τ28.2.1 19 = σ.2.1 19 := hf_τ28.2.1 19 (by decide)
              have g20_τ28 : τ28.2.1 20 = σ.2.1 20 := hf_τ28.2.1 20 (by decide)
              have g25_τ28 : τ28.2.1 25 = σ.2.1 25 := hf_τ28.2.1 25 (by decide)
              have g39_τ28 : τ28.2.1 39 = σ.2.1 39 := hf_τ28.2.1 39 (by decide)
              have W3 : τ28.1 3 = σ.1 3 := by first | exact w3_τ28.trans W3 | omega
              have W5 : τ28.1 5 = σ.1 5 := by first | exact w5_τ28.trans W5 | omega
              have W6 : τ28.1 6 = σ.1 6 := by first | exact w6_τ28.trans W6 | omega
              have W7 : τ28.1 7 = σ.1 7 := by first | exact w7_τ28.trans W7 | omega
              have W8 : τ28.1 8 = σ.1 8 := by first | exact w8_τ28.trans W8 | omega
              have W22 : τ28.1 22 = σ.1 22 := by first | exact w22_τ28.trans W22 | omega
              have W25 : τ28.1 25 = σ.1 25 := by first | exact w25_τ28.trans W25 | omega
              have W29 : τ28.1 29 = σ.1 29 := by first | exact w29_τ28.trans W29 | omega
              have G18 : τ28.2.1 18 = σ.2.1 18 := (g18_τ28).trans G18
              have G19 : τ28.2.1 19 = σ.2.1 19 := (g19_τ28).trans G19
              have G20 : τ28.2.1 20 = σ.2.1 20 := (g20_τ28).trans G20
              have G25 : τ28.2.1 25 = σ.2.1 25 := (g25_τ28).trans G25
              have G39 : τ28.2.1 39 = σ.2.1 39 := (g39_τ28).trans G39
              have y18_22_τ28 : τ28.2.1 18 (τ28.1 22) = (σ.2.1 18) (σ.1 22) := by rw [g18_τ28, w22_τ28]
              have y19_22_τ28 : τ28.2.1 19 (τ28.1 22) = (σ.2.1 19) (σ.1 22) := by rw [g19_τ28, w22_τ28]
              have y25_22_τ28 : τ28.2.1 25 (τ28.1 22) = (σ.2.1 25) (σ.1 22) := by rw [g25_τ28, w22_τ28]
              have PK : ∀ k : Int, 0 ≤ k → k < (τ28.1 25) → τ28.2.1 39 k < (τ28.1 22) := by rw [show (∀ k : Int, 0 ≤ k → k < (τ28.1 25) → τ28.2.1 39 k < (τ28.1 22)) = (∀ k : Int, 0 ≤ k → k < (σ.1 25) → σ.2.1 39 k < (σ.1 22)) from by rw [w22_τ28, w25_τ28, g39_τ28]]; exact PK
              have HYN : ∀ k : Int, 0 ≤ k → k < τ28.2.1 19 (τ28.1 22) → τ28.2.1 20 (τ28.2.1 18 (τ28.1 22) + k) < (τ28.1 22) := by rw [show (∀ k : Int, 0 ≤ k → k < τ28.2.1 19 (τ28.1 22) → τ28.2.1 20 (τ28.2.1 18 (τ28.1 22) + k) < (τ28.1 22)) = (∀ k : Int, 0 ≤ k → k < σ.2.1 19 (σ.1 22) → σ.2.1 20 (σ.2.1 18 (σ.1 22) + k) < (σ.1 22)) from by rw [w22_τ28, g18_τ28, g19_τ28, g20_τ28]]; exact HYN
              have A18 : ∀ j, 0 ≤ τ28.2.1 18 j ∧ τ28.2.1 18 j ≤ 90000 := fun j => hT.2 18 j
              have A19 : ∀ j, 0 ≤ τ28.2.1 19 j ∧ τ28.2.1 19 j ≤ 60 := fun j => hT.2 19 j
              have A20 : ∀ j, 0 ≤ τ28.2.1 20 j ∧ τ28.2.1 20 j ≤ 1499 := fun j => hT.2 20 j
              have A25 : ∀ j, 0 ≤ τ28.2.1 25 j ∧ τ28.2.1 25 j ≤ 20000 := fun j => hT.2 25 j
              have A26 : ∀ j, 0 ≤ τ28.2.1 26 j ∧ τ28.2.1 26 j ≤ 20000 := fun j => hT.2 26 j
              have A27 : ∀ j, (-300) ≤ τ28.2.1 27 j ∧ τ28.2.1 27 j ≤ 1499 := fun j => hT.2 27 j
              have A28 : ∀ j, 0 ≤ τ28.2.1 28 j ∧ τ28.2.1 28 j ≤ 1 := fun j => hT.2 28 j
              have A39 : ∀ j, 0 ≤ τ28.2.1 39 j ∧ τ28.2.1 39 j ≤ 1499 := fun j => hT.2 39 j
              have v3 : 0 ≤ τ28.1 3 ∧ τ28.1 3 ≤ 1000 := hT.1 3
              have v5 : 0 ≤ τ28.1 5 ∧ τ28.1 5 ≤ 1500 := hT.1 5
              have v6 : 0 ≤ τ28.1 6 ∧ τ28.1 6 ≤ 30000 := hT.1 6
              have v7 : 0 ≤ τ28.1 7 ∧ τ28.1 7 ≤ 90000 := hT.1 7
              have v8 : 0 ≤ τ28.1 8 ∧ τ28.1 8 ≤ 20000 := hT.1 8
              have v9 : 0 ≤ τ28.1 9 ∧ τ28.1 9 ≤ 20000 := hT.1 9
              have v20 : 0 ≤ τ28.1 20 ∧ τ28.1 20 ≤ 19 := hT.1 20
              have v22 : 0 ≤ τ28.1 22 ∧ τ28.1 22 ≤ 1499 := hT.1 22
              have v25 : 0 ≤ τ28.1 25 ∧ τ28.1 25 ≤ 300 := hT.1 25
              have v26 : 0 ≤ τ28.1 26 ∧ τ28.1 26 ≤ 5000010 := hT.1 26
              have v28 : 0 ≤ τ28.1 28 ∧ τ28.1 28 ≤ 1 := hT.1 28
              have v29 : 0 ≤ τ28.1 29 ∧ τ28.1 29 ≤ 300 := hT.1 29
              have a18_22 : 0 ≤ τ28.2.1 18 (τ28.1 22) ∧ τ28.2.1 18 (τ28.1 22) ≤ 90000 := hT.2 18 _
              have a19_22 : 0 ≤ τ28.2.1 19 (τ28.1 22) ∧ τ28.2.1 19 (τ28.1 22) ≤ 60 := hT.2 19 _
              have a25_22 : 0 ≤ τ28.2.1 25 (τ28.1 22) ∧ τ28.2.1 25 (τ28.1 22) ≤ 20000 := hT.2 25 _
              have a26_22 : 0 ≤ τ28.2.1 26 (τ28.1 22) ∧ τ28.2.1 26 (τ28.1 22) ≤ 20000 := hT.2 26 _
              have a28_9 : 0 ≤ τ28.2.1 28 (τ28.1 9) ∧ τ28.2.1 28 (τ28.1 9) ≤ 1 := hT.2 28 _
              have av9 : σ.1 9 ≤ τ28.1 9 := ag.1 9 (by decide)
              have hz : τ28.2.1 28 (τ28.1 9 - 1) = 0 := by rw [show τ28.1 9 - 1 = σ.1 9 from by omega]; exact q26_6
              have Z4 : τ28.2.1 25 (τ28.1 22) + τ28.2.1 26 (τ28.1 22) = τ28.1 9 := by omega
              have ce := ca_eq q26_4 (n := σ.2.1 25 (σ.1 22)) (by omega)
              have Y10 : ca (τ28.2.1 28) (τ28.1 9) ≤ ca (τ28.2.1 28) (τ28.2.1 25 (τ28.1 22)) + τ28.1 29 := by rw [y25_22_τ28, ce, q26_5]; omega
              have Y12 : ¬ τ28.1 28 = 0 → τ28.2.1 25 (τ28.1 22) < τ28.1 9 ∧ τ28.2.1 28 (τ28.1 9 - 1) = 0 := fun _ => ⟨by omega, hz⟩
              have Y13 := j_eqw q26_4 (show σ.2.1 25 (σ.1 22) ≤ σ.1 9 from by omega)
              have NSP : n_sp2 (τ28.2.1 25 (τ28.1 22)) (τ28.1 9) (τ28.1 22) (τ28.2.1 27) (τ28.2.1 28) := by (rw [show τ28.2.1 25 (τ28.1 22) = σ.2.1 25 (σ.1 22) from by omega, show τ28.1 9 = σ.1 9 + 1 from by omega, show τ28.1 22 = σ.1 22 from by omega]; exact n_sp2_a p9 q26_3 q26_4 (by omega) (by omega) (fun z => by omega) (fun y => absurd q26_6 y))
              have st27 : τ28.2.1 27 (τ28.1 9 - 1) = x17 := by (rw [q26_3, show τ28.1 9 - 1 = σ.1 9 from by omega, st_s])
              have Y10b : τ28.1 29 + ca (τ28.2.1 28) (τ28.2.1 25 (τ28.1 22)) ≤ ca (τ28.2.1 28) (τ28.1 9) := by (rw [y25_22_τ28, ce, q26_5]; have := p10; omega)
              refine ⟨fun c29 => ?_, fun c29 => ?_⟩
              ·
                refine h193 _ _ ?_
                refine ⟨(show 0 ≤ 0 ∧ 0 ≤ 1 from by (first | omega | (simp only [st_s] <;> omega) | assumption | omega | fail)), ?_⟩
                replace ag := ag_v (i := 28) (x := 0) ag (Or.inl rfl)
                replace hT := mT_v (i := 28) hT (show (0 : Int) ≤ 0 ∧ 0 ≤ 1 from by (first | omega | (simp only [st_s] <;> omega) | assumption | omega | fail))
                obtain ⟨τ_196, e_τ_196⟩ : ∃ z : S0, z = s_v τ28 28 0 := ⟨_, rfl⟩
                rw [← e_τ_196]
                replace hT : m_T τ_196 := by rw [e_τ_196]; exact hT
                replace ag : m_ag σ τ_196 := by rw [e_τ_196]; exact ag
                have w3_τ_196 : τ_196.1 3 = τ28.1 3 := by rw [e_τ_196]; rfl
                have w5_τ_196 : τ_196.1 5 = τ28.1 5 := by rw [e_τ_196]; rfl
                have w6_τ_196 : τ_196.1 6 = τ28.1 6 := by rw [e_τ_196]; rfl
                have w7_τ_196 : τ_196.1 7 = τ28.1 7 := by rw [e_τ_196]; rfl
                have w8_τ_196 : τ_196.1 8 = τ28.1 8 := by rw [e_τ_196]; rfl
                have w9_τ_196 : τ_196.1 9 = τ28.1 9 := by rw [e_τ_196]; rfl
                have w20_τ_196 : τ_196.1 20 = τ28.1 20 := by rw [e_τ_196]; rfl
                have w22_τ_196 : τ_196.1 22 = τ28.1 22 := by rw [e_τ_196]; rfl
                have w25_τ_196 : τ_196.1 25 = τ28.1 25 := by rw [e_τ_196]; rfl
                have w26_τ_196 : τ_196.1 26 = τ28.1 26 := by rw [e_τ_196]; rfl
                have w28_τ_196 : τ_196.1 28 = 0 := by rw [e_τ_196]; rfl
                have w29_τ_196 : τ_196.1 29 = τ28.1 29 := by rw [e_τ_196]; rfl
                have g18_τ_196 : τ_196.2.1 18 = τ28.2.1 18 := by rw [e_τ_196]; rfl
                have g19_τ_196 : τ_196.2.1 19 = τ28.2.1 19 := by rw [e_τ_196]; rfl
                have g20_τ_196 : τ_196.2.1 20 = τ28.2.1 20 := by rw [e_τ_196]; rfl
                have g25_τ_196 : τ_196.2.1 25 = τ28.2.1 25 := by rw [e_τ_196]; rfl
                have g26_τ_196 : τ_196.2.1 26 = τ28.2.1 26 := by rw [e_τ_196]; rfl
                have g27_τ_196 : τ_196.2.1 27 = τ28.2.1 27 := by rw [e_τ_196]; rfl
                have g28_τ_196 : τ_196.2.1 28 = τ28.2.1 28 := by rw [e_τ_196]; rfl
                have g39_τ_196 : τ_196.2.1 39 = τ28.2.1 39 := by rw [e_τ_196]; rfl
                have W3 : τ_196.1 3 = σ.1 3 := by first | exact w3_τ_196.trans W3 | omega
                have W5 : τ_196.1 5 = σ.1 5 := by first | exact w5_τ_196.trans W5 | omega
                have W6 : τ_196.1 6 = σ.1 6 := by first | exact w6_τ_196.trans W6 | omega
                have W7 : τ_196.1 7 = σ.1 7 := by first | exact w7_τ_196.trans W7 | omega
                have W8 : τ_196.1 8 = σ.1 8 := by first | exact w8_τ_196.trans W8 | omega
                have W22 : τ_196.1 22 = σ.1 22 := by first | exact w22_τ_196.trans W22 | omega
                have W25 : τ_196.1 25 = σ.1 25 := by first | exact w25_τ_196.trans W25 | omega
                have W29 : τ_196.1 29 = σ.1 29 := by first | exact w29_τ_196.trans W29 | omega
                have G18 : τ_196.2.1 18 = σ.2.1 18 := (g18_τ_196).trans G18
                have G19 : τ_196.2.1 19 = σ.2.1 19 := (g19_τ_196).trans G19
                have G20 : τ_196.2.1 20 = σ.2.1 20 := (g20_τ_196).trans G20
                have G25 : τ_196.2.1 25 = σ.2.1 25 := (g25_τ_196).trans G25
                have G39 : τ_196.2.1 39 = σ.2.1 39 := (g39_τ_196).trans G39
                have y18_22_τ_196 : τ_196.2.1 18 (τ_196.1 22) = (τ28.2.1 18) (τ28.1 22) := by rw [g18_τ_196, w22_τ_196]
                have y19_22_τ_196 : τ_196.2.1 19 (τ_196.1 22) = (τ28.2.1 19) (τ28.1 22) := by rw [g19_τ_196, w22_τ_196]
                have y25_22_τ_196 : τ_196.2.1 25 (τ_196.1 22) = (τ28.2.1 25) (τ28.1 22) := by rw [g25_τ_196, w22_τ_196]
                have y26_22_τ_196 : τ_196.2.1 26 (τ_196.1 22) = (τ28.2.1 26) (τ28.1 22) := by rw [g26_τ_196, w22_τ_196]
                have y28_9_τ_196 : τ_196.2.1 28 (τ_196.1 9) = (τ28.2.1 28) (τ28.1 9) := by rw [g28_τ_196, w9_τ_196]
                have Z4 : τ_196.2.1 25 (τ_196.1 22) + τ_196.2.1 26 (τ_196.1 22) = (τ_196.1 9) := by rw [show (τ_196.2.1 25 (τ_196.1 22) + τ_196.2.1 26 (τ_196.1 22) = (τ_196.1 9)) = (τ28.2.1 25 (τ28.1 22) + τ28.2.1 26 (τ28.1 22) = (τ28.1 9)) from by rw [w9_τ_196, w22_τ_196, g25_τ_196, g26_τ_196]]; exact Z4
                have Y10 : ca (τ_196.2.1 28) ((τ_196.1 9)) ≤ ca (τ_196.2.1 28) (τ_196.2.1 25 (τ_196.1 22)) + (τ_196.1 29) := by rw [show (ca (τ_196.2.1 28) ((τ_196.1 9)) ≤ ca (τ_196.2.1 28) (τ_196.2.1 25 (τ_196.1 22)) + (τ_196.1 29)) = (ca (τ28.2.1 28) ((τ28.1 9)) ≤ ca (τ28.2.1 28) (τ28.2.1 25 (τ28.1 22)) + (τ28.1 29)) from by rw [w9_τ_196, w22_τ_196, w29_τ_196, g25_τ_196, g28_τ_196]]; exact Y10
                have Y13 : j_eq (σ.2.1 25 (σ.1 22)) (σ.2.1 28) (τ_196.2.1 28) := by rw [show (j_eq (σ.2.1 25 (σ.1 22)) (σ.2.1 28) (τ_196.2.1 28)) = (j_eq (σ.2.1 25 (σ.1 22)) (σ.2.1 28) (τ28.2.1 28)) from by rw [g28_τ_196]]; exact Y13
                have NSP : n_sp2 (τ_196.2.1 25 (τ_196.1 22)) (τ_196.1 9) (τ_196.1 22) (τ_196.2.1 27) (τ_196.2.1 28) := by rw [show (n_sp2 (τ_196.2.1 25 (τ_196.1 22)) (τ_196.1 9) (τ_196.1 22) (τ_196.2.1 27) (τ_196.2.1 28)) = (n_sp2 (τ28.2.1 25 (τ28.1 22)) (τ28.1 9) (τ28.1 22) (τ28.2.1 27) (τ28.2.1 28)) from by rw [w9_τ_196, w22_τ_196, g25_τ_196, g27_τ_196, g28_τ_196]]; exact NSP
                have PK : ∀ k : Int, 0 ≤ k → k < (τ_196.1 25) → τ_196.2.1 39 k < (τ_196.1 22) := by rw [show (∀ k : Int, 0 ≤ k → k < (τ_196.1 25) → τ_196.2.1 39 k < (τ_196.1 22)) = (∀ k : Int, 0 ≤ k → k < (τ28.1 25) → τ28.2.1 39 k < (τ28.1 22)) from by rw [w22_τ_196, w25_τ_196, g39_τ_196]]; exact PK
                have Y10b : (τ_196.1 29) + ca (τ_196.2.1 28) (τ_196.2.1 25 (τ_196.1 22)) ≤ ca (τ_196.2.1 28) (τ_196.1 9) := by rw [show ((τ_196.1 29) + ca (τ_196.2.1 28) (τ_196.2.1 25 (τ_196.1 22)) ≤ ca (τ_196.2.1 28) (τ_196.1 9)) = ((τ28.1 29) + ca (τ28.2.1 28) (τ28.2.1 25 (τ28.1 22)) ≤ ca (τ28.2.1 28) (τ28.1 9)) from by rw [w9_τ_196, w22_τ_196, w29_τ_196, g25_τ_196, g28_τ_196]]; exact Y10b
                have HYN : ∀ k : Int, 0 ≤ k → k < τ_196.2.1 19 (τ_196.1 22) → τ_196.2.1 20 (τ_196.2.1 18 (τ_196.1 22) + k) < (τ_196.1 22) := by rw [show (∀ k : Int, 0 ≤ k → k < τ_196.2.1 19 (τ_196.1 22) → τ_196.2.1 20 (τ_196.2.1 18 (τ_196.1 22) + k) < (τ_196.1 22)) = (∀ k : Int, 0 ≤ k → k < τ28.2.1 19 (τ28.1 22) → τ28.2.1 20 (τ28.2.1 18 (τ28.1 22) + k) < (τ28.1 22)) from by rw [w22_τ_196, g18_τ_196, g19_τ_196, g20_τ_196]]; exact HYN
                have A18 : ∀ j, 0 ≤ τ_196.2.1 18 j ∧ τ_196.2.1 18 j ≤ 90000 := fun j => hT.2 18 j
                have A19 : ∀ j, 0 ≤ τ_196.2.1 19 j ∧ τ_196.2.1 19 j ≤ 60 := fun j => hT.2 19 j
                have A20 : ∀ j, 0 ≤ τ_196.2.1 20 j ∧ τ_196.2.1 20 j ≤ 1499 := fun j => hT.2 20 j
                have A25 : ∀ j, 0 ≤ τ_196.2.1 25 j ∧ τ_196.2.1 25 j ≤ 20000 := fun j => hT.2 25 j
                have A26 : ∀ j, 0 ≤ τ_196.2.1 26 j ∧ τ_196.2.1 26 j ≤ 20000 := fun j => hT.2 26 j
                have A27 : ∀ j, (-300) ≤ τ_196.2.1 27 j ∧ τ_196.2.1 27 j ≤ 1499 := fun j => hT.2 27 j
                have A28 : ∀ j, 0 ≤ τ_196.2.1 28 j ∧ τ_196.2.1 28 j ≤ 1 := fun j => hT.2 28 j
                have A39 : ∀ j, 0 ≤ τ_196.2.1 39 j ∧ τ_196.2.1 39 j ≤ 1499 := fun j => hT.2 39 j
                have v3 : 0 ≤ τ_196.1 3 ∧ τ_196.1 3 ≤ 1000 := hT.1 3
                have v5 : 0 ≤ τ_196.1 5 ∧ τ_196.1 5 ≤ 1500 := hT.1 5
                have v6 : 0 ≤ τ_196.1 6 ∧ τ_196.1 6 ≤ 30000 := hT.1 6
                have v7 : 0 ≤ τ_196.1 7 ∧ τ_196.1 7 ≤ 90000 := hT.1 7
                have v8 : 0 ≤ τ_196.1 8 ∧ τ_196.1 8 ≤ 20000 := hT.1 8
                have v9 : 0 ≤ τ_196.1 9 ∧ τ_196.1 9 ≤ 20000 := hT.1 9
                have v20 : 0 ≤ τ_196.1 20 ∧ τ_196.1 20 ≤ 19 := hT.1 20
                have v22 : 0 ≤ τ_196.1 22 ∧ τ_196.1 22 ≤ 1499 := hT.1 22
                have v25 : 0 ≤ τ_196.1 25 ∧ τ_196.1 25 ≤ 300 := hT.1 25
                have v26 : 0 ≤ τ_196.1 26 ∧ τ_196.1 26 ≤ 5000010 := hT.1 26
                have v28 : 0 ≤ τ_196.1 28 ∧ τ_196.1 28 ≤ 1 := hT.1 28
                have v29 : 0 ≤ τ_196.1 29 ∧ τ_196.1 29 ≤ 300 := hT.1 29
                have a18_22 : 0 ≤ τ_196.2.1 18 (τ_196.1 22) ∧ τ_196.2.1 18 (τ_196.1 22) ≤ 90000 := hT.2 18 _
                have a19_22 : 0 ≤ τ_196.2.1 19 (τ_196.1 22) ∧ τ_196.2.1 19 (τ_196.1 22) ≤ 60 := hT.2 19 _
                have a25_22 : 0 ≤ τ_196.2.1 25 (τ_196.1 22) ∧ τ_196.2.1 25 (τ_196.1 22) ≤ 20000 := hT.2 25 _
                have a26_22 : 0 ≤ τ_196.2.1 26 (τ_196.1 22) ∧ τ_196.2.1 26 (τ_196.1 22) ≤ 20000 := hT.2 26 _
                have a28_9 : 0 ≤ τ_196.2.1 28 (τ_196.1 9) ∧ τ_196.2.1 28 (τ_196.1 9) ≤ 1 := hT.2 28 _
                have av9 : σ.1 9 ≤ τ_196.1 9 := ag.1 9 (by decide)
                refine h196 _ ?_
                replace ag := ag_v (i := 26) (x := 0) ag (Or.inl rfl)
                replace hT := mT_v (i := 26) hT (show (0 : Int) ≤ 0 ∧ 0 ≤ 5000010 from by (first | omega | (simp only [st_s] <;> omega) | assumption | omega | fail))
                replace ag := ag_v (i := 27) (x := 0) ag (Or.inl rfl)
                replace hT := mT_v (i := 27) hT (show (0 : Int) ≤ 0 ∧ 0 ≤ 1 from by (first | omega | (simp only [st_s] <;> omega) | assumption | omega | fail))
                exact ⟨hT, (show ¬ (σ.1 20) = 0 → (τ_196.1 20) = (σ.1 20) from by (first | omega | (simp only [st_s] <;> omega) | assumption | omega | fail)), (show τ_196.2.1 25 (τ_196.1 22) + τ_196.2.1 26 (τ_196.1 22) = (τ_196.1 9) from Z4), (show ca (τ_196.2.1 28) ((τ_196.1 9)) ≤ ca (τ_196.2.1 28) (τ_196.2.1 25 (τ_196.1 22)) + (τ_196.1 29) from Y10), (show ¬ (τ_196.1 28) = 0 → τ_196.2.1 25 (τ_196.1 22) < (τ_196.1 9) ∧ τ_196.2.1 28 ((τ_196.1 9) - 1) = 0 from by (first | assumption | omega | (intro _; refine ⟨by omega, ?_⟩; first | exact hz | (rw [e_τ_196]; exact hz)) | fail)), (show j_eq (σ.2.1 25 (σ.1 22)) (σ.2.1 28) (τ_196.2.1 28) from Y13), (show ((0 : Int)) = 0 from by (first | omega | (simp only [st_s] <;> omega) | assumption | omega | fail)), ag, (show n_sp2 (τ_196.2.1 25 (τ_196.1 22)) (τ_196.1 9) (τ_196.1 22) (τ_196.2.1 27) (τ_196.2.1 28) from NSP), (show (τ_196.1 29) + ca (τ_196.2.1 28) (τ_196.2.1 25 (τ_196.1 22)) ≤ ca (τ_196.2.1 28) (τ_196.1 9) from Y10b), (show ¬ (τ_196.1 28) = 0 → 0 ≤ τ_196.2.1 27 ((τ_196.1 9) - 1) from by (first | assumption | (intro z; exfalso; omega) | (intro _; first | (rw [st27]; omega) | (rw [e_τ_196]; show 0 ≤ τ28.2.1 27 (τ28.1 9 - 1); rw [st27]; omega)) | fail))⟩
              ·
                refine ⟨(show 0 ≤ x17 ∧ x17 < 1501 from by (first | omega | (simp only [st_s] <;> omega) | assumption | omega | fail)), ?_⟩
                intro x31 r_x31 e_x31
                have b_x31 : 0 ≤ x31 ∧ x31 ≤ 4 := by rw [e_x31]; exact hT.2 13 _
                refine ⟨fun c32 => ?_, fun c32 => ?_⟩
                ·
                  refine h193 _ _ ?_
                  refine ⟨(show 0 ≤ 0 ∧ 0 ≤ 1 from by (first | omega | (simp only [st_s] <;> omega) | assumption | omega | fail)), ?_⟩
                  replace ag := ag_v (i := 28) (x := 0) ag (Or.inl rfl)
                  replace hT := mT_v (i := 28) hT (show (0 : Int) ≤ 0 ∧ 0 ≤ 1 from by (first | omega | (simp only [st_s] <;> omega) | assumption | omega | fail))
                  obtain ⟨τ_196, e_τ_196⟩ : ∃ z : S0, z = s_v τ28 28 0 := ⟨_, rfl⟩
                  rw [← e_τ_196]
                  replace hT : m_T τ_196 := by rw [e_τ_196]; exact hT
                  replace ag : m_ag σ τ_196 := by rw [e_τ_196]; exact ag
                  have w3_τ_196 : τ_196.1 3 = τ28.1 3 := by rw [e_τ_196]; rfl
                  have w5_τ_196 : τ_196.1 5 = τ28.1 5 := by rw [e_τ_196]; rfl
                  have w6_τ_196 : τ_196.1 6 = τ28.1 6 := by rw [e_τ_196]; rfl
                  have w7_τ_196 : τ_196.1 7 = τ28.1 7 := by rw [e_τ_196]; rfl
                  have w8_τ_196 : τ_196.1 8 = τ28.1 8 := by rw [e_τ_196]; rfl
                  have w9_τ_196 : τ_196.1 9 = τ28.1 9 := by rw [e_τ_196]; rfl
                  have w20_τ_196 : τ_196.1 20 = τ28.1 20 := by rw [e_τ_196]; rfl
                  have w22_τ_196 : τ_196.1 22 = τ28.1 22 := by rw [e_τ_196]; rfl
                  have w25_τ_196 : τ_196.1 25 = τ28.1 25 := by rw [e_τ_196]; rfl
                  have w26_τ_196 : τ_196.1 26 = τ28.1 26 := by rw [e_τ_196]; rfl
                  have w28_τ_196 : τ_196.1 28 = 0 := by rw [e_τ_196]; rfl
                  have w29_τ_196 : τ_196.1 29 = τ28.1 29 := by rw [e_τ_196]; rfl
                  have g18_τ_196 : τ_196.2.1 18 = τ28.2.1 18 := by rw [e_τ_196]; rfl
                  have g19_τ_196 : τ_196.2.1 19 = τ28.2.1 19 := by rw [e_τ_196]; rfl
                  have g20_τ_196 : τ_196.2.1 20 = τ28.2.1 20 := by rw [e_τ_196]; rfl
                  have g25_τ_196 : τ_196.2.1 25 = τ28.2.1 25 := by rw [e_τ_196]; rfl
                  have g26_τ_196 : τ_196.2.1 26 = τ28.2.1 26 := by rw [e_τ_196]; rfl
                  have g27_τ_196 : τ_196.2.1 27 = τ28.2.1 27 := by rw [e_τ_196]; rfl
                  have g28_τ_196 : τ_196.2.1 28 = τ28.2.1 28 := by rw [e_τ_196]; rfl
                  have g39_τ_196 : τ_196.2.1 39 = τ28.2.1 39 := by rw [e_τ_196]; rfl
                  have W3 : τ_196.1 3 = σ.1 3 := by first | exact w3_τ_196.trans W3 | omega
                  have W5 : τ_196.1 5 = σ.1 5 := by first | exact w5_τ_196.trans W5 | omega
                  have W6 : τ_196.1 6 = σ.1 6 := by first | exact w6_τ_196.trans W6 | omega
                  have W7 : τ_196.1 7 = σ.1 7 := by first | exact w7_τ_196.trans W7 | omega
                  have W8 : τ_196.1 8 = σ.1 8 := by first | exact w8_τ_196.trans W8 | omega
                  have W22 : τ_196.1 22 = σ.1 22 := by first | exact w22_τ_196.trans W22 | omega
                  have W25 : τ_196.1 25 = σ.1 25 := by first | exact w25_τ_196.trans W25 | omega
                  have W29 : τ_196.1 29 = σ.1 29 := by first | exact w29_τ_196.trans W29 | omega
                  have G18 : τ_196.2.1 18 = σ.2.1 18 := (g18_τ_196).trans G18
                  have G19 : τ_196.2.1 19 = σ.2.1 19 := (g19_τ_196).trans G19
                  have G20 : τ_196.2.1 20 = σ.2.1 20 := (g20_τ_196).trans G20
                  have G25 : τ_196.2.1 25 = σ.2.1 25 := (g25_τ_196).trans G25
                  have G39 : τ_196.2.1 39 = σ.2.1 39 := (g39_τ_196).trans G39
                  have y18_22_τ_196 : τ_196.2.1 18 (τ_196.1 22) = (τ28.2.1 18) (τ28.1 22) := by rw [g18_τ_196, w22_τ_196]
                  have y19_22_τ_196 : τ_196.2.1 19 (τ_196.1 22) = (τ28.2.1 19) (τ28.1 22) := by rw [g19_τ_196, w22_τ_196]
                  have y25_22_τ_196 : τ_196.2.1 25 (τ_196.1 22) = (τ28.2.1 25) (τ28.1 22) := by rw [g25_τ_196, w22_τ_196]
                  have y26_22_τ_196 : τ_196.2.1 26 (τ_196.1 22) = (τ28.2.1 26) (τ28.1 22) := by rw [g26_τ_196, w22_τ_196]
                  have y28_9_τ_196 : τ_196.2.1 28 (τ_196.1 9) = (τ28.2.1 28) (τ28.1 9) := by rw [g28_τ_196, w9_τ_196]
                  have Z4 : τ_196.2.1 25 (τ_196.1 22) + τ_196.2.1 26 (τ_196.1 22) = (τ_196.1 9) := by rw [show (τ_196.2.1 25 (τ_196.1 22) + τ_196.2.1 26 (τ_196.1 22) = (τ_196.1 9)) = (τ28.2.1 25 (τ28.1 22) + τ28.2.1 26 (τ28.1 22) = (τ28.1 9)) from by rw [w9_τ_196, w22_τ_196, g25_τ_196, g26_τ_196]]; exact Z4
                  have Y10 : ca (τ_196.2.1 28) ((τ_196.1 9)) ≤ ca (τ_196.2.1 28) (τ_196.2.1 25 (τ_196.1 22)) + (τ_196.1 29) := by rw [show (ca (τ_196.2.1 28) ((τ_196.1 9)) ≤ ca (τ_196.2.1 28) (τ_196.2.1 25 (τ_196.1 22)) + (τ_196.1 29)) = (ca (τ28.2.1 28) ((τ28.1 9)) ≤ ca (τ28.2.1 28) (τ28.2.1 25 (τ28.1 22)) + (τ28.1 29)) from by rw [w9_τ_196, w22_τ_196, w29_τ_196, g25_τ_196, g28_τ_196]]; exact Y10
                  have Y13 : j_eq (σ.2.1 25 (σ.1 22)) (σ.2.1 28) (τ_196.2.1 28) := by rw [show (j_eq (σ.2.1 25 (σ.1 22)) (σ.2.1 28) (τ_196.2.1 28)) = (j_eq (σ.2.1 25 (σ.1 22)) (σ.2.1 28) (τ28.2.1 28)) from by rw [g28_τ_196]]; exact Y13
                  have NSP : n_sp2 (τ_196.2.1 25 (τ_196.1 22)) (τ_196.1 9) (τ_196.1 22) (τ_196.2.1 27) (τ_196.2.1 28) := by rw [show (n_sp2 (τ_196.2.1 25 (τ_196.1 22)) (τ_196.1 9) (τ_196.1 22) (τ_196.2.1 27) (τ_196.2.1 28)) = (n_sp2 (τ28.2.1 25 (τ28.1 22)) (τ28.1 9) (τ28.1 22) (τ28.2.1 27) (τ28.2.1 28)) from by rw [w9_τ_196, w22_τ_196, g25_τ_196, g27_τ_196, g28_τ_196]]; exact NSP
                  have PK : ∀ k : Int, 0 ≤ k → k < (τ_196.1 25) → τ_196.2.1 39 k < (τ_196.1 22) := by rw [show (∀ k : Int, 0 ≤ k → k < (τ_196.1 25) → τ_196.2.1 39 k < (τ_196.1 22)) = (∀ k : Int, 0 ≤ k → k < (τ28.1 25) → τ28.2.1 39 k < (τ28.1 22)) from by rw [w22_τ_196, w25_τ_196, g39_τ_196]]; exact PK
                  have Y10b : (τ_196.1 29) + ca (τ_196.2.1 28) (τ_196.2.1 25 (τ_196.1 22)) ≤ ca (τ_196.2.1 28) (τ_196.1 9) := by rw [show ((τ_196.1 29) + ca (τ_196.2.1 28) (τ_196.2.1 25 (τ_196.1 22)) ≤ ca (τ_196.2.1 28) (τ_196.1 9)) = ((τ28.1 29) + ca (τ28.2.1 28) (τ28.2.1 25 (τ28.1 22)) ≤ ca (τ28.2.1 28) (τ28.1 9)) from by rw [w9_τ_196, w22_τ_196, w29_τ_196, g25_τ_196, g28_τ_196]]; exact Y10b
                  have HYN : ∀ k : Int, 0 ≤ k → k < τ_196.2.1 19 (τ_196.1 22) → τ_196.2.1 20 (τ_196.2.1 18 (τ_196.1 22) + k) < (τ_196.1 22) := by rw [show (∀ k : Int, 0 ≤ k → k < τ_196.2.1 19 (τ_196.1 22) → τ_196.2.1 20 (τ_196.2.1 18 (τ_196.1 22) + k) < (τ_196.1 22)) = (∀ k : Int, 0 ≤ k → k < τ28.2.1 19 (τ28.1 22) → τ28.2.1 20 (τ28.2.1 18 (τ28.1 22) + k) < (τ28.1 22)) from by rw [w22_τ_196, g18_τ_196, g19_τ_196, g20_τ_196]]; exact HYN
                  have A18 : ∀ j, 0 ≤ τ_196.2.1 18 j ∧ τ_196.2.1 18 j ≤ 90000 := fun j => hT.2 18 j
                  have A19 : ∀ j, 0 ≤ τ_196.2.1 19 j ∧ τ_196.2.1 19 j ≤ 60 := fun j => hT.2 19 j
                  have A20 : ∀ j, 0 ≤ τ_196.2.1 20 j ∧ τ_196.2.1 20 j ≤ 1499 := fun j => hT.2 20 j
                  have A25 : ∀ j, 0 ≤ τ_196.2.1 25 j ∧ τ_196.2.1 25 j ≤ 20000 := fun j => hT.2 25 j
                  have A26 : ∀ j, 0 ≤ τ_196.2.1 26 j ∧ τ_196.2.1 26 j ≤ 20000 := fun j => hT.2 26 j
                  have A27 : ∀ j, (-300) ≤ τ_196.2.1 27 j ∧ τ_196.2.1 27 j ≤ 1499 := fun j => hT.2 27 j
                  have A28 : ∀ j, 0 ≤ τ_196.2.1 28 j ∧ τ_196.2.1 28 j ≤ 1 := fun j => hT.2 28 j
                  have A39 : ∀ j, 0 ≤ τ_196.2.1 39 j ∧ τ_196.2.1 39 j ≤ 1499 := fun j => hT.2 39 j
                  have v3 : 0 ≤ τ_196.1 3 ∧ τ_196.1 3 ≤ 1000 := hT.1 3
                  have v5 : 0 ≤ τ_196.1 5 ∧ τ_196.1 5 ≤ 1500 := hT.1 5
                  have v6 : 0 ≤ τ_196.1 6 ∧ τ_196.1 6 ≤ 30000 := hT.1 6
                  have v7 : 0 ≤ τ_196.1 7 ∧ τ_196.1 7 ≤ 90000 := hT.1 7
                  have v8 : 0 ≤ τ_196.1 8 ∧ τ_196.1 8 ≤ 20000 := hT.1 8
                  have v9 : 0 ≤ τ_196.1 9 ∧ τ_196.1 9 ≤ 20000 := hT.1 9
                  have v20 : 0 ≤ τ_196.1 20 ∧ τ_196.1 20 ≤ 19 := hT.1 20
                  have v22 : 0 ≤ τ_196.1 22 ∧ τ_196.1 22 ≤ 1499 := hT.1 22
                  have v25 : 0 ≤ τ_196.1 25 ∧ τ_196.1 25 ≤ 300 := hT.1 25
                  have v26 : 0 ≤ τ_196.1 26 ∧ τ_196.1 26 ≤ 5000010 := hT.1 26
                  have v28 : 0 ≤ τ_196.1 28 ∧ τ_196.1 28 ≤ 1 := hT.1 28
                  have v29 : 0 ≤ τ_196.1 29 ∧ τ_196.1 29 ≤ 300 := hT.1 29
                  have a18_22 : 0 ≤ τ_196.2.1 18 (τ_196.1 22) ∧ τ_196.2.1 18 (τ_196.1 22) ≤ 90000 := hT.2 18 _
                  have a19_22 : 0 ≤ τ_196.2.1 19 (τ_196.1 22) ∧ τ_196.2.1 19 (τ_196.1 22) ≤ 60 := hT.2 19 _
                  have a25_22 : 0 ≤ τ_196.2.1 25 (τ_196.1 22) ∧ τ_196.2.1 25 (τ_196.1 22) ≤ 20000 := hT.2 25 _
                  have a26_22 : 0 ≤ τ_196.2.1 26 (τ_196.1 22) ∧ τ_196.2.1 26 (τ_196.1 22) ≤ 20000 := hT.2 26 _
                  have a28_9 : 0 ≤ τ_196.2.1 28 (τ_196.1 9) ∧ τ_196.2.1 28 (τ_196.1 9) ≤ 1 := hT.2 28 _
                  have av9 : σ.1 9 ≤ τ_196.1 9 := ag.1 9 (by decide)
                  refine h196 _ ?_
                  replace ag := ag_v (i := 26) (x := 0) ag (Or.inl rfl)
                  replace hT := mT_v (i := 26) hT (show (0 : Int) ≤ 0 ∧ 0 ≤ 5000010 from by (first | omega | (simp only [st_s] <;> omega) | assumption | omega | fail))
                  replace ag := ag_v (i := 27) (x := 0) ag (Or.inl rfl)
                  replace hT := mT_v (i := 27) hT (show (0 : Int) ≤ 0 ∧ 0 ≤ 1 from by (first | omega | (simp only [st_s] <;> omega) | assumption | omega | fail))
                  exact ⟨hT, (show ¬ (σ.1 20) = 0 → (τ_196.1 20) = (σ.1 20) from by (first | omega | (simp only [st_s] <;> omega) | assumption | omega | fail)), (show τ_196.2.1 25 (τ_196.1 22) + τ_196.2.1 26 (τ_196.1 22) = (τ_196.1 9) from Z4), (show ca (τ_196.2.1 28) ((τ_196.1 9)) ≤ ca (τ_196.2.1 28) (τ_196.2.1 25 (τ_196.1 22)) + (τ_196.1 29) from Y10), (show ¬ (τ_196.1 28) = 0 → τ_196.2.1 25 (τ_196.1 22) < (τ_196.1 9) ∧ τ_196.2.1 28 ((τ_196.1 9) - 1) = 0 from by (first | assumption | omega | (intro _; refine ⟨by omega, ?_⟩; first | exact hz | (rw [e_τ_196]; exact hz)) | fail)), (show j_eq (σ.2.1 25 (σ.1 22)) (σ.2.1 28) (τ_196.2.1 28) from Y13), (show ((0 : Int)) = 0 from by (first | omega | (simp only [st_s] <;> omega) | assumption | omega | fail)), ag, (show n_sp2 (τ_196.2.1 25 (τ_196.1 22)) (τ_196.1 9) (τ_196.1 22) (τ_196.2.1 27) (τ_196.2.1 28) from NSP), (show (τ_196.1 29) + ca (τ_196.2.1 28) (τ_196.2.1 25 (τ_196.1 22)) ≤ ca (τ_196.2.1 28) (τ_196.1 9) from Y10b), (show ¬ (τ_196.1 28) = 0 → 0 ≤ τ_196.2.1 27 ((τ_196.1 9) - 1) from by (first | assumption | (intro z; exfalso; omega) | (intro _; first | (rw [st27]; omega) | (rw [e_τ_196]; show 0 ≤ τ28.2.1 27 (τ28.1 9 - 1); rw [st27]; omega)) | fail))⟩
                ·
                  refine h193 _ _ ?_
                  refine ⟨(show 0 ≤ 1 ∧ 1 ≤ 1 from by (first | omega | (simp only [st_s] <;> omega) | assumption | omega | fail)), ?_⟩
                  replace ag := ag_v (i := 28) (x := 1) ag (Or.inl rfl)
                  replace hT := mT_v (i := 28) hT (show (0 : Int) ≤ 1 ∧ 1 ≤ 1 from by (first | omega | (simp only [st_s] <;> omega) | assumption | omega | fail))
                  obtain ⟨τ_196, e_τ_196⟩ : ∃ z : S0, z = s_v τ28 28 1 := ⟨_, rfl⟩
                  rw [← e_τ_196]
                  replace hT : m_T τ_196 := by rw [e_τ_196]; exact hT
                  replace ag : m_ag σ τ_196 := by rw [e_τ_196]; exact ag
                  have w3_τ_196 : τ_196.1 3 = τ28.1 3 := by rw [e_τ_196]; rfl
                  have w5_τ_196 : τ_196.1 5 = τ28.1 5 := by rw [e_τ_196]; rfl
                  have w6_τ_196 : τ_196.1 6 = τ28.1 6 := by rw [e_τ_196]; rfl
                  have w7_τ_196 : τ_196.1 7 = τ28.1 7 := by rw [e_τ_196]; rfl
                  have w8_τ_196 : τ_196.1 8 = τ28.1 8 := by rw [e_τ_196]; rfl
                  have w9_τ_196 : τ_196.1 9 = τ28.1 9 := by rw [e_τ_196]; rfl
                  have w20_τ_196 : τ_196.1 20 = τ28.1 20 := by rw [e_τ_196]; rfl
                  have w22_τ_196 : τ_196.1 22 = τ28.1 22 := by rw [e_τ_196]; rfl
                  have w25_τ_196 : τ_196.1 25 = τ28.1 25 := by rw [e_τ_196]; rfl
                  have w26_τ_196 : τ_196.1 26 = τ28.1 26 := by rw [e_τ_196]; rfl
                  have w28_τ_196 : τ_196.1 28 = 1 := by rw [e_τ_196]; rfl
                  have w29_τ_196 : τ_196.1 29 = τ28.1 29 := by rw [e_τ_196]; rfl
                  have g18_τ_196 : τ_196.2.1 18 = τ28.2.1 18 := by rw [e_τ_196]; rfl
                  have g19_τ_196 : τ_196.2.1 19 = τ28.2.1 19 := by rw [e_τ_196]; rfl
                  have g20_τ_196 : τ_196.2.1 20 = τ28.2.1 20 := by rw [e_τ_196]; rfl
                  have g25_τ_196 : τ_196.2.1 25 = τ28.2.1 25 := by rw [e_τ_196]; rfl
                  have g26_τ_196 : τ_196.2.1 26 = τ28.2.1 26 := by rw [e_τ_196]; rfl
                  have g27_τ_196 : τ_196.2.1 27 = τ28.2.1 27 := by rw [e_τ_196]; rfl
                  have g28_τ_196 : τ_196.2.1 28 = τ28.2.1 28 := by rw [e_τ_196]; rfl
                  have g39_τ_196 : τ_196.2.1 39 = τ28.2.1 39 := by rw [e_τ_196]; rfl
                  have W3 : τ_196.1 3 = σ.1 3 := by first | exact w3_τ_196.trans W3 | omega
                  have W5 : τ_196.1 5 = σ.1 5 := by first | exact w5_τ_196.trans W5 | omega
                  have W6 : τ_196.1 6 = σ.1 6 := by first | exact w6_τ_196.trans W6 | omega
                  have W7 : τ_196.1 7 = σ.1 7 := by first | exact w7_τ_196.trans W7 | omega
                  have W8 : τ_196.1 8 = σ.1 8 := by first | exact w8_τ_196.trans W8 | omega
                  have W22 : τ_196.1 22 = σ.1 22 := by first | exact w22_τ_196.trans W22 | omega
                  have W25 : τ_196.1 25 = σ.1 25 := by first | exact w25_τ_196.trans W25 | omega
                  have W29 : τ_196.1 29 = σ.1 29 := by first | exact w29_τ_196.trans W29 | omega
                  have G18 : τ_196.2.1 18 = σ.2.1 18 := (g18_τ_196).trans G18
                  have G19 : τ_196.2.1 19 = σ.2.1 19 := (g19_τ_196).trans G19
                  have G20 : τ_196.2.1 20 = σ.2.1 20 := (g20_τ_196).trans G20
                  have G25 : τ_196.2.1 25 = σ.2.1 25 := (g25_τ_196).trans G25
                  have G39 : τ_196.2.1 39 = σ.2.1 39 := (g39_τ_196).trans G39
                  have y18_22_τ_196 : τ_196.2.1 18 (τ_196.1 22) = (τ28.2.1 18) (τ28.1 22) := by rw [g18_τ_196, w22_τ_196]
                  have y19_22_τ_196 : τ_196.2.1 19 (τ_196.1 22) = (τ28.2.1 19) (τ28.1 22) := by rw [g19_τ_196, w22_τ_196]
                  have y25_22_τ_196 : τ_196.2.1 25 (τ_196.1 22) = (τ28.2.1 25) (τ28.1 22) := by rw [g25_τ_196, w22_τ_196]
                  have y26_22_τ_196 : τ_196.2.1 26 (τ_196.1 22) = (τ28.2.1 26) (τ28.1 22) := by rw [g26_τ_196, w22_τ_196]
                  have y28_9_τ_196 : τ_196.2.1 28 (τ_196.1 9) = (τ28.2.1 28) (τ28.1 9) := by rw [g28_τ_196, w9_τ_196]
                  have Z4 : τ_196.2.1 25 (τ_196.1 22) + τ_196.2.1 26 (τ_196.1 22) = (τ_196.1 9) := by rw [show (τ_196.2.1 25 (τ_196.1 22) + τ_196.2.1 26 (τ_196.1 22) = (τ_196.1 9)) = (τ28.2.1 25 (τ28.1 22) + τ28.2.1 26 (τ28.1 22) = (τ28.1 9)) from by rw [w9_τ_196, w22_τ_196, g25_τ_196, g26_τ_196]]; exact Z4
                  have Y10 : ca (τ_196.2.1 28) ((τ_196.1 9)) ≤ ca (τ_196.2.1 28) (τ_196.2.1 25 (τ_196.1 22)) + (τ_196.1 29) := by rw [show (ca (τ_196.2.1 28) ((τ_196.1 9)) ≤ ca (τ_196.2.1 28) (τ_196.2.1 25 (τ_196.1 22)) + (τ_196.1 29)) = (ca (τ28.2.1 28) ((τ28.1 9)) ≤ ca (τ28.2.1 28) (τ28.2.1 25 (τ28.1 22)) + (τ28.1 29)) from by rw [w9_τ_196, w22_τ_196, w29_τ_196, g25_τ_196, g28_τ_196]]; exact Y10
                  have Y13 : j_eq (σ.2.1 25 (σ.1 22)) (σ.2.1 28) (τ_196.2.1 28) := by rw [show (j_eq (σ.2.1 25 (σ.1 22)) (σ.2.1 28) (τ_196.2.1 28)) = (j_eq (σ.2.1 25 (σ.1 22)) (σ.2.1 28) (τ28.2.1 28)) from by rw [g28_τ_196]]; exact Y13
                  have NSP : n_sp2 (τ_196.2.1 25 (τ_196.1 22)) (τ_196.1 9) (τ_196.1 22) (τ_196.2.1 27) (τ_196.2.1 28) := by rw [show (n_sp2 (τ_196.2.1 25 (τ_196.1 22)) (τ_196.1 9) (τ_196.1 22) (τ_196.2.1 27) (τ_196.2.1 28)) = (n_sp2 (τ28.2.1 25 (τ28.1 22)) (τ28.1 9) (τ28.1 22) (τ28.2.1 27) (τ28.2.1 28)) from by rw [w9_τ_196, w22_τ_196, g25_τ_196, g27_τ_196, g28_τ_196]]; exact NSP
                  have PK : ∀ k : Int, 0 ≤ k → k < (τ_196.1 25) → τ_196.2.1 39 k < (τ_196.1 22) := by rw [show (∀ k : Int, 0 ≤ k → k < (τ_196.1 25) → τ_196.2.1 39 k < (τ_196.1 22)) = (∀ k : Int, 0 ≤ k → k < (τ28.1 25) → τ28.2.1 39 k < (τ28.1 22)) from by rw [w22_τ_196, w25_τ_196, g39_τ_196]]; exact PK
                  have Y10b : (τ_196.1 29) + ca (τ_196.2.1 28) (τ_196.2.1 25 (τ_196.1 22)) ≤ ca (τ_196.2.1 28) (τ_196.1 9) := by rw [show ((τ_196.1 29) + ca (τ_196.2.1 28) (τ_196.2.1 25 (τ_196.1 22)) ≤ ca (τ_196.2.1 28) (τ_196.1 9)) = ((τ28.1 29) + ca (τ28.2.1 28) (τ28.2.1 25 (τ28.1 22)) ≤ ca (τ28.2.1 28) (τ28.1 9)) from by rw [w9_τ_196, w22_τ_196, w29_τ_196, g25_τ_196, g28_τ_196]]; exact Y10b
                  have HYN : ∀ k : Int, 0 ≤ k → k < τ_196.2.1 19 (τ_196.1 22) → τ_196.2.1 20 (τ_196.2.1 18 (τ_196.1 22) + k) < (τ_196.1 22) := by rw [show (∀ k : Int, 0 ≤ k → k < τ_196.2.1 19 (τ_196.1 22) → τ_196.2.1 20 (τ_196.2.1 18 (τ_196.1 22) + k) < (τ_196.1 22)) = (∀ k : Int, 0 ≤ k → k < τ28.2.1 19 (τ28.1 22) → τ28.2.1 20 (τ28.2.1 18 (τ28.1 22) + k) < (τ28.1 22)) from by rw [w22_τ_196, g18_τ_196, g19_τ_196, g20_τ_196]]; exact HYN
                  have A18 : ∀ j, 0 ≤ τ_196.2.1 18 j ∧ τ_196.2.1 18 j ≤ 90000 := fun j => hT.2 18 j
                  have A19 : ∀ j, 0 ≤ τ_196.2.1 19 j ∧ τ_196.2.1 19 j ≤ 60 := fun j => hT.2 19 j
                  have A20 : ∀ j, 0 ≤ τ_196.2.1 20 j ∧ τ_196.2.1 20 j ≤ 1499 := fun j => hT.2 20 j
                  have A25 : ∀ j, 0 ≤ τ_196.2.1 25 j ∧ τ_196.2.1 25 j ≤ 20000 := fun j => hT.2 25 j
                  have A26 : ∀ j, 0 ≤ τ_196.2.1 26 j ∧ τ_196.2.1 26 j ≤ 20000 := fun j => hT.2 26 j
                  have A27 : ∀ j, (-300) ≤ τ_196.2.1 27 j ∧ τ_196.2.1 27 j ≤ 1499 := fun j => hT.2 27 j
                  have A28 : ∀ j, 0 ≤ τ_196.2.1 28 j ∧ τ_196.2.1 28 j ≤ 1 := fun j => hT.2 28 j
                  have A39 : ∀ j, 0 ≤ τ_196.2.1 39 j ∧ τ_196.2.1 39 j ≤ 1499 := fun j => hT.2 39 j
                  have v3 : 0 ≤ τ_196.1 3 ∧ τ_196.1 3 ≤ 1000 := hT.1 3
                  have v5 : 0 ≤ τ_196.1 5 ∧ τ_196.1 5 ≤ 1500 := hT.1 5
                  have v6 : 0 ≤ τ_196.1 6 ∧ τ_196.1 6 ≤ 30000 := hT.1 6
                  have v7 : 0 ≤ τ_196.1 7 ∧ τ_196.1 7 ≤ 90000 := hT.1 7
                  have v8 : 0 ≤ τ_196.1 8 ∧ τ_196.1 8 ≤ 20000 := hT.1 8
                  have v9 : 0 ≤ τ_196.1 9 ∧ τ_196.1 9 ≤ 20000 := hT.1 9
                  have v20 : 0 ≤ τ_196.1 20 ∧ τ_196.1 20 ≤ 19 := hT.1 20
                  have v22 : 0 ≤ τ_196.1 22 ∧ τ_196.1 22 ≤ 1499 := hT.1 22
                  have v25 : 0 ≤ τ_196.1 25 ∧ τ_196.1 25 ≤ 300 := hT.1 25
                  have v26 : 0 ≤ τ_196.1 26 ∧ τ_196.1 26 ≤ 5000010 := hT.1 26
                  have v28 : 0 ≤ τ_196.1 28 ∧ τ_196.1 28 ≤ 1 := hT.1 28
                  have v29 : 0 ≤ τ_196.1 29 ∧ τ_196.1 29 ≤ 300 := hT.1 29
                  have a18_22 : 0 ≤ τ_196.2.1 18 (τ_196.1 22) ∧ τ_196.2.1 18 (τ_196.1 22) ≤ 90000 := hT.2 18 _
                  have a19_22 : 0 ≤ τ_196.2.1 19 (τ_196.1 22) ∧ τ_196.2.1 19 (τ_196.1 22) ≤ 60 := hT.2 19 _
                  have a25_22 : 0 ≤ τ_196.2.1 25 (τ_196.1 22) ∧ τ_196.2.1 25 (τ_196.1 22) ≤ 20000 := hT.2 25 _
                  have a26_22 : 0 ≤ τ_196.2.1 26 (τ_196.1 22) ∧ τ_196.2.1 26 (τ_196.1 22) ≤ 20000 := hT.2 26 _
                  have a28_9 : 0 ≤ τ_196.2.1 28 (τ_196.1 9) ∧ τ_196.2.1 28 (τ_196.1 9) ≤ 1 := hT.2 28 _
                  have av9 : σ.1 9 ≤ τ_196.1 9 := ag.1 9 (by decide)
                  refine h196 _ ?_
                  replace ag := ag_v (i := 26) (x := 0) ag (Or.inl rfl)
                  replace hT := mT_v (i := 26) hT (show (0 : Int) ≤ 0 ∧ 0 ≤ 5000010 from by (first | omega | (simp only [st_s] <;> omega) | assumption | omega | fail))
                  replace ag := ag_v (i := 27) (x := 0) ag (Or.inl rfl)
                  replace hT := mT_v (i := 27) hT (show (0 : Int) ≤ 0 ∧ 0 ≤ 1 from by (first | omega | (simp only [st_s] <;> omega) | assumption | omega | fail))
                  exact ⟨hT, (show ¬ (σ.1 20) = 0 → (τ_196.1 20) = (σ.1 20) from by (first | omega | (simp only [st_s] <;> omega) | assumption | omega | fail)), (show τ_196.2.1 25 (τ_196.1 22) + τ_196.2.1 26 (τ_196.1 22) = (τ_196.1 9) from Z4), (show ca (τ_196.2.1 28) ((τ_196.1 9)) ≤ ca (τ_196.2.1 28) (τ_196.2.1 25 (τ_196.1 22)) + (τ_196.1 29) from Y10), (show ¬ (τ_196.1 28) = 0 → τ_196.2.1 25 (τ_196.1 22) < (τ_196.1 9) ∧ τ_196.2.1 28 ((τ_196.1 9) - 1) = 0 from by (first | assumption | omega | (intro _; refine ⟨by omega, ?_⟩; first | exact hz | (rw [e_τ_196]; exact hz)) | fail)), (show j_eq (σ.2.1 25 (σ.1 22)) (σ.2.1 28) (τ_196.2.1 28) from Y13), (show ((0 : Int)) = 0 from by (first | omega | (simp only [st_s] <;> omega) | assumption | omega | fail)), ag, (show n_sp2 (τ_196.2.1 25 (τ_196.1 22)) (τ_196.1 9) (τ_196.1 22) (τ_196.2.1 27) (τ_196.2.1 28) from NSP), (show (τ_196.1 29) + ca (τ_196.2.1 28) (τ_196.2.1 25 (τ_196.1 22)) ≤ ca (τ_196.2.1 28) (τ_196.1 9) from Y10b), (show ¬ (τ_196.1 28) = 0 → 0 ≤ τ_196.2.1 27 ((τ_196.1 9) - 1) from by (first | assumption | (intro z; exfalso; omega) | (intro _; first | (rw [st27]; omega) | (rw [e_τ_196]; show 0 ≤ τ28.2.1 27 (τ28.1 9 - 1); rw [st27]; omega)) | fail))⟩
          ·
            refine ⟨(⟨by (first | omega | (simp only [st_s] <;> omega) | assumption | omega | fail), by (first | omega | (simp only [st_s] <;> omega) | assumption | omega | fail)⟩ : rg ((-1) - (((n1 - 1) - x2) - σ.1 25))), ?_⟩
            refine h162 _ _ _ _ ?_
            have kn : ((-1) - (((n1 - 1) - x2) - σ.1 25)) < σ.1 22 := by first | (rw [e_x13]; exact PK _ (by omega) (by omega)) | (rw [e_x17, e_x15]; exact HYN _ (by omega) (by omega)) | omega
            refine ⟨_, K_X13_addStep hT (show -300 ≤ ((-1) - (((n1 - 1) - x2) - σ.1 25)) from by (first | omega | (simp only [st_s] <;> omega) | assumption | omega | fail)) (show ((-1) - (((n1 - 1) - x2) - σ.1 25)) ≤ 1499 from by (first | omega | (simp only [st_s] <;> omega) | assumption | omega | fail)) (show 0 ≤ n2 from by (first | omega | (simp only [st_s] <;> omega) | assumption | omega | fail)) (show n2 ≤ 60000 from by (first | omega | (simp only [st_s] <;> omega) | assumption | omega | fail)) (show (σ.1 9) < 20000 from by (first | omega | (simp only [st_s] <;> omega) | assumption | omega | fail)) (show σ.2.1 26 (σ.1 22) < 20000 from by (first | omega | (simp only [st_s] <;> omega) | assumption | omega | fail)) (show (σ.1 22) = (σ.1 5) from by (first | omega | (simp only [st_s] <;> omega) | assumption | omega | fail)), ?_⟩
            intro τ28 hn_τ28 hf_τ28 hq
            obtain ⟨hT, q26_1, q26_2, q26_3, q26_4, q26_5, q26_6, q26_7⟩ := hq
            replace q26_1 : (τ28.1 9) = (σ.1 9) + 1 := q26_1
            replace q26_2 : τ28.2.1 26 (τ28.1 22) = σ.2.1 26 (σ.1 22) + 1 := q26_2
            replace q26_3 : τ28.2.1 27 = st (σ.2.1 27) (σ.1 9) ((-1) - (((n1 - 1) - x2) - σ.1 25)) := q26_3
            replace q26_4 : j_eq ((σ.1 9)) (σ.2.1 28) (τ28.2.1 28) := q26_4
            replace q26_5 : ca (τ28.2.1 28) ((τ28.1 9)) = ca (σ.2.1 28) ((σ.1 9)) := q26_5
            replace q26_6 : τ28.2.1 28 (σ.1 9) = 0 := q26_6
            replace q26_7 : m_ag σ τ28 := q26_7
            replace ag : m_ag σ τ28 := ag_t ag q26_7 rfl
            have w3_τ28 : τ28.1 3 = σ.1 3 := hf_τ28.1 3 (by decide)
            have w5_τ28 : τ28.1 5 = σ.1 5 := hf_τ28.1 5 (by decide)
            have w6_τ28 : τ28.1 6 = σ.1 6 := hf_τ28.1 6 (by decide)
            have w7_τ28 : τ28.1 7 = σ.1 7 := hf_τ28.1 7 (by decide)
            have w8_τ28 : τ28.1 8 = σ.1 8 := hf_τ28.1 8 (by decide)
            have w20_τ28 : τ28.1 20 = σ.1 20 := hf_τ28.1 20 (by decide)
            have w22_τ28 : τ28.1 22 = σ.1 22 := hf_τ28.1 22 (by decide)
            have w25_τ28 : τ28.1 25 = σ.1 25 := hf_τ28.1 25 (by decide)
            have w26_τ28 : τ28.1 26 = σ.1 26 := hf_τ28.1 26 (by decide)
            have w28_τ28 : τ28.1 28 = σ.1 28 := hf_τ28.1 28 (by decide)
            have w29_τ28 : τ28.1 29 = σ.1 29 := hf_τ28.1 29 (by decide)
            have g18_τ28 : τ28.2.1 18 = σ.2.1 18 := hf_τ28.2.1 18 (by decide)
            have g19_τ28 : τ28.2.1 19 = σ.2.1 19 := hf_τ28.2.1 19 (by decide)
            have g20_τ28 : τ28.2.1 20 = σ.2.1 20 := hf_τ28.2.1 20 (by decide)
            have g25_τ28 : τ28.2.1 25 = σ.2.1 25 := hf_τ28.2.1 25 (by decide)
            have g39_τ28 : τ28.2.1 39 = σ.2.1 39 := hf_τ28.2.1 39 (by decide)
            have W3 : τ28.1 3 = σ.1 3 := by first | exact w3_τ28.trans W3 | omega
            have W5 : τ28.1 5 = σ.1 5 := by first | exact w5_τ28.trans W5 | omega
            have W6 : τ28.1 6 = σ.1 6 := by first | exact w6_τ28.trans W6 | omega
            have W7 : τ28.1 7 = σ.1 7 := by first | exact w7_τ28.trans W7 | omega
            have W8 : τ28.1 8 = σ.1 8 := by first | exact w8_τ28.trans W8 | omega
            have W22 : τ28.1 22 = σ.1 22 := by first | exact w22_τ28.trans W22 | omega
            have W25 : τ28.1 25 = σ.1 25 := by first | exact w25_τ28.trans W25 | omega
            have W29 : τ28.1 29 = σ.1 29 := by first | exact w29_τ28.trans W29 | omega
            have G18 : τ28.2.1 18 = σ.2.1 18 := (g18_τ28).trans G18
            have G19 : τ28.2.1 19 = σ.2.1 19 := (g19_τ28).trans G19
            have G20 : τ28.2.1 20 = σ.2.1 20 := (g20_τ28).trans G20
            have G25 : τ28.2.1 25 = σ.2.1 25 := (g25_τ28).trans G25
            have G39 : τ28.2.1 39 = σ.2.1 39 := (g39_τ28).trans G39
            have y18_22_τ28 : τ28.2.1 18 (τ28.1 22) = (σ.2.1 18) (σ.1 22) := by rw [g18_τ28, w22_τ28]
            have y19_22_τ28 : τ28.2.1 19 (τ28.1 22) = (σ.2.1 19) (σ.1 22) := by rw [g19_τ28, w22_τ28]
            have y25_22_τ28 : τ28.2.1 25 (τ28.1 22) = (σ.2.1 25) (σ.1 22) := by rw [g25_τ28, w22_τ28]
            have PK : ∀ k : Int, 0 ≤ k → k < (τ28.1 25) → τ28.2.1 39 k < (τ28.1 22) := by rw [show (∀ k : Int, 0 ≤ k → k < (τ28.1 25) → τ28.2.1 39 k < (τ28.1 22)) = (∀ k : Int, 0 ≤ k → k < (σ.1 25) → σ.2.1 39 k < (σ.1 22)) from by rw [w22_τ28, w25_τ28, g39_τ28]]; exact PK
            have HYN : ∀ k : Int, 0 ≤ k → k < τ28.2.1 19 (τ28.1 22) → τ28.2.1 20 (τ28.2.1 18 (τ28.1 22) + k) < (τ28.1 22) := by rw [show (∀ k : Int, 0 ≤ k → k < τ28.2.1 19 (τ28.1 22) → τ28.2.1 20 (τ28.2.1 18 (τ28.1 22) + k) < (τ28.1 22)) = (∀ k : Int, 0 ≤ k → k < σ.2.1 19 (σ.1 22) → σ.2.1 20 (σ.2.1 18 (σ.1 22) + k) < (σ.1 22)) from by rw [w22_τ28, g18_τ28, g19_τ28, g20_τ28]]; exact HYN
            have A18 : ∀ j, 0 ≤ τ28.2.1 18 j ∧ τ28.2.1 18 j ≤ 90000 := fun j => hT.2 18 j
            have A19 : ∀ j, 0 ≤ τ28.2.1 19 j ∧ τ28.2.1 19 j ≤ 60 := fun j => hT.2 19 j
            have A20 : ∀ j, 0 ≤ τ28.2.1 20 j ∧ τ28.2.1 20 j ≤ 1499 := fun j => hT.2 20 j
            have A25 : ∀ j, 0 ≤ τ28.2.1 25 j ∧ τ28.2.1 25 j ≤ 20000 := fun j => hT.2 25 j
            have A26 : ∀ j, 0 ≤ τ28.2.1 26 j ∧ τ28.2.1 26 j ≤ 20000 := fun j => hT.2 26 j
            have A27 : ∀ j, (-300) ≤ τ28.2.1 27 j ∧ τ28.2.1 27 j ≤ 1499 := fun j => hT.2 27 j
            have A28 : ∀ j, 0 ≤ τ28.2.1 28 j ∧ τ28.2.1 28 j ≤ 1 := fun j => hT.2 28 j
            have A39 : ∀ j, 0 ≤ τ28.2.1 39 j ∧ τ28.2.1 39 j ≤ 1499 := fun j => hT.2 39 j
            have v3 : 0 ≤ τ28.1 3 ∧ τ28.1 3 ≤ 1000 := hT.1 3
            have v5 : 0 ≤ τ28.1 5 ∧ τ28.1 5 ≤ 1500 := hT.1 5
            have v6 : 0 ≤ τ28.1 6 ∧ τ28.1 6 ≤ 30000 := hT.1 6
            have v7 : 0 ≤ τ28.1 7 ∧ τ28.1 7 ≤ 90000 := hT.1 7
            have v8 : 0 ≤ τ28.1 8 ∧ τ28.1 8 ≤ 20000 := hT.1 8
            have v9 : 0 ≤ τ28.1 9 ∧ τ28.1 9 ≤ 20000 := hT.1 9
            have v20 : 0 ≤ τ28.1 20 ∧ τ28.1 20 ≤ 19 := hT.1 20
            have v22 : 0 ≤ τ28.1 22 ∧ τ28.1 22 ≤ 1499 := hT.1 22
            have v25 : 0 ≤ τ28.1 25 ∧ τ28.1 25 ≤ 300 := hT.1 25
            have v26 : 0 ≤ τ28.1 26 ∧ τ28.1 26 ≤ 5000010 := hT.1 26
            have v28 : 0 ≤ τ28.1 28 ∧ τ28.1 28 ≤ 1 := hT.1 28
            have v29 : 0 ≤ τ28.1 29 ∧ τ28.1 29 ≤ 300 := hT.1 29
            have a18_22 : 0 ≤ τ28.2.1 18 (τ28.1 22) ∧ τ28.2.1 18 (τ28.1 22) ≤ 90000 := hT.2 18 _
            have a19_22 : 0 ≤ τ28.2.1 19 (τ28.1 22) ∧ τ28.2.1 19 (τ28.1 22) ≤ 60 := hT.2 19 _
            have a25_22 : 0 ≤ τ28.2.1 25 (τ28.1 22) ∧ τ28.2.1 25 (τ28.1 22) ≤ 20000 := hT.2 25 _
            have a26_22 : 0 ≤ τ28.2.1 26 (τ28.1 22) ∧ τ28.2.1 26 (τ28.1 22) ≤ 20000 := hT.2 26 _
            have a28_9 : 0 ≤ τ28.2.1 28 (τ28.1 9) ∧ τ28.2.1 28 (τ28.1 9) ≤ 1 := hT.2 28 _
            have av9 : σ.1 9 ≤ τ28.1 9 := ag.1 9 (by decide)
            have hz : τ28.2.1 28 (τ28.1 9 - 1) = 0 := by rw [show τ28.1 9 - 1 = σ.1 9 from by omega]; exact q26_6
            have Z4 : τ28.2.1 25 (τ28.1 22) + τ28.2.1 26 (τ28.1 22) = τ28.1 9 := by omega
            have ce := ca_eq q26_4 (n := σ.2.1 25 (σ.1 22)) (by omega)
            have Y10 : ca (τ28.2.1 28) (τ28.1 9) ≤ ca (τ28.2.1 28) (τ28.2.1 25 (τ28.1 22)) + τ28.1 29 := by rw [y25_22_τ28, ce, q26_5]; omega
            have Y12 : ¬ τ28.1 28 = 0 → τ28.2.1 25 (τ28.1 22) < τ28.1 9 ∧ τ28.2.1 28 (τ28.1 9 - 1) = 0 := fun _ => ⟨by omega, hz⟩
            have Y13 := j_eqw q26_4 (show σ.2.1 25 (σ.1 22) ≤ σ.1 9 from by omega)
            have NSP : n_sp2 (τ28.2.1 25 (τ28.1 22)) (τ28.1 9) (τ28.1 22) (τ28.2.1 27) (τ28.2.1 28) := by (rw [show τ28.2.1 25 (τ28.1 22) = σ.2.1 25 (σ.1 22) from by omega, show τ28.1 9 = σ.1 9 + 1 from by omega, show τ28.1 22 = σ.1 22 from by omega]; exact n_sp2_a p9 q26_3 q26_4 (by omega) (by omega) (fun z => by omega) (fun y => absurd q26_6 y))
            have st27 : τ28.2.1 27 (τ28.1 9 - 1) = ((-1) - (((n1 - 1) - x2) - σ.1 25)) := by (rw [q26_3, show τ28.1 9 - 1 = σ.1 9 from by omega, st_s])
            have Y10b : τ28.1 29 + ca (τ28.2.1 28) (τ28.2.1 25 (τ28.1 22)) ≤ ca (τ28.2.1 28) (τ28.1 9) := by (rw [y25_22_τ28, ce, q26_5]; have := p10; omega)
            refine ⟨fun c29 => ?_, fun c29 => ?_⟩
            ·
              refine h193 _ _ ?_
              refine ⟨(show 0 ≤ 0 ∧ 0 ≤ 1 from by (first | omega | (simp only [st_s] <;> omega) | assumption | omega | fail)), ?_⟩
              replace ag := ag_v (i := 28) (x := 0) ag (Or.inl rfl)
              replace hT := mT_v (i := 28) hT (show (0 : Int) ≤ 0 ∧ 0 ≤ 1 from by (first | omega | (simp only [st_s] <;> omega) | assumption | omega | fail))
              obtain ⟨τ_196, e_τ_196⟩ : ∃ z : S0, z = s_v τ28 28 0 := ⟨_, rfl⟩
              rw [← e_τ_196]
              replace hT : m_T τ_196 := by rw [e_τ_196]; exact hT
              replace ag : m_ag σ τ_196 := by rw [e_τ_196]; exact ag
              have w3_τ_196 : τ_196.1 3 = τ28.1 3 := by rw [e_τ_196]; rfl
              have w5_τ_196 : τ_196.1 5 = τ28.1 5 := by rw [e_τ_196]; rfl
              have w6_τ_196 : τ_196.1 6 = τ28.1 6 := by rw [e_τ_196]; rfl
              have w7_τ_196 : τ_196.1 7 = τ28.1 7 := by rw [e_τ_196]; rfl
              have w8_τ_196 : τ_196.1 8 = τ28.1 8 := by rw [e_τ_196]; rfl
              have w9_τ_196 : τ_196.1 9 = τ28.1 9 := by rw [e_τ_196]; rfl
              have w20_τ_196 : τ_196.1 20 = τ28.1 20 := by rw [e_τ_196]; rfl
              have w22_τ_196 : τ_196.1 22 = τ28.1 22 := by rw [e_τ_196]; rfl
              have w25_τ_196 : τ_196.1 25 = τ28.1 25 := by rw [e_τ_196]; rfl
              have w26_τ_196 : τ_196.1 26 = τ28.1 26 := by rw [e_τ_196]; rfl
              have w28_τ_196 : τ_196.1 28 = 0 := by rw [e_τ_196]; rfl
              have w29_τ_196 : τ_196.1 29 = τ28.1 29 := by rw [e_τ_196]; rfl
              have g18_τ_196 : τ_196.2.1 18 = τ28.2.1 18 := by rw [e_τ_196]; rfl
              have g19_τ_196 : τ_196.2.1 19 = τ28.2.1 19 := by rw [e_τ_196]; rfl
              have g20_τ_196 : τ_196.2.1 20 = τ28.2.1 20 := by rw [e_τ_196]; rfl
              have g25_τ_196 : τ_196.2.1 25 = τ28.2.1 25 := by rw [e_τ_196]; rfl
              have g26_τ_196 : τ_196.2.1 26 = τ28.2.1 26 := by rw [e_τ_196]; rfl
              have g27_τ_196 : τ_196.2.1 27 = τ28.2.1 27 := by rw [e_τ_196]; rfl
              have g28_τ_196 : τ_196.2.1 28 = τ28.2.1 28 := by rw [e_τ_196]; rfl
              have g39_τ_196 : τ_196.2.1 39 = τ28.2.1 39 := by rw [e_τ_196]; rfl
              have W3 : τ_196.1 3 = σ.1 3 := by first | exact w3_τ_196.trans W3 | omega
              have W5 : τ_196.1 5 = σ.1 5 := by first | exact w5_τ_196.trans W5 | omega
              have W6 : τ_196.1 6 = σ.1 6 := by first | exact w6_τ_196.trans W6 | omega
              have W7 : τ_196.1 7 = σ.1 7 := by first | exact w7_τ_196.trans W7 | omega
              have W8 : τ_196.1 8 = σ.1 8 := by first | exact w8_τ_196.trans W8 | omega
              have W22 : τ_196.1 22 = σ.1 22 := by first | exact w22_τ_196.trans W22 | omega
              have W25 : τ_196.1 25 = σ.1 25 := by first | exact w25_τ_196.trans W25 | omega
              have W29 : τ_196.1 29 = σ.1 29 := by first | exact w29_τ_196.trans W29 | omega
              have G18 : τ_196.2.1 18 = σ.2.1 18 := (g18_τ_196).trans G18
              have G19 : τ_196.2.1 19 = σ.2.1 19 := (g19_τ_196).trans G19
              have G20 : τ_196.2.1 20 = σ.2.1 20 := (g20_τ_196).trans G20
              have G25 : τ_196.2.1 25 = σ.2.1 25 := (g25_τ_196).trans G25
              have G39 : τ_196.2.1 39 = σ.2.1 39 := (g39_τ_196).trans G39
              have y18_22_τ_196 : τ_196.2.1 18 (τ_196.1 22) = (τ28.2.1 18) (τ28.1 22) := by rw [g18_τ_196, w22_τ_196]
              have y19_22_τ_196 : τ_196.2.1 19 (τ_196.1 22) = (τ28.2.1 19) (τ28.1 22) := by rw [g19_τ_196, w22_τ_196]
              have y25_22_τ_196 : τ_196.2.1 25 (τ_196.1 22) = (τ28.2.1 25) (τ28.1 22) := by rw [g25_τ_196, w22_τ_196]
              have y26_22_τ_196 : τ_196.2.1 26 (τ_196.1 22) = (τ28.2.1 26) (τ28.1 22) := by rw [g26_τ_196, w22_τ_196]
              have y28_9_τ_196 : τ_196.2.1 28 (τ_196.1 9) = (τ28.2.1 28) (τ28.1 9) := by rw [g28_τ_196, w9_τ_196]
              have Z4 : τ_196.2.1 25 (τ_196.1 22) + τ_196.2.1 26 (τ_196.1 22) = (τ_196.1 9) := by rw [show (τ_196.2.1 25 (τ_196.1 22) + τ_196.2.1 26 (τ_196.1 22) = (τ_196.1 9)) = (τ28.2.1 25 (τ28.1 22) + τ28.2.1 26 (τ28.1 22) = (τ28.1 9)) from by rw [w9_τ_196, w22_τ_196, g25_τ_196, g26_τ_196]]; exact Z4
              have Y10 : ca (τ_196.2.1 28) ((τ_196.1 9)) ≤ ca (τ_196.2.1 28) (τ_196.2.1 25 (τ_196.1 22)) + (τ_196.1 29) := by rw [show (ca (τ_196.2.1 28) ((τ_196.1 9)) ≤ ca (τ_196.2.1 28) (τ_196.2.1 25 (τ_196.1 22)) + (τ_196.1 29)) = (ca (τ28.2.1 28) ((τ28.1 9)) ≤ ca (τ28.2.1 28) (τ28.2.1 25 (τ28.1 22)) + (τ28.1 29)) from by rw [w9_τ_196, w22_τ_196, w29_τ_196, g25_τ_196, g28_τ_196]]; exact Y10
              have Y13 : j_eq (σ.2.1 25 (σ.1 22)) (σ.2.1 28) (τ_196.2.1 28) := by rw [show (j_eq (σ.2.1 25 (σ.1 22)) (σ.2.1 28) (τ_196.2.1 28)) = (j_eq (σ.2.1 25 (σ.1 22)) (σ.2.1 28) (τ28.2.1 28)) from by rw [g28_τ_196]]; exact Y13
              have NSP : n_sp2 (τ_196.2.1 25 (τ_196.1 22)) (τ_196.1 9) (τ_196.1 22) (τ_196.2.1 27) (τ_196.2.1 28) := by rw [show (n_sp2 (τ_196.2.1 25 (τ_196.1 22)) (τ_196.1 9) (τ_196.1 22) (τ_196.2.1 27) (τ_196.2.1 28)) = (n_sp2 (τ28.2.1 25 (τ28.1 22)) (τ28.1 9) (τ28.1 22) (τ28.2.1 27) (τ28.2.1 28)) from by rw [w9_τ_196, w22_τ_196, g25_τ_196, g27_τ_196, g28_τ_196]]; exact NSP
              have PK : ∀ k : Int, 0 ≤ k → k < (τ_196.1 25) → τ_196.2.1 39 k < (τ_196.1 22) := by rw [show (∀ k : Int, 0 ≤ k → k < (τ_196.1 25) → τ_196.2.1 39 k < (τ_196.1 22)) = (∀ k : Int, 0 ≤ k → k < (τ28.1 25) → τ28.2.1 39 k < (τ28.1 22)) from by rw [w22_τ_196, w25_τ_196, g39_τ_196]]; exact PK
              have Y10b : (τ_196.1 29) + ca (τ_196.2.1 28) (τ_196.2.1 25 (τ_196.1 22)) ≤ ca (τ_196.2.1 28) (τ_196.1 9) := by rw [show ((τ_196.1 29) + ca (τ_196.2.1 28) (τ_196.2.1 25 (τ_196.1 22)) ≤ ca (τ_196.2.1 28) (τ_196.1 9)) = ((τ28.1 29) + ca (τ28.2.1 28) (τ28.2.1 25 (τ28.1 22)) ≤ ca (τ28.2.1 28) (τ28.1 9)) from by rw [w9_τ_196, w22_τ_196, w29_τ_196, g25_τ_196, g28_τ_196]]; exact Y10b
              have HYN : ∀ k : Int, 0 ≤ k → k < τ_196.2.1 19 (τ_196.1 22) → τ_196.2.1 20 (τ_196.2.1 18 (τ_196.1 22) + k) < (τ_196.1 22) := by rw [show (∀ k : Int, 0 ≤ k → k < τ_196.2.1 19 (τ_196.1 22) → τ_196.2.1 20 (τ_196.2.1 18 (τ_196.1 22) + k) < (τ_196.1 22)) = (∀ k : Int, 0 ≤ k → k < τ28.2.1 19 (τ28.1 22) → τ28.2.1 20 (τ28.2.1 18 (τ28.1 22) + k) < (τ28.1 22)) from by rw [w22_τ_196, g18_τ_196, g19_τ_196, g20_τ_196]]; exact HYN
              have A18 : ∀ j, 0 ≤ τ_196.2.1 18 j ∧ τ_196.2.1 18 j ≤ 90000 := fun j => hT.2 18 j
              have A19 : ∀ j, 0 ≤ τ_196.2.1 19 j ∧ τ_196.2.1 19 j ≤ 60 := fun j => hT.2 19 j
              have A20 : ∀ j, 0 ≤ τ_196.2.1 20 j ∧ τ_196.2.1 20 j ≤ 1499 := fun j => hT.2 20 j
              have A25 : ∀ j, 0 ≤ τ_196.2.1 25 j ∧ τ_196.2.1 25 j ≤ 20000 := fun j => hT.2 25 j
              have A26 : ∀ j, 0 ≤ τ_196.2.1 26 j ∧ τ_196.2.1 26 j ≤ 20000 := fun j => hT.2 26 j
              have A27 : ∀ j, (-300) ≤ τ_196.2.1 27 j ∧ τ_196.2.1 27 j ≤ 1499 := fun j => hT.2 27 j
              have A28 : ∀ j, 0 ≤ τ_196.2.1 28 j ∧ τ_196.2.1 28 j ≤ 1 := fun j => hT.2 28 j
              have A39 : ∀ j, 0 ≤ τ_196.2.1 39 j ∧ τ_196.2.1 39 j ≤ 1499 := fun j => hT.2 39 j
              have v3 : 0 ≤ τ_196.1 3 ∧ τ_196.1 3 ≤ 1000 := hT.1 3
              have v5 : 0 ≤ τ_196.1 5 ∧ τ_196.1 5 ≤ 1500 := hT.1 5
              have v6 : 0 ≤ τ_196.1 6 ∧ τ_196.1 6 ≤ 30000 := hT.1 6
              have v7 : 0 ≤ τ_196.1 7 ∧ τ_196.1 7 ≤ 90000 := hT.1 7
              have v8 : 0 ≤ τ_196.1 8 ∧ τ_196.1 8 ≤ 20000 := hT.1 8
              have v9 : 0 ≤ τ_196.1 9 ∧ τ_196.1 9 ≤ 20000 := hT.1 9
              have v20 : 0 ≤ τ_196.1 20 ∧ τ_196.1 20 ≤ 19 := hT.1 20
              have v22 : 0 ≤ τ_196.1 22 ∧ τ_196.1 22 ≤ 1499 := hT.1 22
              have v25 : 0 ≤ τ_196.1 25 ∧ τ_196.1 25 ≤ 300 := hT.1 25
              have v26 : 0 ≤ τ_196.1 26 ∧ τ_196.1 26 ≤ 5000010 := hT.1 26
              have v28 : 0 ≤ τ_196.1 28 ∧ τ_196.1 28 ≤ 1 := hT.1 28
              have v29 : 0 ≤ τ_196.1 29 ∧ τ_196.1 29 ≤ 300 := hT.1 29
              have a18_22 : 0 ≤ τ_196.2.1 18 (τ_196.1 22) ∧ τ_196.2.1 18 (τ_196.1 22) ≤ 90000 := hT.2 18 _
              have a19_22 : 0 ≤ τ_196.2.1 19 (τ_196.1 22) ∧ τ_196.2.1 19 (τ_196.1 22) ≤ 60 := hT.2 19 _
              have a25_22 : 0 ≤ τ_196.2.1 25 (τ_196.1 22) ∧ τ_196.2.1 25 (τ_196.1 22) ≤ 20000 := hT.2 25 _
              have a26_22 : 0 ≤ τ_196.2.1 26 (τ_196.1 22) ∧ τ_196.2.1 26 (τ_196.1 22) ≤ 20000 := hT.2 26 _
              have a28_9 : 0 ≤ τ_196.2.1 28 (τ_196.1 9) ∧ τ_196.2.1 28 (τ_196.1 9) ≤ 1 := hT.2 28 _
              have av9 : σ.1 9 ≤ τ_196.1 9 := ag.1 9 (by decide)
              refine h196 _ ?_
              replace ag := ag_v (i := 26) (x := 0) ag (Or.inl rfl)
              replace hT := mT_v (i := 26) hT (show (0 : Int) ≤ 0 ∧ 0 ≤ 5000010 from by (first | omega | (simp only [st_s] <;> omega) | assumption | omega | fail))
              replace ag := ag_v (i := 27) (x := 0) ag (Or.inl rfl)
              replace hT := mT_v (i := 27) hT (show (0 : Int) ≤ 0 ∧ 0 ≤ 1 from by (first | omega | (simp only [st_s] <;> omega) | assumption | omega | fail))
              exact ⟨hT, (show ¬ (σ.1 20) = 0 → (τ_196.1 20) = (σ.1 20) from by (first | omega | (simp only [st_s] <;> omega) | assumption | omega | fail)), (show τ_196.2.1 25 (τ_196.1 22) + τ_196.2.1 26 (τ_196.1 22) = (τ_196.1 9) from Z4), (show ca (τ_196.2.1 28) ((τ_196.1 9)) ≤ ca (τ_196.2.1 28) (τ_196.2.1 25 (τ_196.1 22)) + (τ_196.1 29) from Y10), (show ¬ (τ_196.1 28) = 0 → τ_196.2.1 25 (τ_196.1 22) < (τ_196.1 9) ∧ τ_196.2.1 28 ((τ_196.1 9) - 1) = 0 from by (first | assumption | omega | (intro _; refine ⟨by omega, ?_⟩; first | exact hz | (rw [e_τ_196]; exact hz)) | fail)), (show j_eq (σ.2.1 25 (σ.1 22)) (σ.2.1 28) (τ_196.2.1 28) from Y13), (show ((0 : Int)) = 0 from by (first | omega | (simp only [st_s] <;> omega) | assumption | omega | fail)), ag, (show n_sp2 (τ_196.2.1 25 (τ_196.1 22)) (τ_196.1 9) (τ_196.1 22) (τ_196.2.1 27) (τ_196.2.1 28) from NSP), (show (τ_196.1 29) + ca (τ_196.2.1 28) (τ_196.2.1 25 (τ_196.1 22)) ≤ ca (τ_196.2.1 28) (τ_196.1 9) from Y10b), (show ¬ (τ_196.1 28) = 0 → 0 ≤ τ_196.2.1 27 ((τ_196.1 9) - 1) from by (first | assumption | (intro z; exfalso; omega) | (intro _; first | (rw [st27]; omega) | (rw [e_τ_196]; show 0 ≤ τ28.2.1 27 (τ28.1 9 - 1); rw [st27]; omega)) | fail))⟩
            ·
              refine ⟨(show 0 ≤ ((-1) - (((n1 - 1) - x2) - σ.1 25)) ∧ ((-1) - (((n1 - 1) - x2) - σ.1 25)) < 1501 from by (first | omega | (simp only [st_s] <;> omega) | assumption | omega | fail)), ?_⟩
              intro x31 r_x31 e_x31
              have b_x31 : 0 ≤ x31 ∧ x31 ≤ 4 := by rw [e_x31]; exact hT.2 13 _
              refine ⟨fun c32 => ?_, fun c32 => ?_⟩
              ·
                refine h193 _ _ ?_
                refine ⟨(show 0 ≤ 0 ∧ 0 ≤ 1 from by (first | omega | (simp only [st_s] <;> omega) | assumption | omega | fail)), ?_⟩
                replace ag := ag_v (i := 28) (x := 0) ag (Or.inl rfl)
                replace hT := mT_v (i := 28) hT (show (0 : Int) ≤ 0 ∧ 0 ≤ 1 from by (first | omega | (simp only [st_s] <;> omega) | assumption | omega | fail))
                obtain ⟨τ_196, e_τ_196⟩ : ∃ z : S0, z = s_v τ28 28 0 := ⟨_, rfl⟩
                rw [← e_τ_196]
                replace hT : m_T τ_196 := by rw [e_τ_196]; exact hT
                replace ag : m_ag σ τ_196 := by rw [e_τ_196]; exact ag
                have w3_τ_196 : τ_196.1 3 = τ28.1 3 := by rw [e_τ_196]; rfl
                have w5_τ_196 : τ_196.1 5 = τ28.1 5 := by rw [e_τ_196]; rfl
                have w6_τ_196 : τ_196.1 6 = τ28.1 6 := by rw [e_τ_196]; rfl
                have w7_τ_196 : τ_196.1 7 = τ28.1 7 := by rw [e_τ_196]; rfl
                have w8_τ_196 : τ_196.1 8 = τ28.1 8 := by rw [e_τ_196]; rfl
                have w9_τ_196 : τ_196.1 9 = τ28.1 9 := by rw [e_τ_196]; rfl
                have w20_τ_196 : τ_196.1 20 = τ28.1 20 := by rw [e_τ_196]; rfl
                have w22_τ_196 : τ_196.1 22 = τ28.1 22 := by rw [e_τ_196]; rfl
                have w25_τ_196 : τ_196.1 25 = τ28.1 25 := by rw [e_τ_196]; rfl
                have w26_τ_196 : τ_196.1 26 = τ28.1 26 := by rw [e_τ_196]; rfl
                have w28_τ_196 : τ_196.1 28 = 0 := by rw [e_τ_196]; rfl
                have w29_τ_196 : τ_196.1 29 = τ28.1 29 := by rw [e_τ_196]; rfl
                have g18_τ_196 : τ_196.2.1 18 = τ28.2.1 18 := by rw [e_τ_196]; rfl
                have g19_τ_196 : τ_196.2.1 19 = τ28.2.1 19 := by rw [e_τ_196]; rfl
                have g20_τ_196 : τ_196.2.1 20 = τ28.2.1 20 := by rw [e_τ_196]; rfl
                have g25_τ_196 : τ_196.2.1 25 = τ28.2.1 25 := by rw [e_τ_196]; rfl
                have g26_τ_196 : τ_196.2.1 26 = τ28.2.1 26 := by rw [e_τ_196]; rfl
                have g27_τ_196 : τ_196.2.1 27 = τ28.2.1 27 := by rw [e_τ_196]; rfl
                have g28_τ_196 : τ_196.2.1 28 = τ28.2.1 28 := by rw [e_τ_196]; rfl
                have g39_τ_196 : τ_196.2.1 39 = τ28.2.1 39 := by rw [e_τ_196]; rfl
                have W3 : τ_196.1 3 = σ.1 3 := by first | exact w3_τ_196.trans W3 | omega
                have W5 : τ_196.1 5 = σ.1 5 := by first | exact w5_τ_196.trans W5 | omega
                have W6 : τ_196.1 6 = σ.1 6 := by first | exact w6_τ_196.trans W6 | omega
                have W7 : τ_196.1 7 = σ.1 7 := by first | exact w7_τ_196.trans W7 | omega
                have W8 : τ_196.1 8 = σ.1 8 := by first | exact w8_τ_196.trans W8 | omega
                have W22 : τ_196.1 22 = σ.1 22 := by first | exact w22_τ_196.trans W22 | omega
                have W25 : τ_196.1 25 = σ.1 25 := by first | exact w25_τ_196.trans W25 | omega
                have W29 : τ_196.1 29 = σ.1 29 := by first | exact w29_τ_196.trans W29 | omega
                have G18 : τ_196.2.1 18 = σ.2.1 18 := (g18_τ_196).trans G18
                have G19 : τ_196.2.1 19 = σ.2.1 19 := (g19_τ_196).trans G19
                have G20 : τ_196.2.1 20 = σ.2.1 20 := (g20_τ_196).trans G20
                have G25 : τ_196.2.1 25 = σ.2.1 25 := (g25_τ_196).trans G25
                have G39 : τ_196.2.1 39 = σ.2.1 39 := (g39_τ_196).trans G39
                have y18_22_τ_196 : τ_196.2.1 18 (τ_196.1 22) = (τ28.2.1 18) (τ28.1 22) := by rw [g18_τ_196, w22_τ_196]
                have y19_22_τ_196 : τ_196.2.1 19 (τ_196.1 22) = (τ28.2.1 19) (τ28.1 22) := by rw [g19_τ_196, w22_τ_196]
                have y25_22_τ_196 : τ_196.2.1 25 (τ_196.1 22) = (τ28.2.1 25) (τ28.1 22) := by rw [g25_τ_196, w22_τ_196]
                have y26_22_τ_196 : τ_196.2.1 26 (τ_196.1 22) = (τ28.2.1 26) (τ28.1 22) := by rw [g26_τ_196, w22_τ_196]
                have y28_9_τ_196 : τ_196.2.1 28 (τ_196.1 9) = (τ28.2.1 28) (τ28.1 9) := by rw [g28_τ_196, w9_τ_196]
                have Z4 : τ_196.2.1 25 (τ_196.1 22) + τ_196.2.1 26 (τ_196.1 22) = (τ_196.1 9) := by rw [show (τ_196.2.1 25 (τ_196.1 22) + τ_196.2.1 26 (τ_196.1 22) = (τ_196.1 9)) = (τ28.2.1 25 (τ28.1 22) + τ28.2.1 26 (τ28.1 22) = (τ28.1 9)) from by rw [w9_τ_196, w22_τ_196, g25_τ_196, g26_τ_196]]; exact Z4
                have Y10 : ca (τ_196.2.1 28) ((τ_196.1 9)) ≤ ca (τ_196.2.1 28) (τ_196.2.1 25 (τ_196.1 22)) + (τ_196.1 29) := by rw [show (ca (τ_196.2.1 28) ((τ_196.1 9)) ≤ ca (τ_196.2.1 28) (τ_196.2.1 25 (τ_196.1 22)) + (τ_196.1 29)) = (ca (τ28.2.1 28) ((τ28.1 9)) ≤ ca (τ28.2.1 28) (τ28.2.1 25 (τ28.1 22)) + (τ28.1 29)) from by rw [w9_τ_196, w22_τ_196, w29_τ_196, g25_τ_196, g28_τ_196]]; exact Y10
                have Y13 : j_eq (σ.2.1 25 (σ.1 22)) (σ.2.1 28) (τ_196.2.1 28) := by rw [show (j_eq (σ.2.1 25 (σ.1 22)) (σ.2.1 28) (τ_196.2.1 28)) = (j_eq (σ.2.1 25 (σ.1 22)) (σ.2.1 28) (τ28.2.1 28)) from by rw [g28_τ_196]]; exact Y13
                have NSP : n_sp2 (τ_196.2.1 25 (τ_196.1 22)) (τ_196.1 9) (τ_196.1 22) (τ_196.2.1 27) (τ_196.2.1 28) := by rw [show (n_sp2 (τ_196.2.1 25 (τ_196.1 22)) (τ_196.1 9) (τ_196.1 22) (τ_196.2.1 27) (τ_196.2.1 28)) = (n_sp2 (τ28.2.1 25 (τ28.1 22)) (τ28.1 9) (τ28.1 22) (τ28.2.1 27) (τ28.2.1 28)) from by rw [w9_τ_196, w22_τ_196, g25_τ_196, g27_τ_196, g28_τ_196]]; exact NSP
                have PK : ∀ k : Int, 0 ≤ k → k < (τ_196.1 25) → τ_196.2.1 39 k < (τ_196.1 22) := by rw [show (∀ k : Int, 0 ≤ k → k < (τ_196.1 25) → τ_196.2.1 39 k < (τ_196.1 22)) = (∀ k : Int, 0 ≤ k → k < (τ28.1 25) → τ28.2.1 39 k < (τ28.1 22)) from by rw [w22_τ_196, w25_τ_196, g39_τ_196]]; exact PK
                have Y10b : (τ_196.1 29) + ca (τ_196.2.1 28) (τ_196.2.1 25 (τ_196.1 22)) ≤ ca (τ_196.2.1 28) (τ_196.1 9) := by rw [show ((τ_196.1 29) + ca (τ_196.2.1 28) (τ_196.2.1 25 (τ_196.1 22)) ≤ ca (τ_196.2.1 28) (τ_196.1 9)) = ((τ28.1 29) + ca (τ28.2.1 28) (τ28.2.1 25 (τ28.1 22)) ≤ ca (τ28.2.1 28) (τ28.1 9)) from by rw [w9_τ_196, w22_τ_196, w29_τ_196, g25_τ_196, g28_τ_196]]; exact Y10b
                have HYN : ∀ k : Int, 0 ≤ k → k < τ_196.2.1 19 (τ_196.1 22) → τ_196.2.1 20 (τ_196.2.1 18 (τ_196.1 22) + k) < (τ_196.1 22) := by rw [show (∀ k : Int, 0 ≤ k → k < τ_196.2.1 19 (τ_196.1 22) → τ_196.2.1 20 (τ_196.2.1 18 (τ_196.1 22) + k) < (τ_196.1 22)) = (∀ k : Int, 0 ≤ k → k < τ28.2.1 19 (τ28.1 22) → τ28.2.1 20 (τ28.2.1 18 (τ28.1 22) + k) < (τ28.1 22)) from by rw [w22_τ_196, g18_τ_196, g19_τ_196, g20_τ_196]]; exact HYN
                have A18 : ∀ j, 0 ≤ τ_196.2.1 18 j ∧ τ_196.2.1 18 j ≤ 90000 := fun j => hT.2 18 j
                have A19 : ∀ j, 0 ≤ τ_196.2.1 19 j ∧ τ_196.2.1 19 j ≤ 60 := fun j => hT.2 19 j
                have A20 : ∀ j, 0 ≤ τ_196.2.1 20 j ∧ τ_196.2.1 20 j ≤ 1499 := fun j => hT.2 20 j
                have A25 : ∀ j, 0 ≤ τ_196.2.1 25 j ∧ τ_196.2.1 25 j ≤ 20000 := fun j => hT.2 25 j
                have A26 : ∀ j, 0 ≤ τ_196.2.1 26 j ∧ τ_196.2.1 26 j ≤ 20000 := fun j => hT.2 26 j
                have A27 : ∀ j, (-300) ≤ τ_196.2.1 27 j ∧ τ_196.2.1 27 j ≤ 1499 := fun j => hT.2 27 j
                have A28 : ∀ j, 0 ≤ τ_196.2.1 28 j ∧ τ_196.2.1 28 j ≤ 1 := fun j => hT.2 28 j
                have A39 : ∀ j, 0 ≤ τ_196.2.1 39 j ∧ τ_196.2.1 39 j ≤ 1499 := fun j => hT.2 39 j
                have v3 : 0 ≤ τ_196.1 3 ∧ τ_196.1 3 ≤ 1000 := hT.1 3
                have v5 : 0 ≤ τ_196.1 5 ∧ τ_196.1 5 ≤ 1500 := hT.1 5
                have v6 : 0 ≤ τ_196.1 6 ∧ τ_196.1 6 ≤ 30000 := hT.1 6
                have v7 : 0 ≤ τ_196.1 7 ∧ τ_196.1 7 ≤ 90000 := hT.1 7
                have v8 : 0 ≤ τ_196.1 8 ∧ τ_196.1 8 ≤ 20000 := hT.1 8
                have v9 : 0 ≤ τ_196.1 9 ∧ τ_196.1 9 ≤ 20000 := hT.1 9
                have v20 : 0 ≤ τ_196.1 20 ∧ τ_196.1 20 ≤ 19 := hT.1 20
                have v22 : 0 ≤ τ_196.1 22 ∧ τ_196.1 22 ≤ 1499 := hT.1 22
                have v25 : 0 ≤ τ_196.1 25 ∧ τ_196.1 25 ≤ 300 := hT.1 25
                have v26 : 0 ≤ τ_196.1 26 ∧ τ_196.1 26 ≤ 5000010 := hT.1 26
                have v28 : 0 ≤ τ_196.1 28 ∧ τ_196.1 28 ≤ 1 := hT.1 28
                have v29 : 0 ≤ τ_196.1 29 ∧ τ_196.1 29 ≤ 300 := hT.1 29
                have a18_22 : 0 ≤ τ_196.2.1 18 (τ_196.1 22) ∧ τ_196.2.1 18 (τ_196.1 22) ≤ 90000 := hT.2 18 _
                have a19_22 : 0 ≤ τ_196.2.1 19 (τ_196.1 22) ∧ τ_196.2.1 19 (τ_196.1 22) ≤ 60 := hT.2 19 _
                have a25_22 : 0 ≤ τ_196.2.1 25 (τ_196.1 22) ∧ τ_196.2.1 25 (τ_196.1 22) ≤ 20000 := hT.2 25 _
                have a26_22 : 0 ≤ τ_196.2.1 26 (τ_196.1 22) ∧ τ_196.2.1 26 (τ_196.1 22) ≤ 20000 := hT.2 26 _
                have a28_9 : 0 ≤ τ_196.2.1 28 (τ_196.1 9) ∧ τ_196.2.1 28 (τ_196.1 9) ≤ 1 := hT.2 28 _
                have av9 : σ.1 9 ≤ τ_196.1 9 := ag.1 9 (by decide)
                refine h196 _ ?_
                replace ag := ag_v (i := 26) (x := 0) ag (Or.inl rfl)
                replace hT := mT_v (i := 26) hT (show (0 : Int) ≤ 0 ∧ 0 ≤ 5000010 from by (first | omega | (simp only [st_s] <;> omega) | assumption | omega | fail))
                replace ag := ag_v (i := 27) (x := 0) ag (Or.inl rfl)
                replace hT := mT_v (i := 27) hT (show (0 : Int) ≤ 0 ∧ 0 ≤ 1 from by (first | omega | (simp only [st_s] <;> omega) | assumption | omega | fail))
                exact ⟨hT, (show ¬ (σ.1 20) = 0 → (τ_196.1 20) = (σ.1 20) from by (first | omega | (simp only [st_s] <;> omega) | assumption | omega | fail)), (show τ_196.2.1 25 (τ_196.1 22) + τ_196.2.1 26 (τ_196.1 22) = (τ_196.1 9) from Z4), (show ca (τ_196.2.1 28) ((τ_196.1 9)) ≤ ca (τ_196.2.1 28) (τ_196.2.1 25 (τ_196.1 22)) + (τ_196.1 29) from Y10), (show ¬ (τ_196.1 28) = 0 → τ_196.2.1 25 (τ_196.1 22) < (τ_196.1 9) ∧ τ_196.2.1 28 ((τ_196.1 9) - 1) = 0 from by (first | assumption | omega | (intro _; refine ⟨by omega, ?_⟩; first | exact hz | (rw [e_τ_196]; exact hz)) | fail)), (show j_eq (σ.2.1 25 (σ.1 22)) (σ.2.1 28) (τ_196.2.1 28) from Y13), (show ((0 : Int)) = 0 from by (first | omega | (simp only [st_s] <;> omega) | assumption | omega | fail)), ag, (show n_sp2 (τ_196.2.1 25 (τ_196.1 22)) (τ_196.1 9) (τ_196.1 22) (τ_196.2.1 27) (τ_196.2.1 28) from NSP), (show (τ_196.1 29) + ca (τ_196.2.1 28) (τ_196.2.1 25 (τ_196.1 22)) ≤ ca (τ_196.2.1 28) (τ_196.1 9) from Y10b), (show ¬ (τ_196.1 28) = 0 → 0 ≤ τ_196.2.1 27 ((τ_196.1 9) - 1) from by (first | assumption | (intro z; exfalso; omega) | (intro _; first | (rw [st27]; omega) | (rw [e_τ_196]; show 0 ≤ τ28.2.1 27 (τ28.1 9 - 1); rw [st27]; omega)) | fail))⟩
              ·
                refine h193 _ _ ?_
                refine ⟨(show 0 ≤ 1 ∧ 1 ≤ 1 from by (first | omega | (simp only [st_s] <;> omega) | assumption | omega | fail)), ?_⟩
                replace ag := ag_v (i := 28) (x := 1) ag (Or.inl rfl)
                replace hT := mT_v (i := 28) hT (show (0 : Int) ≤ 1 ∧ 1 ≤ 1 from by (first | omega | (simp only [st_s] <;> omega) | assumption | omega | fail))
                obtain ⟨τ_196, e_τ_196⟩ : ∃ z : S0, z = s_v τ28 28 1 := ⟨_, rfl⟩
                rw [← e_τ_196]
                replace hT : m_T τ_196 := by rw [e_τ_196]; exact hT
                replace ag : m_ag σ τ_196 := by rw [e_τ_196]; exact ag
                have w3_τ_196 : τ_196.1 3 = τ28.1 3 := by rw [e_τ_196]; rfl
                have w5_τ_196 : τ_196.1 5 = τ28.1 5 := by rw [e_τ_196]; rfl
                have w6_τ_196 : τ_196.1 6 = τ28.1 6 := by rw [e_τ_196]; rfl
                have w7_τ_196 : τ_196.1 7 = τ28.1 7 := by rw [e_τ_196]; rfl
                have w8_τ_196 : τ_196.1 8 = τ28.1 8 := by rw [e_τ_196]; rfl
                have w9_τ_196 : τ_196.1 9 = τ28.1 9 := by rw [e_τ_196]; rfl
                have w20_τ_196 : τ_196.1 20 = τ28.1 20 := by rw [e_τ_196]; rfl
                have w22_τ_196 : τ_196.1 22 = τ28.1 22 := by rw [e_τ_196]; rfl
                have w25_τ_196 : τ_196.1 25 = τ28.1 25 := by rw [e_τ_196]; rfl
                have w26_τ_196 : τ_196.1 26 = τ28.1 26 := by rw [e_τ_196]; rfl
                have w28_τ_196 : τ_196.1 28 = 1 := by rw [e_τ_196]; rfl
                have w29_τ_196 : τ_196.1 29 = τ28.1 29 := by rw [e_τ_196]; rfl
                have g18_τ_196 : τ_196.2.1 18 = τ28.2.1 18 := by rw [e_τ_196]; rfl
                have g19_τ_196 : τ_196.2.1 19 = τ28.2.1 19 := by rw [e_τ_196]; rfl
                have g20_τ_196 : τ_196.2.1 20 = τ28.2.1 20 := by rw [e_τ_196]; rfl
                have g25_τ_196 : τ_196.2.1 25 = τ28.2.1 25 := by rw [e_τ_196]; rfl
                have g26_τ_196 : τ_196.2.1 26 = τ28.2.1 26 := by rw [e_τ_196]; rfl
                have g27_τ_196 : τ_196.2.1 27 = τ28.2.1 27 := by rw [e_τ_196]; rfl
                have g28_τ_196 : τ_196.2.1 28 = τ28.2.1 28 := by rw [e_τ_196]; rfl
                have g39_τ_196 : τ_196.2.1 39 = τ28.2.1 39 := by rw [e_τ_196]; rfl
                have W3 : τ_196.1 3 = σ.1 3 := by first | exact w3_τ_196.trans W3 | omega
                have W5 : τ_196.1 5 = σ.1 5 := by first | exact w5_τ_196.trans W5 | omega
                have W6 : τ_196.1 6 = σ.1 6 := by first | exact w6_τ_196.trans W6 | omega
                have W7 : τ_196.1 7 = σ.1 7 := by first | exact w7_τ_196.trans W7 | omega
                have W8 : τ_196.1 8 = σ.1 8 := by first | exact w8_τ_196.trans W8 | omega
                have W22 : τ_196.1 22 = σ.1 22 := by first | exact w22_τ_196.trans W22 | omega
                have W25 : τ_196.1 25 = σ.1 25 := by first | exact w25_τ_196.trans W25 | omega
                have W29 : τ_196.1 29 = σ.1 29 := by first | exact w29_τ_196.trans W29 | omega
                have G18 : τ_196.2.1 18 = σ.2.1 18 := (g18_τ_196).trans G18
                have G19 : τ_196.2.1 19 = σ.2.1 19 := (g19_τ_196).trans G19
                have G20 : τ_196.2.1 20 = σ.2.1 20 := (g20_τ_196).trans G20
                have G25 : τ_196.2.1 25 = σ.2.1 25 := (g25_τ_196).trans G25
                have G39 : τ_196.2.1 39 = σ.2.1 39 := (g39_τ_196).trans G39
                have y18_22_τ_196 : τ_196.2.1 18 (τ_196.1 22) = (τ28.2.1 18) (τ28.1 22) := by rw [g18_τ_196, w22_τ_196]
                have y19_22_τ_196 : τ_196.2.1 19 (τ_196.1 22) = (τ28.2.1 19) (τ28.1 22) := by rw [g19_τ_196, w22_τ_196]
                have y25_22_τ_196 : τ_196.2.1 25 (τ_196.1 22) = (τ28.2.1 25) (τ28.1 22) := by rw [g25_τ_196, w22_τ_196]
                have y26_22_τ_196 : τ_196.2.1 26 (τ_196.1 22) = (τ28.2.1 26) (τ28.1 22) := by rw [g26_τ_196, w22_τ_196]
                have y28_9_τ_196 : τ_196.2.1 28 (τ_196.1 9) = (τ28.2.1 28) (τ28.1 9) := by rw [g28_τ_196, w9_τ_196]
                have Z4 : τ_196.2.1 25 (τ_196.1 22) + τ_196.2.1 26 (τ_196.1 22) = (τ_196.1 9) := by rw [show (τ_196.2.1 25 (τ_196.1 22) + τ_196.2.1 26 (τ_196.1 22) = (τ_196.1 9)) = (τ28.2.1 25 (τ28.1 22) + τ28.2.1 26 (τ28.1 22) = (τ28.1 9)) from by rw [w9_τ_196, w22_τ_196, g25_τ_196, g26_τ_196]]; exact Z4
                have Y10 : ca (τ_196.2.1 28) ((τ_196.1 9)) ≤ ca (τ_196.2.1 28) (τ_196.2.1 25 (τ_196.1 22)) + (τ_196.1 29) := by rw [show (ca (τ_196.2.1 28) ((τ_196.1 9)) ≤ ca (τ_196.2.1 28) (τ_196.2.1 25 (τ_196.1 22)) + (τ_196.1 29)) = (ca (τ28.2.1 28) ((τ28.1 9)) ≤ ca (τ28.2.1 28) (τ28.2.1 25 (τ28.1 22)) + (τ28.1 29)) from by rw [w9_τ_196, w22_τ_196, w29_τ_196, g25_τ_196, g28_τ_196]]; exact Y10
                have Y13 : j_eq (σ.2.1 25 (σ.1 22)) (σ.2.1 28) (τ_196.2.1 28) := by rw [show (j_eq (σ.2.1 25 (σ.1 22)) (σ.2.1 28) (τ_196.2.1 28)) = (j_eq (σ.2.1 25 (σ.1 22)) (σ.2.1 28) (τ28.2.1 28)) from by rw [g28_τ_196]]; exact Y13
                have NSP : n_sp2 (τ_196.2.1 25 (τ_196.1 22)) (τ_196.1 9) (τ_196.1 22) (τ_196.2.1 27) (τ_196.2.1 28) := by rw [show (n_sp2 (τ_196.2.1 25 (τ_196.1 22)) (τ_196.1 9) (τ_196.1 22) (τ_196.2.1 27) (τ_196.2.1 28)) = (n_sp2 (τ28.2.1 25 (τ28.1 22)) (τ28.1 9) (τ28.1 22) (τ28.2.1 27) (τ28.2.1 28)) from by rw [w9_τ_196, w22_τ_196, g25_τ_196, g27_τ_196, g28_τ_196]]; exact NSP
                have PK : ∀ k : Int, 0 ≤ k → k < (τ_196.1 25) → τ_196.2.1 39 k < (τ_196.1 22) := by rw [show (∀ k : Int, 0 ≤ k → k < (τ_196.1 25) → τ_196.2.1 39 k < (τ_196.1 22)) = (∀ k : Int, 0 ≤ k → k < (τ28.1 25) → τ28.2.1 39 k < (τ28.1 22)) from by rw [w22_τ_196, w25_τ_196, g39_τ_196]]; exact PK
                have Y10b : (τ_196.1 29) + ca (τ_196.2.1 28) (τ_196.2.1 25 (τ_196.1 22)) ≤ ca (τ_196.2.1 28) (τ_196.1 9) := by rw [show ((τ_196.1 29) + ca (τ_196.2.1 28) (τ_196.2.1 25 (τ_196.1 22)) ≤ ca (τ_196.2.1 28) (τ_196.1 9)) = ((τ28.1 29) + ca (τ28.2.1 28) (τ28.2.1 25 (τ28.1 22)) ≤ ca (τ28.2.1 28) (τ28.1 9)) from by rw [w9_τ_196, w22_τ_196, w29_τ_196, g25_τ_196, g28_τ_196]]; exact Y10b
                have HYN : ∀ k : Int, 0 ≤ k → k < τ_196.2.1 19 (τ_196.1 22) → τ_196.2.1 20 (τ_196.2.1 18 (τ_196.1 22) + k) < (τ_196.1 22) := by rw [show (∀ k : Int, 0 ≤ k → k < τ_196.2.1 19 (τ_196.1 22) → τ_196.2.1 20 (τ_196.2.1 18 (τ_196.1 22) + k) < (τ_196.1 22)) = (∀ k : Int, 0 ≤ k → k < τ28.2.1 19 (τ28.1 22) → τ28.2.1 20 (τ28.2.1 18 (τ28.1 22) + k) < (τ28.1 22)) from by rw [w22_τ_196, g18_τ_196, g19_τ_196, g20_τ_196]]; exact HYN
                have A18 : ∀ j, 0 ≤ τ_196.2.1 18 j ∧ τ_196.2.1 18 j ≤ 90000 := fun j => hT.2 18 j
                have A19 : ∀ j, 0 ≤ τ_196.2.1 19 j ∧ τ_196.2.1 19 j ≤ 60 := fun j => hT.2 19 j
                have A20 : ∀ j, 0 ≤ τ_196.2.1 20 j ∧ τ_196.2.1 20 j ≤ 1499 := fun j => hT.2 20 j
                have A25 : ∀ j, 0 ≤ τ_196.2.1 25 j ∧ τ_196.2.1 25 j ≤ 20000 := fun j => hT.2 25 j
                have A26 : ∀ j, 0 ≤ τ_196.2.1 26 j ∧ τ_196.2.1 26 j ≤ 20000 := fun j => hT.2 26 j
                have A27 : ∀ j, (-300) ≤ τ_196.2.1 27 j ∧ τ_196.2.1 27 j ≤ 1499 := fun j => hT.2 27 j
                have A28 : ∀ j, 0 ≤ τ_196.2.1 28 j ∧ τ_196.2.1 28 j ≤ 1 := fun j => hT.2 28 j
                have A39 : ∀ j, 0 ≤ τ_196.2.1 39 j ∧ τ_196.2.1 39 j ≤ 1499 := fun j => hT.2 39 j
                have v3 : 0 ≤ τ_196.1 3 ∧ τ_196.1 3 ≤ 1000 := hT.1 3
                have v5 : 0 ≤ τ_196.1 5 ∧ τ_196.1 5 ≤ 1500 := hT.1 5
                have v6 : 0 ≤ τ_196.1 6 ∧ τ_196.1 6 ≤ 30000 := hT.1 6
                have v7 : 0 ≤ τ_196.1 7 ∧ τ_196.1 7 ≤ 90000 := hT.1 7
                have v8 : 0 ≤ τ_196.1 8 ∧ τ_196.1 8 ≤ 20000 := hT.1 8
                have v9 : 0 ≤ τ_196.1 9 ∧ τ_196.1 9 ≤ 20000 := hT.1 9
                have v20 : 0 ≤ τ_196.1 20 ∧ τ_196.1 20 ≤ 19 := hT.1 20
                have v22 : 0 ≤ τ_196.1 22 ∧ τ_196.1 22 ≤ 1499 := hT.1 22
                have v25 : 0 ≤ τ_196.1 25 ∧ τ_196.1 25 ≤ 300 := hT.1 25
                have v26 : 0 ≤ τ_196.1 26 ∧ τ_196.1 26 ≤ 5000010 := hT.1 26
                have v28 : 0 ≤ τ_196.1 28 ∧ τ_196.1 28 ≤ 1 := hT.1 28
                have v29 : 0 ≤ τ_196.1 29 ∧ τ_196.1 29 ≤ 300 := hT.1 29
                have a18_22 : 0 ≤ τ_196.2.1 18 (τ_196.1 22) ∧ τ_196.2.1 18 (τ_196.1 22) ≤ 90000 := hT.2 18 _
                have a19_22 : 0 ≤ τ_196.2.1 19 (τ_196.1 22) ∧ τ_196.2.1 19 (τ_196.1 22) ≤ 60 := hT.2 19 _
                have a25_22 : 0 ≤ τ_196.2.1 25 (τ_196.1 22) ∧ τ_196.2.1 25 (τ_196.1 22) ≤ 20000 := hT.2 25 _
                have a26_22 : 0 ≤ τ_196.2.1 26 (τ_196.1 22) ∧ τ_196.2.1 26 (τ_196.1 22) ≤ 20000 := hT.2 26 _
                have a28_9 : 0 ≤ τ_196.2.1 28 (τ_196.1 9) ∧ τ_196.2.1 28 (τ_196.1 9) ≤ 1 := hT.2 28 _
                have av9 : σ.1 9 ≤ τ_196.1 9 := ag.1 9 (by decide)
                refine h196 _ ?_
                replace ag := ag_v (i := 26) (x := 0) ag (Or.inl rfl)
                replace hT := mT_v (i := 26) hT (show (0 : Int) ≤ 0 ∧ 0 ≤ 5000010 from by (first | omega | (simp only [st_s] <;> omega) | assumption | omega | fail))
                replace ag := ag_v (i := 27) (x := 0) ag (Or.inl rfl)
                replace hT := mT_v (i := 27) hT (show (0 : Int) ≤ 0 ∧ 0 ≤ 1 from by (first | omega | (simp only [st_s] <;> omega) | assumption | omega | fail))
                exact ⟨hT, (show ¬ (σ.1 20) = 0 → (τ_196.1 20) = (σ.1 20) from by (first | omega | (simp only [st_s] <;> omega) | assumption | omega | fail)), (show τ_196.2.1 25 (τ_196.1 22) + τ_196.2.1 26 (τ_196.1 22) = (τ_196.1 9) from Z4), (show ca (τ_196.2.1 28) ((τ_196.1 9)) ≤ ca (τ_196.2.1 28) (τ_196.2.1 25 (τ_196.1 22)) + (τ_196.1 29) from Y10), (show ¬ (τ_196.1 28) = 0 → τ_196.2.1 25 (τ_196.1 22) < (τ_196.1 9) ∧ τ_196.2.1 28 ((τ_196.1 9) - 1) = 0 from by (first | assumption | omega | (intro _; refine ⟨by omega, ?_⟩; first | exact hz | (rw [e_τ_196]; exact hz)) | fail)), (show j_eq (σ.2.1 25 (σ.1 22)) (σ.2.1 28) (τ_196.2.1 28) from Y13), (show ((0 : Int)) = 0 from by (first | omega | (simp only [st_s] <;> omega) | assumption | omega | fail)), ag, (show n_sp2 (τ_196.2.1 25 (τ_196.1 22)) (τ_196.1 9) (τ_196.1 22) (τ_196.2.1 27) (τ_196.2.1 28) from NSP), (show (τ_196.1 29) + ca (τ_196.2.1 28) (τ_196.2.1 25 (τ_196.1 22)) ≤ ca (τ_196.2.1 28) (τ_196.1 9) from Y10b), (show ¬ (τ_196.1 28) = 0 → 0 ≤ τ_196.2.1 27 ((τ_196.1 9) - 1) from by (first | assumption | (intro z; exfalso; omega) | (intro _; first | (rw [st27]; omega) | (rw [e_τ_196]; show 0 ≤ τ28.2.1 27 (τ28.1 9 - 1); rw [st27]; omega)) | fail))⟩
        ·
          refine ⟨_, K_X13_fail hT (show 0 ≤ (5 : Int) from by (first | omega | (simp only [st_s] <;> omega) | assumption | omega | fail)) (show (5 : Int) ≤ 19 from by (first | omega | (simp only [st_s] <;> omega) | assumption | omega | fail)) (show -1 ≤ n2 from by (first | omega | (simp only [st_s] <;> omega) | assumption | omega | fail)) (show n2 ≤ 60000 from by (first | omega | (simp only [st_s] <;> omega) | assumption | omega | fail)), ?_⟩
          intro τ21 hn_τ21 hf_τ21 hq
          obtain ⟨hT, q19_1, q19_2⟩ := hq
          replace q19_1 : ¬ (σ.1 20) = 0 → (τ21.1 20) = (σ.1 20) := q19_1
          replace q19_2 : (σ.1 20) = 0 → (τ21.1 20) = (5 : Int) := q19_2
          replace ag : m_ag σ τ21 := ag_r ag hf_τ21 rfl rfl
          have w3_τ21 : τ21.1 3 = σ.1 3 := hf_τ21.1 3 (by decide)
          have w5_τ21 : τ21.1 5 = σ.1 5 := hf_τ21.1 5 (by decide)
          have w6_τ21 : τ21.1 6 = σ.1 6 := hf_τ21.1 6 (by decide)
          have w7_τ21 : τ21.1 7 = σ.1 7 := hf_τ21.1 7 (by decide)
          have w8_τ21 : τ21.1 8 = σ.1 8 := hf_τ21.1 8 (by decide)
          have w9_τ21 : τ21.1 9 = σ.1 9 := hf_τ21.1 9 (by decide)
          have w22_τ21 : τ21.1 22 = σ.1 22 := hf_τ21.1 22 (by decide)
          have w25_τ21 : τ21.1 25 = σ.1 25 := hf_τ21.1 25 (by decide)
          have w26_τ21 : τ21.1 26 = σ.1 26 := hf_τ21.1 26 (by decide)
          have w28_τ21 : τ21.1 28 = σ.1 28 := hf_τ21.1 28 (by decide)
          have w29_τ21 : τ21.1 29 = σ.1 29 := hf_τ21.1 29 (by decide)
          have g18_τ21 : τ21.2.1 18 = σ.2.1 18 := hf_τ21.2.1 18 (by decide)
          have g19_τ21 : τ21.2.1 19 = σ.2.1 19 := hf_τ21.2.1 19 (by decide)
          have g20_τ21 : τ21.2.1 20 = σ.2.1 20 := hf_τ21.2.1 20 (by decide)
          have g25_τ21 : τ21.2.1 25 = σ.2.1 25 := hf_τ21.2.1 25 (by decide)
          have g26_τ21 : τ21.2.1 26 = σ.2.1 26 := hf_τ21.2.1 26 (by decide)
          have g27_τ21 : τ21.2.1 27 = σ.2.1 27 := hf_τ21.2.1 27 (by decide)
          have g28_τ21 : τ21.2.1 28 = σ.2.1 28 := hf_τ21.2.1 28 (by decide)
          have g39_τ21 : τ21.2.1 39 = σ.2.1 39 := hf_τ21.2.1 39 (by decide)
          have W3 : τ21.1 3 = σ.1 3 := by first | exact w3_τ21.trans W3 | omega
          have W5 : τ21.1 5 = σ.1 5 := by first | exact w5_τ21.trans W5 | omega
          have W6 : τ21.1 6 = σ.1 6 := by first | exact w6_τ21.trans W6 | omega
          have W7 : τ21.1 7 = σ.1 7 := by first | exact w7_τ21.trans W7 | omega
          have W8 : τ21.1 8 = σ.1 8 := by first | exact w8_τ21.trans W8 | omega
          have W22 : τ21.1 22 = σ.1 22 := by first | exact w22_τ21.trans W22 | omega
          have W25 : τ21.1 25 = σ.1 25 := by first | exact w25_τ21.trans W25 | omega
          have W29 : τ21.1 29 = σ.1 29 := by first | exact w29_τ21.trans W29 | omega
          have G18 : τ21.2.1 18 = σ.2.1 18 := (g18_τ21).trans G18
          have G19 : τ21.2.1 19 = σ.2.1 19 := (g19_τ21).trans G19
          have G20 : τ21.2.1 20 = σ.2.1 20 := (g20_τ21).trans G20
          have G25 : τ21.2.1 25 = σ.2.1 25 := (g25_τ21).trans G25
          have G39 : τ21.2.1 39 = σ.2.1 39 := (g39_τ21).trans G39
          have y18_22_τ21 : τ21.2.1 18 (τ21.1 22) = (σ.2.1 18) (σ.1 22) := by rw [g18_τ21, w22_τ21]
          have y19_22_τ21 : τ21.2.1 19 (τ21.1 22) = (σ.2.1 19) (σ.1 22) := by rw [g19_τ21, w22_τ21]
          have y25_22_τ21 : τ21.2.1 25 (τ21.1 22) = (σ.2.1 25) (σ.1 22) := by rw [g25_τ21, w22_τ21]
          have y26_22_τ21 : τ21.2.1 26 (τ21.1 22) = (σ.2.1 26) (σ.1 22) := by rw [g26_τ21, w22_τ21]
          have y28_9_τ21 : τ21.2.1 28 (τ21.1 9) = (σ.2.1 28) (σ.1 9) := by rw [g28_τ21, w9_τ21]
          have Z4 : τ21.2.1 25 (τ21.1 22) + τ21.2.1 26 (τ21.1 22) = (τ21.1 9) := by rw [show (τ21.2.1 25 (τ21.1 22) + τ21.2.1 26 (τ21.1 22) = (τ21.1 9)) = (σ.2.1 25 (σ.1 22) + σ.2.1 26 (σ.1 22) = (σ.1 9)) from by rw [w9_τ21, w22_τ21, g25_τ21, g26_τ21]]; exact Z4
          have Y10 : ca (τ21.2.1 28) ((τ21.1 9)) ≤ ca (τ21.2.1 28) (τ21.2.1 25 (τ21.1 22)) + (τ21.1 29) := by rw [show (ca (τ21.2.1 28) ((τ21.1 9)) ≤ ca (τ21.2.1 28) (τ21.2.1 25 (τ21.1 22)) + (τ21.1 29)) = (ca (σ.2.1 28) ((σ.1 9)) ≤ ca (σ.2.1 28) (σ.2.1 25 (σ.1 22)) + (σ.1 29)) from by rw [w9_τ21, w22_τ21, w29_τ21, g25_τ21, g28_τ21]]; exact Y10
          have Y12 : ¬ (τ21.1 28) = 0 → τ21.2.1 25 (τ21.1 22) < (τ21.1 9) ∧ τ21.2.1 28 ((τ21.1 9) - 1) = 0 := by rw [show (¬ (τ21.1 28) = 0 → τ21.2.1 25 (τ21.1 22) < (τ21.1 9) ∧ τ21.2.1 28 ((τ21.1 9) - 1) = 0) = (¬ (σ.1 28) = 0 → σ.2.1 25 (σ.1 22) < (σ.1 9) ∧ σ.2.1 28 ((σ.1 9) - 1) = 0) from by rw [w9_τ21, w22_τ21, w28_τ21, g25_τ21, g28_τ21]]; exact Y12
          have Y13 : j_eq (σ.2.1 25 (σ.1 22)) (σ.2.1 28) (τ21.2.1 28) := by rw [show (j_eq (σ.2.1 25 (σ.1 22)) (σ.2.1 28) (τ21.2.1 28)) = (j_eq (σ.2.1 25 (σ.1 22)) (σ.2.1 28) (σ.2.1 28)) from by rw [g28_τ21]]; exact Y13
          have NSP : n_sp2 (τ21.2.1 25 (τ21.1 22)) (τ21.1 9) (τ21.1 22) (τ21.2.1 27) (τ21.2.1 28) := by rw [show (n_sp2 (τ21.2.1 25 (τ21.1 22)) (τ21.1 9) (τ21.1 22) (τ21.2.1 27) (τ21.2.1 28)) = (n_sp2 (σ.2.1 25 (σ.1 22)) (σ.1 9) (σ.1 22) (σ.2.1 27) (σ.2.1 28)) from by rw [w9_τ21, w22_τ21, g25_τ21, g27_τ21, g28_τ21]]; exact NSP
          have Y12c : ¬ (τ21.1 28) = 0 → 0 ≤ τ21.2.1 27 ((τ21.1 9) - 1) := by rw [show (¬ (τ21.1 28) = 0 → 0 ≤ τ21.2.1 27 ((τ21.1 9) - 1)) = (¬ (σ.1 28) = 0 → 0 ≤ σ.2.1 27 ((σ.1 9) - 1)) from by rw [w9_τ21, w28_τ21, g27_τ21]]; exact Y12c
          have PK : ∀ k : Int, 0 ≤ k → k < (τ21.1 25) → τ21.2.1 39 k < (τ21.1 22) := by rw [show (∀ k : Int, 0 ≤ k → k < (τ21.1 25) → τ21.2.1 39 k < (τ21.1 22)) = (∀ k : Int, 0 ≤ k → k < (σ.1 25) → σ.2.1 39 k < (σ.1 22)) from by rw [w22_τ21, w25_τ21, g39_τ21]]; exact PK
          have Y10b : (τ21.1 29) + ca (τ21.2.1 28) (τ21.2.1 25 (τ21.1 22)) ≤ ca (τ21.2.1 28) (τ21.1 9) := by rw [show ((τ21.1 29) + ca (τ21.2.1 28) (τ21.2.1 25 (τ21.1 22)) ≤ ca (τ21.2.1 28) (τ21.1 9)) = ((σ.1 29) + ca (σ.2.1 28) (σ.2.1 25 (σ.1 22)) ≤ ca (σ.2.1 28) (σ.1 9)) from by rw [w9_τ21, w22_τ21, w29_τ21, g25_τ21, g28_τ21]]; exact Y10b
          have HYN : ∀ k : Int, 0 ≤ k → k < τ21.2.1 19 (τ21.1 22) → τ21.2.1 20 (τ21.2.1 18 (τ21.1 22) + k) < (τ21.1 22) := by rw [show (∀ k : Int, 0 ≤ k → k < τ21.2.1 19 (τ21.1 22) → τ21.2.1 20 (τ21.2.1 18 (τ21.1 22) + k) < (τ21.1 22)) = (∀ k : Int, 0 ≤ k → k < σ.2.1 19 (σ.1 22) → σ.2.1 20 (σ.2.1 18 (σ.1 22) + k) < (σ.1 22)) from by rw [w22_τ21, g18_τ21, g19_τ21, g20_τ21]]; exact HYN
          have A18 : ∀ j, 0 ≤ τ21.2.1 18 j ∧ τ21.2.1 18 j ≤ 90000 := fun j => hT.2 18 j
          have A19 : ∀ j, 0 ≤ τ21.2.1 19 j ∧ τ21.2.1 19 j ≤ 60 := fun j => hT.2 19 j
          have A20 : ∀ j, 0 ≤ τ21.2.1 20 j ∧ τ21.2.1 20 j ≤ 1499 := fun j => hT.2 20 j
          have A25 : ∀ j, 0 ≤ τ21.2.1 25 j ∧ τ21.2.1 25 j ≤ 20000 := fun j => hT.2 25 j
          have A26 : ∀ j, 0 ≤ τ21.2.1 26 j ∧ τ21.2.1 26 j ≤ 20000 := fun j => hT.2 26 j
          have A27 : ∀ j, (-300) ≤ τ21.2.1 27 j ∧ τ21.2.1 27 j ≤ 1499 := fun j => hT.2 27 j
          have A28 : ∀ j, 0 ≤ τ21.2.1 28 j ∧ τ21.2.1 28 j ≤ 1 := fun j => hT.2 28 j
          have A39 : ∀ j, 0 ≤ τ21.2.1 39 j ∧ τ21.2.1 39 j ≤ 1499 := fun j => hT.2 39 j
          have v3 : 0 ≤ τ21.1 3 ∧ τ21.1 3 ≤ 1000 := hT.1 3
          have v5 : 0 ≤ τ21.1 5 ∧ τ21.1 5 ≤ 1500 := hT.1 5
          have v6 : 0 ≤ τ21.1 6 ∧ τ21.1 6 ≤ 30000 := hT.1 6
          have v7 : 0 ≤ τ21.1 7 ∧ τ21.1 7 ≤ 90000 := hT.1 7
          have v8 : 0 ≤ τ21.1 8 ∧ τ21.1 8 ≤ 20000 := hT.1 8
          have v9 : 0 ≤ τ21.1 9 ∧ τ21.1 9 ≤ 20000 := hT.1 9
          have v20 : 0 ≤ τ21.1 20 ∧ τ21.1 20 ≤ 19 := hT.1 20
          have v22 : 0 ≤ τ21.1 22 ∧ τ21.1 22 ≤ 1499 := hT.1 22
          have v25 : 0 ≤ τ21.1 25 ∧ τ21.1 25 ≤ 300 := hT.1 25
          have v26 : 0 ≤ τ21.1 26 ∧ τ21.1 26 ≤ 5000010 := hT.1 26
          have v28 : 0 ≤ τ21.1 28 ∧ τ21.1 28 ≤ 1 := hT.1 28
          have v29 : 0 ≤ τ21.1 29 ∧ τ21.1 29 ≤ 300 := hT.1 29
          have a18_22 : 0 ≤ τ21.2.1 18 (τ21.1 22) ∧ τ21.2.1 18 (τ21.1 22) ≤ 90000 := hT.2 18 _
          have a19_22 : 0 ≤ τ21.2.1 19 (τ21.1 22) ∧ τ21.2.1 19 (τ21.1 22) ≤ 60 := hT.2 19 _
          have a25_22 : 0 ≤ τ21.2.1 25 (τ21.1 22) ∧ τ21.2.1 25 (τ21.1 22) ≤ 20000 := hT.2 25 _
          have a26_22 : 0 ≤ τ21.2.1 26 (τ21.1 22) ∧ τ21.2.1 26 (τ21.1 22) ≤ 20000 := hT.2 26 _
          have a28_9 : 0 ≤ τ21.2.1 28 (τ21.1 9) ∧ τ21.2.1 28 (τ21.1 9) ≤ 1 := hT.2 28 _
          have av9 : σ.1 9 ≤ τ21.1 9 := ag.1 9 (by decide)
          refine h196 _ ?_
          replace ag := ag_v (i := 26) (x := 0) ag (Or.inl rfl)
          replace hT := mT_v (i := 26) hT (show (0 : Int) ≤ 0 ∧ 0 ≤ 5000010 from by (first | omega | (simp only [st_s] <;> omega) | assumption | omega | fail))
          replace ag := ag_v (i := 27) (x := 0) ag (Or.inl rfl)
          replace hT := mT_v (i := 27) hT (show (0 : Int) ≤ 0 ∧ 0 ≤ 1 from by (first | omega | (simp only [st_s] <;> omega) | assumption | omega | fail))
          exact ⟨hT, (show ¬ (σ.1 20) = 0 → (τ21.1 20) = (σ.1 20) from by (first | omega | (simp only [st_s] <;> omega) | assumption | omega | fail)), (show τ21.2.1 25 (τ21.1 22) + τ21.2.1 26 (τ21.1 22) = (τ21.1 9) from Z4), (show ca (τ21.2.1 28) ((τ21.1 9)) ≤ ca (τ21.2.1 28) (τ21.2.1 25 (τ21.1 22)) + (τ21.1 29) from Y10), (show ¬ (τ21.1 28) = 0 → τ21.2.1 25 (τ21.1 22) < (τ21.1 9) ∧ τ21.2.1 28 ((τ21.1 9) - 1) = 0 from Y12), (show j_eq (σ.2.1 25 (σ.1 22)) (σ.2.1 28) (τ21.2.1 28) from Y13), (show ((0 : Int)) = 0 from by (first | omega | (simp only [st_s] <;> omega) | assumption | omega | fail)), ag, (show n_sp2 (τ21.2.1 25 (τ21.1 22)) (τ21.1 9) (τ21.1 22) (τ21.2.1 27) (τ21.2.1 28) from NSP), (show (τ21.1 29) + ca (τ21.2.1 28) (τ21.2.1 25 (τ21.1 22)) ≤ ca (τ21.2.1 28) (τ21.1 9) from Y10b), (show ¬ (τ21.1 28) = 0 → 0 ≤ τ21.2.1 27 ((τ21.1 9) - 1) from Y12c)⟩
      ·
        refine ⟨fun c22 => ?_, fun c22 => ?_⟩
        ·
          refine h82 _ _ _ ?_
          refine ⟨_, K_X13_fail hT (show 0 ≤ (14 : Int) from by (first | omega | (simp only [st_s] <;> omega) | assumption | omega | fail)) (show (14 : Int) ≤ 19 from by (first | omega | (simp only [st_s] <;> omega) | assumption | omega | fail)) (show -1 ≤ n2 from by (first | omega | (simp only [st_s] <;> omega) | assumption | omega | fail)) (show n2 ≤ 60000 from by (first | omega | (simp only [st_s] <;> omega) | assumption | omega | fail)), ?_⟩
          intro τ35 hn_τ35 hf_τ35 hq
          obtain ⟨hT, q33_1, q33_2⟩ := hq
          replace q33_1 : ¬ (σ.1 20) = 0 → (τ35.1 20) = (σ.1 20) := q33_1
          replace q33_2 : (σ.1 20) = 0 → (τ35.1 20) = (14 : Int) := q33_2
          replace ag : m_ag σ τ35 := ag_r ag hf_τ35 rfl rfl
          have w3_τ35 : τ35.1 3 = σ.1 3 := hf_τ35.1 3 (by decide)
          have w5_τ35 : τ35.1 5 = σ.1 5 := hf_τ35.1 5 (by decide)
          have w6_τ35 : τ35.1 6 = σ.1 6 := hf_τ35.1 6 (by decide)
          have w7_τ35 : τ35.1 7 = σ.1 7 := hf_τ35.1 7 (by decide)
          have w8_τ35 : τ35.1 8 = σ.1 8 := hf_τ35.1 8 (by decide)
          have w9_τ35 : τ35.1 9 = σ.1 9 := hf_τ35.1 9 (by decide)
          have w22_τ35 : τ35.1 22 = σ.1 22 := hf_τ35.1 22 (by decide)
          have w25_τ35 : τ35.1 25 = σ.1 25 := hf_τ35.1 25 (by decide)
          have w26_τ35 : τ35.1 26 = σ.1 26 := hf_τ35.1 26 (by decide)
          have w28_τ35 : τ35.1 28 = σ.1 28 := hf_τ35.1 28 (by decide)
          have w29_τ35 : τ35.1 29 = σ.1 29 := hf_τ35.1 29 (by decide)
          have g18_τ35 : τ35.2.1 18 = σ.2.1 18 := hf_τ35.2.1 18 (by decide)
          have g19_τ35 : τ35.2.1 19 = σ.2.1 19 := hf_τ35.2.1 19 (by decide)
          have g20_τ35 : τ35.2.1 20 = σ.2.1 20 := hf_τ35.2.1 20 (by decide)
          have g25_τ35 : τ35.2.1 25 = σ.2.1 25 := hf_τ35.2.1 25 (by decide)
          have g26_τ35 : τ35.2.1 26 = σ.2.1 26 := hf_τ35.2.1 26 (by decide)
          have g27_τ35 : τ35.2.1 27 = σ.2.1 27 := hf_τ35.2.1 27 (by decide)
          have g28_τ35 : τ35.2.1 28 = σ.2.1 28 := hf_τ35.2.1 28 (by decide)
          have g39_τ35 : τ35.2.1 39 = σ.2.1 39 := hf_τ35.2.1 39 (by decide)
          have W3 : τ35.1 3 = σ.1 3 := by first | exact w3_τ35.trans W3 | omega
          have W5 : τ35.1 5 = σ.1 5 := by first | exact w5_τ35.trans W5 | omega
          have W6 : τ35.1 6 = σ.1 6 := by first | exact w6_τ35.trans W6 | omega
          have W7 : τ35.1 7 = σ.1 7 := by first | exact w7_τ35.trans W7 | omega
          have W8 : τ35.1 8 = σ.1 8 := by first | exact w8_τ35.trans W8 | omega
          have W22 : τ35.1 22 = σ.1 22 := by first | exact w22_τ35.trans W22 | omega
          have W25 : τ35.1 25 = σ.1 25 := by first | exact w25_τ35.trans W25 | omega
          have W29 : τ35.1 29 = σ.1 29 := by first | exact w29_τ35.trans W29 | omega
          have G18 : τ35.2.1 18 = σ.2.1 18 := (g18_τ35).trans G18
          have G19 : τ35.2.1 19 = σ.2.1 19 := (g19_τ35).trans G19
          have G20 : τ35.2.1 20 = σ.2.1 20 := (g20_τ35).trans G20
          have G25 : τ35.2.1 25 = σ.2.1 25 := (g25_τ35).trans G25
          have G39 : τ35.2.1 39 = σ.2.1 39 := (g39_τ35).trans G39
          have y18_22_τ35 : τ35.2.1 18 (τ35.1 22) = (σ.2.1 18) (σ.1 22) := by rw [g18_τ35, w22_τ35]
          have y19_22_τ35 : τ35.2.1 19 (τ35.1 22) = (σ.2.1 19) (σ.1 22) := by rw [g19_τ35, w22_τ35]
          have y25_22_τ35 : τ35.2.1 25 (τ35.1 22) = (σ.2.1 25) (σ.1 22) := by rw [g25_τ35, w22_τ35]
          have y26_22_τ35 : τ35.2.1 26 (τ35.1 22) = (σ.2.1 26) (σ.1 22) := by rw [g26_τ35, w22_τ35]
          have y28_9_τ35 : τ35.2.1 28 (τ35.1 9) = (σ.2.1 28) (σ.1 9) := by rw [g28_τ35, w9_τ35]
          have Z4 : τ35.2.1 25 (τ35.1 22) + τ35.2.1 26 (τ35.1 22) = (τ35.1 9) := by rw [show (τ35.2.1 25 (τ35.1 22) + τ35.2.1 26 (τ35.1 22) = (τ35.1 9)) = (σ.2.1 25 (σ.1 22) + σ.2.1 26 (σ.1 22) = (σ.1 9)) from by rw [w9_τ35, w22_τ35, g25_τ35, g26_τ35]]; exact Z4
          have Y10 : ca (τ35.2.1 28) ((τ35.1 9)) ≤ ca (τ35.2.1 28) (τ35.2.1 25 (τ35.1 22)) + (τ35.1 29) := by rw [show (ca (τ35.2.1 28) ((τ35.1 9)) ≤ ca (τ35.2.1 28) (τ35.2.1 25 (τ35.1 22)) + (τ35.1 29)) = (ca (σ.2.1 28) ((σ.1 9)) ≤ ca (σ.2.1 28) (σ.2.1 25 (σ.1 22)) + (σ.1 29)) from by rw [w9_τ35, w22_τ35, w29_τ35, g25_τ35, g28_τ35]]; exact Y10
          have Y12 : ¬ (τ35.1 28) = 0 → τ35.2.1 25 (τ35.1 22) < (τ35.1 9) ∧ τ35.2.1 28 ((τ35.1 9) - 1) = 0 := by rw [show (¬ (τ35.1 28) = 0 → τ35.2.1 25 (τ35.1 22) < (τ35.1 9) ∧ τ35.2.1 28 ((τ35.1 9) - 1) = 0) = (¬ (σ.1 28) = 0 → σ.2.1 25 (σ.1 22) < (σ.1 9) ∧ σ.2.1 28 ((σ.1 9) - 1) = 0) from by rw [w9_τ35, w22_τ35, w28_τ35, g25_τ35, g28_τ35]]; exact Y12
          have Y13 : j_eq (σ.2.1 25 (σ.1 22)) (σ.2.1 28) (τ35.2.1 28) := by rw [show (j_eq (σ.2.1 25 (σ.1 22)) (σ.2.1 28) (τ35.2.1 28)) = (j_eq (σ.2.1 25 (σ.1 22)) (σ.2.1 28) (σ.2.1 28)) from by rw [g28_τ35]]; exact Y13
          have NSP : n_sp2 (τ35.2.1 25 (τ35.1 22)) (τ35.1 9) (τ35.1 22) (τ35.2.1 27) (τ35.2.1 28) := by rw [show (n_sp2 (τ35.2.1 25 (τ35.1 22)) (τ35.1 9) (τ35.1 22) (τ35.2.1 27) (τ35.2.1 28)) = (n_sp2 (σ.2.1 25 (σ.1 22)) (σ.1 9) (σ.1 22) (σ.2.1 27) (σ.2.1 28)) from by rw [w9_τ35, w22_τ35, g25_τ35, g27_τ35, g28_τ35]]; exact NSP
          have Y12c : ¬ (τ35.1 28) = 0 → 0 ≤ τ35.2.1 27 ((τ35.1 9) - 1) := by rw [show (¬ (τ35.1 28) = 0 → 0 ≤ τ35.2.1 27 ((τ35.1 9) - 1)) = (¬ (σ.1 28) = 0 → 0 ≤ σ.2.1 27 ((σ.1 9) - 1)) from by rw [w9_τ35, w28_τ35, g27_τ35]]; exact Y12c
          have PK : ∀ k : Int, 0 ≤ k → k < (τ35.1 25) → τ35.2.1 39 k < (τ35.1 22) := by rw [show (∀ k : Int, 0 ≤ k → k < (τ35.1 25) → τ35.2.1 39 k < (τ35.1 22)) = (∀ k : Int, 0 ≤ k → k < (σ.1 25) → σ.2.1 39 k < (σ.1 22)) from by rw [w22_τ35, w25_τ35, g39_τ35]]; exact PK
          have Y10b : (τ35.1 29) + ca (τ35.2.1 28) (τ35.2.1 25 (τ35.1 22)) ≤ ca (τ35.2.1 28) (τ35.1 9) := by rw [show ((τ35.1 29) + ca (τ35.2.1 28) (τ35.2.1 25 (τ35.1 22)) ≤ ca (τ35.2.1 28) (τ35.1 9)) = ((σ.1 29) + ca (σ.2.1 28) (σ.2.1 25 (σ.1 22)) ≤ ca (σ.2.1 28) (σ.1 9)) from by rw [w9_τ35, w22_τ35, w29_τ35, g25_τ35, g28_τ35]]; exact Y10b
          have HYN : ∀ k : Int, 0 ≤ k → k < τ35.2.1 19 (τ35.1 22) → τ35.2.1 20 (τ35.2.1 18 (τ35.1 22) + k) < (τ35.1 22) := by rw [show (∀ k : Int, 0 ≤ k → k < τ35.2.1 19 (τ35.1 22) → τ35.2.1 20 (τ35.2.1 18 (τ35.1 22) + k) < (τ35.1 22)) = (∀ k : Int, 0 ≤ k → k < σ.2.1 19 (σ.1 22) → σ.2.1 20 (σ.2.1 18 (σ.1 22) + k) < (σ.1 22)) from by rw [w22_τ35, g18_τ35, g19_τ35, g20_τ35]]; exact HYN
          have A18 : ∀ j, 0 ≤ τ35.2.1 18 j ∧ τ35.2.1 18 j ≤ 90000 := fun j => hT.2 18 j
          have A19 : ∀ j, 0 ≤ τ35.2.1 19 j ∧ τ35.2.1 19 j ≤ 60 := fun j => hT.2 19 j
          have A20 : ∀ j, 0 ≤ τ35.2.1 20 j ∧ τ35.2.1 20 j ≤ 1499 := fun j => hT.2 20 j
          have A25 : ∀ j, 0 ≤ τ35.2.1 25 j ∧ τ35.2.1 25 j ≤ 20000 := fun j => hT.2 25 j
          have A26 : ∀ j, 0 ≤ τ35.2.1 26 j ∧ τ35.2.1 26 j ≤ 20000 := fun j => hT.2 26 j
          have A27 : ∀ j, (-300) ≤ τ35.2.1 27 j ∧ τ35.2.1 27 j ≤ 1499 := fun j => hT.2 27 j
          have A28 : ∀ j, 0 ≤ τ35.2.1 28 j ∧ τ35.2.1 28 j ≤ 1 := fun j => hT.2 28 j
          have A39 : ∀ j, 0 ≤ τ35.2.1 39 j ∧ τ35.2.1 39 j ≤ 1499 := fun j => hT.2 39 j
          have v3 : 0 ≤ τ35.1 3 ∧ τ35.1 3 ≤ 1000 := hT.1 3
          have v5 : 0 ≤ τ35.1 5 ∧ τ35.1 5 ≤ 1500 := hT.1 5
          have v6 : 0 ≤ τ35.1 6 ∧ τ35.1 6 ≤ 30000 := hT.1 6
          have v7 : 0 ≤ τ35.1 7 ∧ τ35.1 7 ≤ 90000 := hT.1 7
          have v8 : 0 ≤ τ35.1 8 ∧ τ35.1 8 ≤ 20000 := hT.1 8
          have v9 : 0 ≤ τ35.1 9 ∧ τ35.1 9 ≤ 20000 := hT.1 9
          have v20 : 0 ≤ τ35.1 20 ∧ τ35.1 20 ≤ 19 := hT.1 20
          have v22 : 0 ≤ τ35.1 22 ∧ τ35.1 22 ≤ 1499 := hT.1 22
          have v25 : 0 ≤ τ35.1 25 ∧ τ35.1 25 ≤ 300 := hT.1 25
          have v26 : 0 ≤ τ35.1 26 ∧ τ35.1 26 ≤ 5000010 := hT.1 26
          have v28 : 0 ≤ τ35.1 28 ∧ τ35.1 28 ≤ 1 := hT.1 28
          have v29 : 0 ≤ τ35.1 29 ∧ τ35.1 29 ≤ 300 := hT.1 29
          have a18_22 : 0 ≤ τ35.2.1 18 (τ35.1 22) ∧ τ35.2.1 18 (τ35.1 22) ≤ 90000 := hT.2 18 _
          have a19_22 : 0 ≤ τ35.2.1 19 (τ35.1 22) ∧ τ35.2.1 19 (τ35.1 22) ≤ 60 := hT.2 19 _
          have a25_22 : 0 ≤ τ35.2.1 25 (τ35.1 22) ∧ τ35.2.1 25 (τ35.1 22) ≤ 20000 := hT.2 25 _
          have a26_22 : 0 ≤ τ35.2.1 26 (τ35.1 22) ∧ τ35.2.1 26 (τ35.1 22) ≤ 20000 := hT.2 26 _
          have a28_9 : 0 ≤ τ35.2.1 28 (τ35.1 9) ∧ τ35.2.1 28 (τ35.1 9) ≤ 1 := hT.2 28 _
          have av9 : σ.1 9 ≤ τ35.1 9 := ag.1 9 (by decide)
          refine h196 _ ?_
          replace ag := ag_v (i := 26) (x := 0) ag (Or.inl rfl)
          replace hT := mT_v (i := 26) hT (show (0 : Int) ≤ 0 ∧ 0 ≤ 5000010 from by (first | omega | (simp only [st_s] <;> omega) | assumption | omega | fail))
          replace ag := ag_v (i := 27) (x := 0) ag (Or.inl rfl)
          replace hT := mT_v (i := 27) hT (show (0 : Int) ≤ 0 ∧ 0 ≤ 1 from by (first | omega | (simp only [st_s] <;> omega) | assumption | omega | fail))
          exact ⟨hT, (show ¬ (σ.1 20) = 0 → (τ35.1 20) = (σ.1 20) from by (first | omega | (simp only [st_s] <;> omega) | assumption | omega | fail)), (show τ35.2.1 25 (τ35.1 22) + τ35.2.1 26 (τ35.1 22) = (τ35.1 9) from Z4), (show ca (τ35.2.1 28) ((τ35.1 9)) ≤ ca (τ35.2.1 28) (τ35.2.1 25 (τ35.1 22)) + (τ35.1 29) from Y10), (show ¬ (τ35.1 28) = 0 → τ35.2.1 25 (τ35.1 22) < (τ35.1 9) ∧ τ35.2.1 28 ((τ35.1 9) - 1) = 0 from Y12), (show j_eq (σ.2.1 25 (σ.1 22)) (σ.2.1 28) (τ35.2.1 28) from Y13), (show ((0 : Int)) = 0 from by (first | omega | (simp only [st_s] <;> omega) | assumption | omega | fail)), ag, (show n_sp2 (τ35.2.1 25 (τ35.1 22)) (τ35.1 9) (τ35.1 22) (τ35.2.1 27) (τ35.2.1 28) from NSP), (show (τ35.1 29) + ca (τ35.2.1 28) (τ35.2.1 25 (τ35.1 22)) ≤ ca (τ35.2.1 28) (τ35.1 9) from Y10b), (show ¬ (τ35.1 28) = 0 → 0 ≤ τ35.2.1 27 ((τ35.1 9) - 1) from Y12c)⟩
        ·
          refine h82 _ _ _ ?_
          refine ⟨_, K_X13_fail hT (show 0 ≤ (5 : Int) from by (first | omega | (simp only [st_s] <;> omega) | assumption | omega | fail)) (show (5 : Int) ≤ 19 from by (first | omega | (simp only [st_s] <;> omega) | assumption | omega | fail)) (show -1 ≤ n2 from by (first | omega | (simp only [st_s] <;> omega) | assumption | omega | fail)) (show n2 ≤ 60000 from by (first | omega | (simp only [st_s] <;> omega) | assumption | omega | fail)), ?_⟩
          intro τ35 hn_τ35 hf_τ35 hq
          obtain ⟨hT, q33_1, q33_2⟩ := hq
          replace q33_1 : ¬ (σ.1 20) = 0 → (τ35.1 20) = (σ.1 20) := q33_1
          replace q33_2 : (σ.1 20) = 0 → (τ35.1 20) = (5 : Int) := q33_2
          replace ag : m_ag σ τ35 := ag_r ag hf_τ35 rfl rfl
          have w3_τ35 : τ35.1 3 = σ.1 3 := hf_τ35.1 3 (by decide)
          have w5_τ35 : τ35.1 5 = σ.1 5 := hf_τ35.1 5 (by decide)
          have w6_τ35 : τ35.1 6 = σ.1 6 := hf_τ35.1 6 (by decide)
          have w7_τ35 : τ35.1 7 = σ.1 7 := hf_τ35.1 7 (by decide)
          have w8_τ35 : τ35.1 8 = σ.1 8 := hf_τ35.1 8 (by decide)
          have w9_τ35 : τ35.1 9 = σ.1 9 := hf_τ35.1 9 (by decide)
          have w22_τ35 : τ35.1 22 = σ.1 22 := hf_τ35.1 22 (by decide)
          have w25_τ35 : τ35.1 25 = σ.1 25 := hf_τ35.1 25 (by decide)
          have w26_τ35 : τ35.1 26 = σ.1 26 := hf_τ35.1 26 (by decide)
          have w28_τ35 : τ35.1 28 = σ.1 28 := hf_τ35.1 28 (by decide)
          have w29_τ35 : τ35.1 29 = σ.1 29 := hf_τ35.1 29 (by decide)
          have g18_τ35 : τ35.2.1 18 = σ.2.1 18 := hf_τ35.2.1 18 (by decide)
          have g19_τ35 : τ35.2.1 19 = σ.2.1 19 := hf_τ35.2.1 19 (by decide)
          have g20_τ35 : τ35.2.1 20 = σ.2.1 20 := hf_τ35.2.1 20 (by decide)
          have g25_τ35 : τ35.2.1 25 = σ.2.1 25 := hf_τ35.2.1 25 (by decide)
          have g26_τ35 : τ35.2.1 26 = σ.2.1 26 := hf_τ35.2.1 26 (by decide)
          have g27_τ35 : τ35.2.1 27 = σ.2.1 27 := hf_τ35.2.1 27 (by decide)
          have g28_τ35 : τ35.2.1 28 = σ.2.1 28 := hf_τ35.2.1 28 (by decide)
          have g39_τ35 : τ35.2.1 39 = σ.2.1 39 := hf_τ35.2.1 39 (by decide)
          have W3 : τ35.1 3 = σ.1 3 := by first | exact w3_τ35.trans W3 | omega
          have W5 : τ35.1 5 = σ.1 5 := by first | exact w5_τ35.trans W5 | omega
          have W6 : τ35.1 6 = σ.1 6 := by first | exact w6_τ35.trans W6 | omega
          have W7 : τ35.1 7 = σ.1 7 := by first | exact w7_τ35.trans W7 | omega
          have W8 : τ35.1 8 = σ.1 8 := by first | exact w8_τ35.trans W8 | omega
          have W22 : τ35.1 22 = σ.1 22 := by first | exact w22_τ35.trans W22 | omega
          have W25 : τ35.1 25 = σ.1 25 := by first | exact w25_τ35.trans W25 | omega
          have W29 : τ35.1 29 = σ.1 29 := by first | exact w29_τ35.trans W29 | omega
          have G18 : τ35.2.1 18 = σ.2.1 18 := (g18_τ35).trans G18
          have G19 : τ35.2.1 19 = σ.2.1 19 := (g19_τ35).trans G19
          have G20 : τ35.2.1 20 = σ.2.1 20 := (g20_τ35).trans G20
          have G25 : τ35.2.1 25 = σ.2.1 25 := (g25_τ35).trans G25
          have G39 : τ35.2.1 39 = σ.2.1 39 := (g39_τ35).trans G39
          have y18_22_τ35 : τ35.2.1 18 (τ35.1 22) = (σ.2.1 18) (σ.1 22) := by rw [g18_τ35, w22_τ35]
          have y19_22_τ35 : τ35.2.1 19 (τ35.1 22) = (σ.2.1 19) (σ.1 22) := by rw [g19_τ35, w22_τ35]
          have y25_22_τ35 : τ35.2.1 25 (τ35.1 22) = (σ.2.1 25) (σ.1 22) := by rw [g25_τ35, w22_τ35]
          have y26_22_τ35 : τ35.2.1 26 (τ35.1 22) = (σ.2.1 26) (σ.1 22) := by rw [g26_τ35, w22_τ35]
          have y28_9_τ35 : τ35.2.1 28 (τ35.1 9) = (σ.2.1 28) (σ.1 9) := by rw [g28_τ35, w9_τ35]
          have Z4 : τ35.2.1 25 (τ35.1 22) + τ35.2.1 26 (τ35.1 22) = (τ35.1 9) := by rw [show (τ35.2.1 25 (τ35.1 22) + τ35.2.1 26 (τ35.1 22) = (τ35.1 9)) = (σ.2.1 25 (σ.1 22) + σ.2.1 26 (σ.1 22) = (σ.1 9)) from by rw [w9_τ35, w22_τ35, g25_τ35, g26_τ35]]; exact Z4
          have Y10 : ca (τ35.2.1 28) ((τ35.1 9)) ≤ ca (τ35.2.1 28) (τ35.2.1 25 (τ35.1 22)) + (τ35.1 29) := by rw [show (ca (τ35.2.1 28) ((τ35.1 9)) ≤ ca (τ35.2.1 28) (τ35.2.1 25 (τ35.1 22)) + (τ35.1 29)) = (ca (σ.2.1 28) ((σ.1 9)) ≤ ca (σ.2.1 28) (σ.2.1 25 (σ.1 22)) + (σ.1 29)) from by rw [w9_τ35, w22_τ35, w29_τ35, g25_τ35, g28_τ35]]; exact Y10
          have Y12 : ¬ (τ35.1 28) = 0 → τ35.2.1 25 (τ35.1 22) < (τ35.1 9) ∧ τ35.2.1 28 ((τ35.1 9) - 1) = 0 := by rw [show (¬ (τ35.1 28) = 0 → τ35.2.1 25 (τ35.1 22) < (τ35.1 9) ∧ τ35.2.1 28 ((τ35.1 9) - 1) = 0) = (¬ (σ.1 28) = 0 → σ.2.1 25 (σ.1 22) < (σ.1 9) ∧ σ.2.1 28 ((σ.1 9) - 1) = 0) from by rw [w9_τ35, w22_τ35, w28_τ35, g25_τ35, g28_τ35]]; exact Y12
          have Y13 : j_eq (σ.2.1 25 (σ.1 22)) (σ.2.1 28) (τ35.2.1 28) := by rw [show (j_eq (σ.2.1 25 (σ.1 22)) (σ.2.1 28) (τ35.2.1 28)) = (j_eq (σ.2.1 25 (σ.1 22)) (σ.2.1 28) (σ.2.1 28)) from by rw [g28_τ35]]; exact Y13
          have NSP : n_sp2 (τ35.2.1 25 (τ35.1 22)) (τ35.1 9) (τ35.1 22) (τ35.2.1 27) (τ35.2.1 28) := by rw [show (n_sp2 (τ35.2.1 25 (τ35.1 22)) (τ35.1 9) (τ35.1 22) (τ35.2.1 27) (τ35.2.1 28)) = (n_sp2 (σ.2.1 25 (σ.1 22)) (σ.1 9) (σ.1 22) (σ.2.1 27) (σ.2.1 28)) from by rw [w9_τ35, w22_τ35, g25_τ35, g27_τ35, g28_τ35]]; exact NSP
          have Y12c : ¬ (τ35.1 28) = 0 → 0 ≤ τ35.2.1 27 ((τ35.1 9) - 1) := by rw [show (¬ (τ35.1 28) = 0 → 0 ≤ τ35.2.1 27 ((τ35.1 9) - 1)) = (¬ (σ.1 28) = 0 → 0 ≤ σ.2.1 27 ((σ.1 9) - 1)) from by rw [w9_τ35, w28_τ35, g27_τ35]]; exact Y12c
          have PK : ∀ k : Int, 0 ≤ k → k < (τ35.1 25) → τ35.2.1 39 k < (τ35.1 22) := by rw [show (∀ k : Int, 0 ≤ k → k < (τ35.1 25) → τ35.2.1 39 k < (τ35.1 22)) = (∀ k : Int, 0 ≤ k → k < (σ.1 25) → σ.2.1 39 k < (σ.1 22)) from by rw [w22_τ35, w25_τ35, g39_τ35]]; exact PK
          have Y10b : (τ35.1 29) + ca (τ35.2.1 28) (τ35.2.1 25 (τ35.1 22)) ≤ ca (τ35.2.1 28) (τ35.1 9) := by rw [show ((τ35.1 29) + ca (τ35.2.1 28) (τ35.2.1 25 (τ35.1 22)) ≤ ca (τ35.2.1 28) (τ35.1 9)) = ((σ.1 29) + ca (σ.2.1 28) (σ.2.1 25 (σ.1 22)) ≤ ca (σ.2.1 28) (σ.1 9)) from by rw [w9_τ35, w22_τ35, w29_τ35, g25_τ35, g28_τ35]]; exact Y10b
          have HYN : ∀ k : Int, 0 ≤ k → k < τ35.2.1 19 (τ35.1 22) → τ35.2.1 20 (τ35.2.1 18 (τ35.1 22) + k) < (τ35.1 22) := by rw [show (∀ k : Int, 0 ≤ k → k < τ35.2.1 19 (τ35.1 22) → τ35.2.1 20 (τ35.2.1 18 (τ35.1 22) + k) < (τ35.1 22)) = (∀ k : Int, 0 ≤ k → k < σ.2.1 19 (σ.1 22) → σ.2.1 20 (σ.2.1 18 (σ.1 22) + k) < (σ.1 22)) from by rw [w22_τ35, g18_τ35, g19_τ35, g20_τ35]]; exact HYN
          have A18 : ∀ j, 0 ≤ τ35.2.1 18 j ∧ τ35.2.1 18 j ≤ 90000 := fun j => hT.2 18 j
          have A19 : ∀ j, 0 ≤ τ35.2.1 19 j ∧ τ35.2.1 19 j ≤ 60 := fun j => hT.2 19 j
          have A20 : ∀ j, 0 ≤ τ35.2.1 20 j ∧ τ35.2.1 20 j ≤ 1499 := fun j => hT.2 20 j
          have A25 : ∀ j, 0 ≤ τ35.2.1 25 j ∧ τ35.2.1 25 j ≤ 20000 := fun j => hT.2 25 j
          have A26 : ∀ j, 0 ≤ τ35.2.1 26 j ∧ τ35.2.1 26 j ≤ 20000 := fun j => hT.2 26 j
          have A27 : ∀ j, (-300) ≤ τ35.2.1 27 j ∧ τ35.2.1 27 j ≤ 1499 := fun j => hT.2 27 j
          have A28 : ∀ j, 0 ≤ τ35.2.1 28 j ∧ τ35.2.1 28 j ≤ 1 := fun j => hT.2 28 j
          have A39 : ∀ j, 0 ≤ τ35.2.1 39 j ∧ τ35.2.1 39 j ≤ 1499 := fun j => hT.2 39 j
          have v3 : 0 ≤ τ35.1 3 ∧ τ35.1 3 ≤ 1000 := hT.1 3
          have v5 : 0 ≤ τ35.1 5 ∧ τ35.1 5 ≤ 1500 := hT.1 5
          have v6 : 0 ≤ τ35.1 6 ∧ τ35.1 6 ≤ 30000 := hT.1 6
          have v7 : 0 ≤ τ35.1 7 ∧ τ35.1 7 ≤ 90000 := hT.1 7
          have v8 : 0 ≤ τ35.1 8 ∧ τ35.1 8 ≤ 20000 := hT.1 8
          have v9 : 0 ≤ τ35.1 9 ∧ τ35.1 9 ≤ 20000 := hT.1 9
          have v20 : 0 ≤ τ35.1 20 ∧ τ35.1 20 ≤ 19 := hT.1 20
          have v22 : 0 ≤ τ35.1 22 ∧ τ35.1 22 ≤ 1499 := hT.1 22
          have v25 : 0 ≤ τ35.1 25 ∧ τ35.1 25 ≤ 300 := hT.1 25
          have v26 : 0 ≤ τ35.1 26 ∧ τ35.1 26 ≤ 5000010 := hT.1 26
          have v28 : 0 ≤ τ35.1 28 ∧ τ35.1 28 ≤ 1 := hT.1 28
          have v29 : 0 ≤ τ35.1 29 ∧ τ35.1 29 ≤ 300 := hT.1 29
          have a18_22 : 0 ≤ τ35.2.1 18 (τ35.1 22) ∧ τ35.2.1 18 (τ35.1 22) ≤ 90000 := hT.2 18 _
          have a19_22 : 0 ≤ τ35.2.1 19 (τ35.1 22) ∧ τ35.2.1 19 (τ35.1 22) ≤ 60 := hT.2 19 _
          have a25_22 : 0 ≤ τ35.2.1 25 (τ35.1 22) ∧ τ35.2.1 25 (τ35.1 22) ≤ 20000 := hT.2 25 _
          have a26_22 : 0 ≤ τ35.2.1 26 (τ35.1 22) ∧ τ35.2.1 26 (τ35.1 22) ≤ 20000 := hT.2 26 _
          have a28_9 : 0 ≤ τ35.2.1 28 (τ35.1 9) ∧ τ35.2.1 28 (τ35.1 9) ≤ 1 := hT.2 28 _
          have av9 : σ.1 9 ≤ τ35.1 9 := ag.1 9 (by decide)
          refine h196 _ ?_
          replace ag := ag_v (i := 26) (x := 0) ag (Or.inl rfl)
          replace hT := mT_v (i := 26) hT (show (0 : Int) ≤ 0 ∧ 0 ≤ 5000010 from by (first | omega | (simp only [st_s] <;> omega) | assumption | omega | fail))
          replace ag := ag_v (i := 27) (x := 0) ag (Or.inl rfl)
          replace hT := mT_v (i := 27) hT (show (0 : Int) ≤ 0 ∧ 0 ≤ 1 from by (first | omega | (simp only [st_s] <;> omega) | assumption | omega | fail))
          exact ⟨hT, (show ¬ (σ.1 20) = 0 → (τ35.1 20) = (σ.1 20) from by (first | omega | (simp only [st_s] <;> omega) | assumption | omega | fail)), (show τ35.2.1 25 (τ35.1 22) + τ35.2.1 26 (τ35.1 22) = (τ35.1 9) from Z4), (show ca (τ35.2.1 28) ((τ35.1 9)) ≤ ca (τ35.2.1 28) (τ35.2.1 25 (τ35.1 22)) + (τ35.1 29) from Y10), (show ¬ (τ35.1 28) = 0 → τ35.2.1 25 (τ35.1 22) < (τ35.1 9) ∧ τ35.2.1 28 ((τ35.1 9) - 1) = 0 from Y12), (show j_eq (σ.2.1 25 (σ.1 22)) (σ.2.1 28) (τ35.2.1 28) from Y13), (show ((0 : Int)) = 0 from by (first | omega | (simp only [st_s] <;> omega) | assumption | omega | fail)), ag, (show n_sp2 (τ35.2.1 25 (τ35.1 22)) (τ35.1 9) (τ35.1 22) (τ35.2.1 27) (τ35.2.1 28) from NSP), (show (τ35.1 29) + ca (τ35.2.1 28) (τ35.2.1 25 (τ35.1 22)) ≤ ca (τ35.2.1 28) (τ35.1 9) from Y10b), (show ¬ (τ35.1 28) = 0 → 0 ≤ τ35.2.1 27 ((τ35.1 9) - 1) from Y12c)⟩
    ·
      refine ⟨_, K_X13_fail hT (show 0 ≤ (5 : Int) from by (first | omega | (simp only [st_s] <;> omega) | assumption | omega | fail)) (show (5 : Int) ≤ 19 from by (first | omega | (simp only [st_s] <;> omega) | assumption | omega | fail)) (show -1 ≤ n2 from by (first | omega | (simp only [st_s] <;> omega) | assumption | omega | fail)) (show n2 ≤ 60000 from by (first | omega | (simp only [st_s] <;> omega) | assumption | omega | fail)), ?_⟩
      intro τ25 hn_τ25 hf_τ25 hq
      obtain ⟨hT, q23_1, q23_2⟩ := hq
      replace q23_1 : ¬ (σ.1 20) = 0 → (τ25.1 20) = (σ.1 20) := q23_1
      replace q23_2 : (σ.1 20) = 0 → (τ25.1 20) = (5 : Int) := q23_2
      replace ag : m_ag σ τ25 := ag_r ag hf_τ25 rfl rfl
      have w3_τ25 : τ25.1 3 = σ.1 3 := hf_τ25.1 3 (by decide)
      have w5_τ25 : τ25.1 5 = σ.1 5 := hf_τ25.1 5 (by decide)
      have w6_τ25 : τ25.1 6 = σ.1 6 := hf_τ25.1 6 (by decide)
      have w7_τ25 : τ25.1 7 = σ.1 7 := hf_τ25.1 7 (by decide)
      have w8_τ25 : τ25.1 8 = σ.1 8 := hf_τ25.1 8 (by decide)
      have w9_τ25 : τ25.1 9 = σ.1 9 := hf_τ25.1 9 (by decide)
      have w22_τ25 : τ25.1 22 = σ.1 22 := hf_τ25.1 22 (by decide)
      have w25_τ25 : τ25.1 25 = σ.1 25 := hf_τ25.1 25 (by decide)
      have w26_τ25 : τ25.1 26 = σ.1 26 := hf_τ25.1 26 (by decide)
      have w28_τ25 : τ25.1 28 = σ.1 28 := hf_τ25.1 28 (by decide)
      have w29_τ25 : τ25.1 29 = σ.1 29 := hf_τ25.1 29 (by decide)
      have g18_τ25 : τ25.2.1 18 = σ.2.1 18 := hf_τ25.2.1 18 (by decide)
      have g19_τ25 : τ25.2.1 19 = σ.2.1 19 := hf_τ25.2.1 19 (by decide)
      have g20_τ25 : τ25.2.1 20 = σ.2.1 20 := hf_τ25.2.1 20 (by decide)
      have g25_τ25 : τ25.2.1 25 = σ.2.1 25 := hf_τ25.2.1 25 (by decide)
      have g26_τ25 : τ25.2.1 26 = σ.2.1 26 := hf_τ25.2.1 26 (by decide)
      have g27_τ25 : τ25.2.1 27 = σ.2.1 27 := hf_τ25.2.1 27 (by decide)
      have g28_τ25 : τ25.2.1 28 = σ.2.1 28 := hf_τ25.2.1 28 (by decide)
      have g39_τ25 : τ25.2.1 39 = σ.2.1 39 := hf_τ25.2.1 39 (by decide)
      have W3 : τ25.1 3 = σ.1 3 := by first | exact w3_τ25.trans W3 | omega
      have W5 : τ25.1 5 = σ.1 5 := by first | exact w5_τ25.trans W5 | omega
      have W6 : τ25.1 6 = σ.1 6 := by first | exact w6_τ25.trans W6 | omega
      have W7 : τ25.1 7 = σ.1 7 := by first | exact w7_τ25.trans W7 | omega
      have W8 : τ25.1 8 = σ.1 8 := by first | exact w8_τ25.trans W8 | omega
      have W22 : τ25.1 22 = σ.1 22 := by first | exact w22_τ25.trans W22 | omega
      have W25 : τ25.1 25 = σ.1 25 := by first | exact w25_τ25.trans W25 | omega
      have W29 : τ25.1 29 = σ.1 29 := by first | exact w29_τ25.trans W29 | omega
      have G18 : τ25.2.1 18 = σ.2.1 18 := (g18_τ25).trans G18
      have G19 : τ25.2.1 19 = σ.2.1 19 := (g19_τ25).trans G19
      have G20 : τ25.2.1 20 = σ.2.1 20 := (g20_τ25).trans G20
      have G25 : τ25.2.1 25 = σ.2.1 25 := (g25_τ25).trans G25
      have G39 : τ25.2.1 39 = σ.2.1 39 := (g39_τ25).trans G39
      have y18_22_τ25 : τ25.2.1 18 (τ25.1 22) = (σ.2.1 18) (σ.1 22) := by rw [g18_τ25, w22_τ25]
      have y19_22_τ25 : τ25.2.1 19 (τ25.1 22) = (σ.2.1 19) (σ.1 22) := by rw [g19_τ25, w22_τ25]
      have y25_22_τ25 : τ25.2.1 25 (τ25.1 22) = (σ.2.1 25) (σ.1 22) := by rw [g25_τ25, w22_τ25]
      have y26_22_τ25 : τ25.2.1 26 (τ25.1 22) = (σ.2.1 26) (σ.1 22) := by rw [g26_τ25, w22_τ25]
      have y28_9_τ25 : τ25.2.1 28 (τ25.1 9) = (σ.2.1 28) (σ.1 9) := by rw [g28_τ25, w9_τ25]
      have Z4 : τ25.2.1 25 (τ25.1 22) + τ25.2.1 26 (τ25.1 22) = (τ25.1 9) := by rw [show (τ25.2.1 25 (τ25.1 22) + τ25.2.1 26 (τ25.1 22) = (τ25.1 9)) = (σ.2.1 25 (σ.1 22) + σ.2.1 26 (σ.1 22) = (σ.1 9)) from by rw [w9_τ25, w22_τ25, g25_τ25, g26_τ25]]; exact Z4
      have Y10 : ca (τ25.2.1 28) ((τ25.1 9)) ≤ ca (τ25.2.1 28) (τ25.2.1 25 (τ25.1 22)) + (τ25.1 29) := by rw [show (ca (τ25.2.1 28) ((τ25.1 9)) ≤ ca (τ25.2.1 28) (τ25.2.1 25 (τ25.1 22)) + (τ25.1 29)) = (ca (σ.2.1 28) ((σ.1 9)) ≤ ca (σ.2.1 28) (σ.2.1 25 (σ.1 22)) + (σ.1 29)) from by rw [w9_τ25, w22_τ25, w29_τ25, g25_τ25, g28_τ25]]; exact Y10
      have Y12 : ¬ (τ25.1 28) = 0 → τ25.2.1 25 (τ25.1 22) < (τ25.1 9) ∧ τ25.2.1 28 ((τ25.1 9) - 1) = 0 := by rw [show (¬ (τ25.1 28) = 0 → τ25.2.1 25 (τ25.1 22) < (τ25.1 9) ∧ τ25.2.1 28 ((τ25.1 9) - 1) = 0) = (¬ (σ.1 28) = 0 → σ.2.1 25 (σ.1 22) < (σ.1 9) ∧ σ.2.1 28 ((σ.1 9) - 1) = 0) from by rw [w9_τ25, w22_τ25, w28_τ25, g25_τ25, g28_τ25]]; exact Y12
      have Y13 : j_eq (σ.2.1 25 (σ.1 22)) (σ.2.1 28) (τ25.2.1 28) := by rw [show (j_eq (σ.2.1 25 (σ.1 22)) (σ.2.1 28) (τ25.2.1 28)) = (j_eq (σ.2.1 25 (σ.1 22)) (σ.2.1 28) (σ.2.1 28)) from by rw [g28_τ25]]; exact Y13
      have NSP : n_sp2 (τ25.2.1 25 (τ25.1 22)) (τ25.1 9) (τ25.1 22) (τ25.2.1 27) (τ25.2.1 28) := by rw [show (n_sp2 (τ25.2.1 25 (τ25.1 22)) (τ25.1 9) (τ25.1 22) (τ25.2.1 27) (τ25.2.1 28)) = (n_sp2 (σ.2.1 25 (σ.1 22)) (σ.1 9) (σ.1 22) (σ.2.1 27) (σ.2.1 28)) from by rw [w9_τ25, w22_τ25, g25_τ25, g27_τ25, g28_τ25]]; exact NSP
      have Y12c : ¬ (τ25.1 28) = 0 → 0 ≤ τ25.2.1 27 ((τ25.1 9) - 1) := by rw [show (¬ (τ25.1 28) = 0 → 0 ≤ τ25.2.1 27 ((τ25.1 9) - 1)) = (¬ (σ.1 28) = 0 → 0 ≤ σ.2.1 27 ((σ.1 9) - 1)) from by rw [w9_τ25, w28_τ25, g27_τ25]]; exact Y12c
      have PK : ∀ k : Int, 0 ≤ k → k < (τ25.1 25) → τ25.2.1 39 k < (τ25.1 22) := by rw [show (∀ k : Int, 0 ≤ k → k < (τ25.1 25) → τ25.2.1 39 k < (τ25.1 22)) = (∀ k : Int, 0 ≤ k → k < (σ.1 25) → σ.2.1 39 k < (σ.1 22)) from by rw [w22_τ25, w25_τ25, g39_τ25]]; exact PK
      have Y10b : (τ25.1 29) + ca (τ25.2.1 28) (τ25.2.1 25 (τ25.1 22)) ≤ ca (τ25.2.1 28) (τ25.1 9) := by rw [show ((τ25.1 29) + ca (τ25.2.1 28) (τ25.2.1 25 (τ25.1 22)) ≤ ca (τ25.2.1 28) (τ25.1 9)) = ((σ.1 29) + ca (σ.2.1 28) (σ.2.1 25 (σ.1 22)) ≤ ca (σ.2.1 28) (σ.1 9)) from by rw [w9_τ25, w22_τ25, w29_τ25, g25_τ25, g28_τ25]]; exact Y10b
      have HYN : ∀ k : Int, 0 ≤ k → k < τ25.2.1 19 (τ25.1 22) → τ25.2.1 20 (τ25.2.1 18 (τ25.1 22) + k) < (τ25.1 22) := by rw [show (∀ k : Int, 0 ≤ k → k < τ25.2.1 19 (τ25.1 22) → τ25.2.1 20 (τ25.2.1 18 (τ25.1 22) + k) < (τ25.1 22)) = (∀ k : Int, 0 ≤ k → k < σ.2.1 19 (σ.1 22) → σ.2.1 20 (σ.2.1 18 (σ.1 22) + k) < (σ.1 22)) from by rw [w22_τ25, g18_τ25, g19_τ25, g20_τ25]]; exact HYN
      have A18 : ∀ j, 0 ≤ τ25.2.1 18 j ∧ τ25.2.1 18 j ≤ 90000 := fun j => hT.2 18 j
      have A19 : ∀ j, 0 ≤ τ25.2.1 19 j ∧ τ25.2.1 19 j ≤ 60 := fun j => hT.2 19 j
      have A20 : ∀ j, 0 ≤ τ25.2.1 20 j ∧ τ25.2.1 20 j ≤ 1499 := fun j => hT.2 20 j
      have A25 : ∀ j, 0 ≤ τ25.2.1 25 j ∧ τ25.2.1 25 j ≤ 20000 := fun j => hT.2 25 j
      have A26 : ∀ j, 0 ≤ τ25.2.1 26 j ∧ τ25.2.1 26 j ≤ 20000 := fun j => hT.2 26 j
      have A27 : ∀ j, (-300) ≤ τ25.2.1 27 j ∧ τ25.2.1 27 j ≤ 1499 := fun j => hT.2 27 j
      have A28 : ∀ j, 0 ≤ τ25.2.1 28 j ∧ τ25.2.1 28 j ≤ 1 := fun j => hT.2 28 j
      have A39 : ∀ j, 0 ≤ τ25.2.1 39 j ∧ τ25.2.1 39 j ≤ 1499 := fun j => hT.2 39 j
      have v3 : 0 ≤ τ25.1 3 ∧ τ25.1 3 ≤ 1000 := hT.1 3
      have v5 : 0 ≤ τ25.1 5 ∧ τ25.1 5 ≤ 1500 := hT.1 5
      have v6 : 0 ≤ τ25.1 6 ∧ τ25.1 6 ≤ 30000 := hT.1 6
      have v7 : 0 ≤ τ25.1 7 ∧ τ25.1 7 ≤ 90000 := hT.1 7
      have v8 : 0 ≤ τ25.1 8 ∧ τ25.1 8 ≤ 20000 := hT.1 8
      have v9 : 0 ≤ τ25.1 9 ∧ τ25.1 9 ≤ 20000 := hT.1 9
      have v20 : 0 ≤ τ25.1 20 ∧ τ25.1 20 ≤ 19 := hT.1 20
      have v22 : 0 ≤ τ25.1 22 ∧ τ25.1 22 ≤ 1499 := hT.1 22
      have v25 : 0 ≤ τ25.1 25 ∧ τ25.1 25 ≤ 300 := hT.1 25
      have v26 : 0 ≤ τ25.1 26 ∧ τ25.1 26 ≤ 5000010 := hT.1 26
      have v28 : 0 ≤ τ25.1 28 ∧ τ25.1 28 ≤ 1 := hT.1 28
      have v29 : 0 ≤ τ25.1 29 ∧ τ25.1 29 ≤ 300 := hT.1 29
      have a18_22 : 0 ≤ τ25.2.1 18 (τ25.1 22) ∧ τ25.2.1 18 (τ25.1 22) ≤ 90000 := hT.2 18 _
      have a19_22 : 0 ≤ τ25.2.1 19 (τ25.1 22) ∧ τ25.2.1 19 (τ25.1 22) ≤ 60 := hT.2 19 _
      have a25_22 : 0 ≤ τ25.2.1 25 (τ25.1 22) ∧ τ25.2.1 25 (τ25.1 22) ≤ 20000 := hT.2 25 _
      have a26_22 : 0 ≤ τ25.2.1 26 (τ25.1 22) ∧ τ25.2.1 26 (τ25.1 22) ≤ 20000 := hT.2 26 _
      have a28_9 : 0 ≤ τ25.2.1 28 (τ25.1 9) ∧ τ25.2.1 28 (τ25.1 9) ≤ 1 := hT.2 28 _
      have av9 : σ.1 9 ≤ τ25.1 9 := ag.1 9 (by decide)
      refine h196 _ ?_
      replace ag := ag_v (i := 26) (x := 0) ag (Or.inl rfl)
      replace hT := mT_v (i := 26) hT (show (0 : Int) ≤ 0 ∧ 0 ≤ 5000010 from by (first | omega | (simp only [st_s] <;> omega) | assumption | omega | fail))
      replace ag := ag_v (i := 27) (x := 0) ag (Or.inl rfl)
      replace hT := mT_v (i := 27) hT (show (0 : Int) ≤ 0 ∧ 0 ≤ 1 from by (first | omega | (simp only [st_s] <;> omega) | assumption | omega | fail))
      exact ⟨hT, (show ¬ (σ.1 20) = 0 → (τ25.1 20) = (σ.1 20) from by (first | omega | (simp only [st_s] <;> omega) | assumption | omega | fail)), (show τ25.2.1 25 (τ25.1 22) + τ25.2.1 26 (τ25.1 22) = (τ25.1 9) from Z4), (show ca (τ25.2.1 28) ((τ25.1 9)) ≤ ca (τ25.2.1 28) (τ25.2.1 25 (τ25.1 22)) + (τ25.1 29) from Y10), (show ¬ (τ25.1 28) = 0 → τ25.2.1 25 (τ25.1 22) < (τ25.1 9) ∧ τ25.2.1 28 ((τ25.1 9) - 1) = 0 from Y12), (show j_eq (σ.2.1 25 (σ.1 22)) (σ.2.1 28) (τ25.2.1 28) from Y13), (show ((0 : Int)) = 0 from by (first | omega | (simp only [st_s] <;> omega) | assumption | omega | fail)), ag, (show n_sp2 (τ25.2.1 25 (τ25.1 22)) (τ25.1 9) (τ25.1 22) (τ25.2.1 27) (τ25.2.1 28) from NSP), (show (τ25.1 29) + ca (τ25.2.1 28) (τ25.2.1 25 (τ25.1 22)) ≤ ca (τ25.2.1 28) (τ25.1 9) from Y10b), (show ¬ (τ25.1 28) = 0 → 0 ≤ τ25.2.1 27 ((τ25.1 9) - 1) from Y12c)⟩
set_option maxHeartbeats 4000000 in
theorem K3_X13_readLetter {n1 : Int} {n2 : Int} {σ : S0} (hT : m_T σ) (p1 : -1000 ≤ n1) (p2 : n1 ≤ 1000) (p3 : 0 ≤ n2) (p4 : n2 ≤ 60000) (p5 : (σ.1 26) ≤ 1000000) (p6 : (σ.1 22) = (σ.1 5)) (p7 : σ.2.1 25 (σ.1 22) + σ.2.1 26 (σ.1 22) = (σ.1 9)) (p8 : ca (σ.2.1 28) ((σ.1 9)) ≤ ca (σ.2.1 28) (σ.2.1 25 (σ.1 22)) + (σ.1 29)) (p9 : ¬ (σ.1 28) = 0 → σ.2.1 25 (σ.1 22) < (σ.1 9) ∧ σ.2.1 28 ((σ.1 9) - 1) = 0) (p10 : n_sp2 (σ.2.1 25 (σ.1 22)) (σ.1 9) (σ.1 22) (σ.2.1 27) (σ.2.1 28)) (p11 : (σ.1 29) + ca (σ.2.1 28) (σ.2.1 25 (σ.1 22)) ≤ ca (σ.2.1 28) (σ.1 9)) (p12 : ∀ k : Int, 0 ≤ k → k < (σ.1 25) → σ.2.1 39 k < (σ.1 22)) (p13 : ∀ k : Int, 0 ≤ k → k < σ.2.1 19 (σ.1 22) → σ.2.1 20 (σ.2.1 18 (σ.1 22) + k) < (σ.1 22)) (p14 : ¬ (σ.1 28) = 0 → 0 ≤ σ.2.1 27 ((σ.1 9) - 1)) : W_X13_readLetter n1 n2 σ (fun (τ : S0) => (m_T τ) ∧ (¬ (σ.1 20) = 0 → (τ.1 20) = (σ.1 20)) ∧ (τ.2.1 25 (τ.1 22) + τ.2.1 26 (τ.1 22) = (τ.1 9)) ∧ (ca (τ.2.1 28) ((τ.1 9)) ≤ ca (τ.2.1 28) (τ.2.1 25 (τ.1 22)) + (τ.1 29)) ∧ (¬ (τ.1 28) = 0 → τ.2.1 25 (τ.1 22) < (τ.1 9) ∧ τ.2.1 28 ((τ.1 9) - 1) = 0) ∧ (j_eq (σ.2.1 25 (σ.1 22)) (σ.2.1 28) (τ.2.1 28)) ∧ ((τ.1 20) = 0 → (τ.1 26) ≤ 1000000) ∧ (m_ag σ τ) ∧ (n_sp2 (τ.2.1 25 (τ.1 22)) (τ.1 9) (τ.1 22) (τ.2.1 27) (τ.2.1 28)) ∧ ((τ.1 29) + ca (τ.2.1 28) (τ.2.1 25 (τ.1 22)) ≤ ca (τ.2.1 28) (τ.1 9)) ∧ (¬ (τ.1 28) = 0 → 0 ≤ τ.2.1 27 ((τ.1 9) - 1))) := by
  have A18 : ∀ j, 0 ≤ σ.2.1 18 j ∧ σ.2.1 18 j ≤ 90000 := fun j => hT.2 18 j
  have A19 : ∀ j, 0 ≤ σ.2.1 19 j ∧ σ.2.1 19 j ≤ 60 := fun j => hT.2 19 j
  have A20 : ∀ j, 0 ≤ σ.2.1 20 j ∧ σ.2.1 20 j ≤ 1499 := fun j => hT.2 20 j
  have A25 : ∀ j, 0 ≤ σ.2.1 25 j ∧ σ.2.1 25 j ≤ 20000 := fun j => hT.2 25 j
  have A26 : ∀ j, 0 ≤ σ.2.1 26 j ∧ σ.2.1 26 j ≤ 20000 := fun j => hT.2 26 j
  have A27 : ∀ j, (-300) ≤ σ.2.1 27 j ∧ σ.2.1 27 j ≤ 1499 := fun j => hT.2 27 j
  have A28 : ∀ j, 0 ≤ σ.2.1 28 j ∧ σ.2.1 28 j ≤ 1 := fun j => hT.2 28 j
  have A39 : ∀ j, 0 ≤ σ.2.1 39 j ∧ σ.2.1 39 j ≤ 1499 := fun j => hT.2 39 j
  have v3 : 0 ≤ σ.1 3 ∧ σ.1 3 ≤ 1000 := hT.1 3
  have v5 : 0 ≤ σ.1 5 ∧ σ.1 5 ≤ 1500 := hT.1 5
  have v6 : 0 ≤ σ.1 6 ∧ σ.1 6 ≤ 30000 := hT.1 6
  have v7 : 0 ≤ σ.1 7 ∧ σ.1 7 ≤ 90000 := hT.1 7
  have v8 : 0 ≤ σ.1 8 ∧ σ.1 8 ≤ 20000 := hT.1 8
  have v9 : 0 ≤ σ.1 9 ∧ σ.1 9 ≤ 20000 := hT.1 9
  have v20 : 0 ≤ σ.1 20 ∧ σ.1 20 ≤ 19 := hT.1 20
  have v22 : 0 ≤ σ.1 22 ∧ σ.1 22 ≤ 1499 := hT.1 22
  have v25 : 0 ≤ σ.1 25 ∧ σ.1 25 ≤ 300 := hT.1 25
  have v26 : 0 ≤ σ.1 26 ∧ σ.1 26 ≤ 5000010 := hT.1 26
  have v27 : 0 ≤ σ.1 27 ∧ σ.1 27 ≤ 1 := hT.1 27
  have v28 : 0 ≤ σ.1 28 ∧ σ.1 28 ≤ 1 := hT.1 28
  have v29 : 0 ≤ σ.1 29 ∧ σ.1 29 ≤ 300 := hT.1 29
  have a18_22 : 0 ≤ σ.2.1 18 (σ.1 22) ∧ σ.2.1 18 (σ.1 22) ≤ 90000 := hT.2 18 _
  have a19_22 : 0 ≤ σ.2.1 19 (σ.1 22) ∧ σ.2.1 19 (σ.1 22) ≤ 60 := hT.2 19 _
  have a25_22 : 0 ≤ σ.2.1 25 (σ.1 22) ∧ σ.2.1 25 (σ.1 22) ≤ 20000 := hT.2 25 _
  have a26_22 : 0 ≤ σ.2.1 26 (σ.1 22) ∧ σ.2.1 26 (σ.1 22) ≤ 20000 := hT.2 26 _
  have W3 : σ.1 3 = σ.1 3 := rfl
  have W5 : σ.1 5 = σ.1 5 := rfl
  have W6 : σ.1 6 = σ.1 6 := rfl
  have W7 : σ.1 7 = σ.1 7 := rfl
  have W8 : σ.1 8 = σ.1 8 := rfl
  have W22 : σ.1 22 = σ.1 22 := rfl
  have W25 : σ.1 25 = σ.1 25 := rfl
  have G18 : σ.2.1 18 = σ.2.1 18 := rfl
  have G19 : σ.2.1 19 = σ.2.1 19 := rfl
  have G20 : σ.2.1 20 = σ.2.1 20 := rfl
  have G25 : σ.2.1 25 = σ.2.1 25 := rfl
  have G39 : σ.2.1 39 = σ.2.1 39 := rfl
  have ag : m_ag σ σ := ag_0 σ
  intro P124 P197 h124 h197
  have Y13 := j_eq0 (σ.2.1 25 (σ.1 22)) (σ.2.1 28)
  have Z4 : σ.2.1 25 (σ.1 22) + σ.2.1 26 (σ.1 22) = (σ.1 9) := p7
  have Y10 : ca (σ.2.1 28) ((σ.1 9)) ≤ ca (σ.2.1 28) (σ.2.1 25 (σ.1 22)) + (σ.1 29) := p8
  have Y12 : ¬ (σ.1 28) = 0 → σ.2.1 25 (σ.1 22) < (σ.1 9) ∧ σ.2.1 28 ((σ.1 9) - 1) = 0 := p9
  have NSP : n_sp2 (σ.2.1 25 (σ.1 22)) (σ.1 9) (σ.1 22) (σ.2.1 27) (σ.2.1 28) := p10
  have Y12c : ¬ (σ.1 28) = 0 → 0 ≤ σ.2.1 27 ((σ.1 9) - 1) := p14
  have PK : ∀ k : Int, 0 ≤ k → k < (σ.1 25) → σ.2.1 39 k < (σ.1 22) := p12
  have Y10b : (σ.1 29) + ca (σ.2.1 28) (σ.2.1 25 (σ.1 22)) ≤ ca (σ.2.1 28) (σ.1 9) := p11
  have HYN : ∀ k : Int, 0 ≤ k → k < σ.2.1 19 (σ.1 22) → σ.2.1 20 (σ.2.1 18 (σ.1 22) + k) < (σ.1 22) := p13
  have HYN_0 := HYN
  have NSP_0 := NSP
  have PK_0 := PK
  have Y10_0 := Y10
  have Y10b_0 := Y10b
  have Y12_0 := Y12
  have Y12c_0 := Y12c
  have Y13_0 := Y13
  have Z4_0 := Z4
  refine ⟨_, K_X13_isIn hT, ?_⟩
  intro x2 r_x2 hq
  obtain ⟨q1_1, q1_2⟩ := hq
  replace q1_1 : 0 ≤ x2 ∧ x2 ≤ 1 := q1_1
  replace q1_2 : x2 = 1 ↔ ((65 : Int64) ≤ (j_of n1) ∧ (j_of n1) ≤ (84 : Int64)) := q1_2
  have ii := in_i (show x2 = 1 ↔ (j_of 65 ≤ j_of n1 ∧ j_of n1 ≤ j_of 84) from q1_2) (by unfold rg; omega) (by unfold rg; omega) (by unfold rg; omega)
  refine ⟨fun c4 => ?_, fun c4 => ?_⟩
  ·
    refine ⟨_, K_X13_isIn hT, ?_⟩
    intro x6 r_x6 hq
    obtain ⟨q5_1, q5_2⟩ := hq
    replace q5_1 : 0 ≤ x6 ∧ x6 ≤ 1 := q5_1
    replace q5_2 : x6 = 1 ↔ ((85 : Int64) ≤ (j_of n1) ∧ (j_of n1) ≤ (89 : Int64)) := q5_2
    have ij := in_i (show x6 = 1 ↔ (j_of 85 ≤ j_of n1 ∧ j_of n1 ≤ j_of 89) from q5_2) (by unfold rg; omega) (by unfold rg; omega) (by unfold rg; omega)
    refine ⟨fun c8 => ?_, fun c8 => ?_⟩
    ·
      refine ⟨fun c9 => ?_, fun c9 => ?_⟩
      ·
        refine ⟨fun c10 => ?_, fun c10 => ?_⟩
        ·
          refine h197 _ _ ?_
          refine ⟨_, K_X13_fail hT (show 0 ≤ (14 : Int) from by (first | omega | (simp only [st_s] <;> omega) | assumption | omega | fail)) (show (14 : Int) ≤ 19 from by (first | omega | (simp only [st_s] <;> omega) | assumption | omega | fail)) (show -1 ≤ n2 from by (first | omega | (simp only [st_s] <;> omega) | assumption | omega | fail)) (show n2 ≤ 60000 from by (first | omega | (simp only [st_s] <;> omega) | assumption | omega | fail)), ?_⟩
          intro τ28 hn_τ28 hf_τ28 hq
          obtain ⟨hT, q26_1, q26_2⟩ := hq
          replace q26_1 : ¬ (σ.1 20) = 0 → (τ28.1 20) = (σ.1 20) := q26_1
          replace q26_2 : (σ.1 20) = 0 → (τ28.1 20) = (14 : Int) := q26_2
          replace ag : m_ag σ τ28 := ag_r ag hf_τ28 rfl rfl
          have w3_τ28 : τ28.1 3 = σ.1 3 := hf_τ28.1 3 (by decide)
          have w5_τ28 : τ28.1 5 = σ.1 5 := hf_τ28.1 5 (by decide)
          have w6_τ28 : τ28.1 6 = σ.1 6 := hf_τ28.1 6 (by decide)
          have w7_τ28 : τ28.1 7 = σ.1 7 := hf_τ28.1 7 (by decide)
          have w8_τ28 : τ28.1 8 = σ.1 8 := hf_τ28.1 8 (by decide)
          have w9_τ28 : τ28.1 9 = σ.1 9 := hf_τ28.1 9 (by decide)
          have w22_τ28 : τ28.1 22 = σ.1 22 := hf_τ28.1 22 (by decide)
          have w25_τ28 : τ28.1 25 = σ.1 25 := hf_τ28.1 25 (by decide)
          have w26_τ28 : τ28.1 26 = σ.1 26 := hf_τ28.1 26 (by decide)
          have w27_τ28 : τ28.1 27 = σ.1 27 := hf_τ28.1 27 (by decide)
          have w28_τ28 : τ28.1 28 = σ.1 28 := hf_τ28.1 28 (by decide)
          have w29_τ28 : τ28.1 29 = σ.1 29 := hf_τ28.1 29 (by decide)
          have g18_τ28 : τ28.2.1 18 = σ.2.1 18 := hf_τ28.2.1 18 (by decide)
          have g19_τ28 : τ28.2.1 19 = σ.2.1 19 := hf_τ28.2.1 19 (by decide)
          have g20_τ28 : τ28.2.1 20 = σ.2.1 20 := hf_τ28.2.1 20 (by decide)
          have g25_τ28 : τ28.2.1 25 = σ.2.1 25 := hf_τ28.2.1 25 (by decide)
          have g26_τ28 : τ28.2.1 26 = σ.2.1 26 := hf_τ28.2.1 26 (by decide)
          have g27_τ28 : τ28.2.1 27 = σ.2.1 27 := hf_τ28.2.1 27 (by decide)
          have g28_τ28 : τ28.2.1 28 = σ.2.1 28 := hf_τ28.2.1 28 (by decide)
          have g39_τ28 : τ28.2.1 39 = σ.2.1 39 := hf_τ28.2.1 39 (by decide)
          have W3 : τ28.1 3 = σ.1 3 := by first | exact w3_τ28.trans W3 | omega
          have W5 : τ28.1 5 = σ.1 5 := by first | exact w5_τ28.trans W5 | omega
          have W6 : τ28.1 6 = σ.1 6 := by first | exact w6_τ28.trans W6 | omega
          have W7 : τ28.1 7 = σ.1 7 := by first | exact w7_τ28.trans W7 | omega
          have W8 : τ28.1 8 = σ.1 8 := by first | exact w8_τ28.trans W8 | omega
          have W22 : τ28.1 22 = σ.1 22 := by first | exact w22_τ28.trans W22 | omega
          have W25 : τ28.1 25 = σ.1 25 := by first | exact w25_τ28.trans W25 | omega
          have G18 : τ28.2.1 18 = σ.2.1 18 := (g18_τ28).trans G18
          have G19 : τ28.2.1 19 = σ.2.1 19 := (g19_τ28).trans G19
          have G20 : τ28.2.1 20 = σ.2.1 20 := (g20_τ28).trans G20
          have G25 : τ28.2.1 25 = σ.2.1 25 := (g25_τ28).trans G25
          have G39 : τ28.2.1 39 = σ.2.1 39 := (g39_τ28).trans G39
          have y18_22_τ28 : τ28.2.1 18 (τ28.1 22) = (σ.2.1 18) (σ.1 22) := by rw [g18_τ28, w22_τ28]
          have y19_22_τ28 : τ28.2.1 19 (τ28.1 22) = (σ.2.1 19) (σ.1 22) := by rw [g19_τ28, w22_τ28]
          have y25_22_τ28 : τ28.2.1 25 (τ28.1 22) = (σ.2.1 25) (σ.1 22) := by rw [g25_τ28, w22_τ28]
          have y26_22_τ28 : τ28.2.1 26 (τ28.1 22) = (σ.2.1 26) (σ.1 22) := by rw [g26_τ28, w22_τ28]
          have Z4 : τ28.2.1 25 (τ28.1 22) + τ28.2.1 26 (τ28.1 22) = (τ28.1 9) := by rw [show (τ28.2.1 25 (τ28.1 22) + τ28.2.1 26 (τ28.1 22) = (τ28.1 9)) = (σ.2.1 25 (σ.1 22) + σ.2.1 26 (σ.1 22) = (σ.1 9)) from by rw [w9_τ28, w22_τ28, g25_τ28, g26_τ28]]; exact Z4
          have Y10 : ca (τ28.2.1 28) ((τ28.1 9)) ≤ ca (τ28.2.1 28) (τ28.2.1 25 (τ28.1 22)) + (τ28.1 29) := by rw [show (ca (τ28.2.1 28) ((τ28.1 9)) ≤ ca (τ28.2.1 28) (τ28.2.1 25 (τ28.1 22)) + (τ28.1 29)) = (ca (σ.2.1 28) ((σ.1 9)) ≤ ca (σ.2.1 28) (σ.2.1 25 (σ.1 22)) + (σ.1 29)) from by rw [w9_τ28, w22_τ28, w29_τ28, g25_τ28, g28_τ28]]; exact Y10
          have Y12 : ¬ (τ28.1 28) = 0 → τ28.2.1 25 (τ28.1 22) < (τ28.1 9) ∧ τ28.2.1 28 ((τ28.1 9) - 1) = 0 := by rw [show (¬ (τ28.1 28) = 0 → τ28.2.1 25 (τ28.1 22) < (τ28.1 9) ∧ τ28.2.1 28 ((τ28.1 9) - 1) = 0) = (¬ (σ.1 28) = 0 → σ.2.1 25 (σ.1 22) < (σ.1 9) ∧ σ.2.1 28 ((σ.1 9) - 1) = 0) from by rw [w9_τ28, w22_τ28, w28_τ28, g25_τ28, g28_τ28]]; exact Y12
          have Y13 : j_eq (σ.2.1 25 (σ.1 22)) (σ.2.1 28) (τ28.2.1 28) := by rw [show (j_eq (σ.2.1 25 (σ.1 22)) (σ.2.1 28) (τ28.2.1 28)) = (j_eq (σ.2.1 25 (σ.1 22)) (σ.2.1 28) (σ.2.1 28)) from by rw [g28_τ28]]; exact Y13
          have NSP : n_sp2 (τ28.2.1 25 (τ28.1 22)) (τ28.1 9) (τ28.1 22) (τ28.2.1 27) (τ28.2.1 28) := by rw [show (n_sp2 (τ28.2.1 25 (τ28.1 22)) (τ28.1 9) (τ28.1 22) (τ28.2.1 27) (τ28.2.1 28)) = (n_sp2 (σ.2.1 25 (σ.1 22)) (σ.1 9) (σ.1 22) (σ.2.1 27) (σ.2.1 28)) from by rw [w9_τ28, w22_τ28, g25_τ28, g27_τ28, g28_τ28]]; exact NSP
          have Y12c : ¬ (τ28.1 28) = 0 → 0 ≤ τ28.2.1 27 ((τ28.1 9) - 1) := by rw [show (¬ (τ28.1 28) = 0 → 0 ≤ τ28.2.1 27 ((τ28.1 9) - 1)) = (¬ (σ.1 28) = 0 → 0 ≤ σ.2.1 27 ((σ.1 9) - 1)) from by rw [w9_τ28, w28_τ28, g27_τ28]]; exact Y12c
          have PK : ∀ k : Int, 0 ≤ k → k < (τ28.1 25) → τ28.2.1 39 k < (τ28.1 22) := by rw [show (∀ k : Int, 0 ≤ k → k < (τ28.1 25) → τ28.2.1 39 k < (τ28.1 22)) = (∀ k : Int, 0 ≤ k → k < (σ.1 25) → σ.2.1 39 k < (σ.1 22)) from by rw [w22_τ28, w25_τ28, g39_τ28]]; exact PK
          have Y10b : (τ28.1 29) + ca (τ28.2.1 28) (τ28.2.1 25 (τ28.1 22)) ≤ ca (τ28.2.1 28) (τ28.1 9) := by rw [show ((τ28.1 29) + ca (τ28.2.1 28) (τ28.2.1 25 (τ28.1 22)) ≤ ca (τ28.2.1 28) (τ28.1 9)) = ((σ.1 29) + ca (σ.2.1 28) (σ.2.1 25 (σ.1 22)) ≤ ca (σ.2.1 28) (σ.1 9)) from by rw [w9_τ28, w22_τ28, w29_τ28, g25_τ28, g28_τ28]]; exact Y10b
          have HYN : ∀ k : Int, 0 ≤ k → k < τ28.2.1 19 (τ28.1 22) → τ28.2.1 20 (τ28.2.1 18 (τ28.1 22) + k) < (τ28.1 22) := by rw [show (∀ k : Int, 0 ≤ k → k < τ28.2.1 19 (τ28.1 22) → τ28.2.1 20 (τ28.2.1 18 (τ28.1 22) + k) < (τ28.1 22)) = (∀ k : Int, 0 ≤ k → k < σ.2.1 19 (σ.1 22) → σ.2.1 20 (σ.2.1 18 (σ.1 22) + k) < (σ.1 22)) from by rw [w22_τ28, g18_τ28, g19_τ28, g20_τ28]]; exact HYN
          have A18 : ∀ j, 0 ≤ τ28.2.1 18 j ∧ τ28.2.1 18 j ≤ 90000 := fun j => hT.2 18 j
          have A19 : ∀ j, 0 ≤ τ28.2.1 19 j ∧ τ28.2.1 19 j ≤ 60 := fun j => hT.2 19 j
          have A20 : ∀ j, 0 ≤ τ28.2.1 20 j ∧ τ28.2.1 20 j ≤ 1499 := fun j => hT.2 20 j
          have A25 : ∀ j, 0 ≤ τ28.2.1 25 j ∧ τ28.2.1 25 j ≤ 20000 := fun j => hT.2 25 j
          have A26 : ∀ j, 0 ≤ τ28.2.1 26 j ∧ τ28.2.1 26 j ≤ 20000 := fun j => hT.2 26 j
          have A27 : ∀ j, (-300) ≤ τ28.2.1 27 j ∧ τ28.2.1 27 j ≤ 1499 := fun j => hT.2 27 j
          have A28 : ∀ j, 0 ≤ τ28.2.1 28 j ∧ τ28.2.1 28 j ≤ 1 := fun j => hT.2 28 j
          have A39 : ∀ j, 0 ≤ τ28.2.1 39 j ∧ τ28.2.1 39 j ≤ 1499 := fun j => hT.2 39 j
          have v3 : 0 ≤ τ28.1 3 ∧ τ28.1 3 ≤ 1000 := hT.1 3
          have v5 : 0 ≤ τ28.1 5 ∧ τ28.1 5 ≤ 1500 := hT.1 5
          have v6 : 0 ≤ τ28.1 6 ∧ τ28.1 6 ≤ 30000 := hT.1 6
          have v7 : 0 ≤ τ28.1 7 ∧ τ28.1 7 ≤ 90000 := hT.1 7
          have v8 : 0 ≤ τ28.1 8 ∧ τ28.1 8 ≤ 20000 := hT.1 8
          have v9 : 0 ≤ τ28.1 9 ∧ τ28.1 9 ≤ 20000 := hT.1 9
          have v20 : 0 ≤ τ28.1 20 ∧ τ28.1 20 ≤ 19 := hT.1 20
          have v22 : 0 ≤ τ28.1 22 ∧ τ28.1 22 ≤ 1499 := hT.1 22
          have v25 : 0 ≤ τ28.1 25 ∧ τ28.1 25 ≤ 300 := hT.1 25
          have v26 : 0 ≤ τ28.1 26 ∧ τ28.1 26 ≤ 5000010 := hT.1 26
          have v27 : 0 ≤ τ28.1 27 ∧ τ28.1 27 ≤ 1 := hT.1 27
          have v28 : 0 ≤ τ28.1 28 ∧ τ28.1 28 ≤ 1 := hT.1 28
          have v29 : 0 ≤ τ28.1 29 ∧ τ28.1 29 ≤ 300 := hT.1 29
          have a18_22 : 0 ≤ τ28.2.1 18 (τ28.1 22) ∧ τ28.2.1 18 (τ28.1 22) ≤ 90000 := hT.2 18 _
          have a19_22 : 0 ≤ τ28.2.1 19 (τ28.1 22) ∧ τ28.2.1 19 (τ28.1 22) ≤ 60 := hT.2 19 _
          have a25_22 : 0 ≤ τ28.2.1 25 (τ28.1 22) ∧ τ28.2.1 25 (τ28.1 22) ≤ 20000 := hT.2 25 _
          have a26_22 : 0 ≤ τ28.2.1 26 (τ28.1 22) ∧ τ28.2.1 26 (τ28.1 22) ≤ 20000 := hT.2 26 _
          have av9 : σ.1 9 ≤ τ28.1 9 := ag.1 9 (by decide)
          exact ⟨hT, (show ¬ (σ.1 20) = 0 → (τ28.1 20) = (σ.1 20) from by (first | omega | (simp only [st_s] <;> omega) | assumption | omega | fail)), (show τ28.2.1 25 (τ28.1 22) + τ28.2.1 26 (τ28.1 22) = (τ28.1 9) from Z4), (show ca (τ28.2.1 28) ((τ28.1 9)) ≤ ca (τ28.2.1 28) (τ28.2.1 25 (τ28.1 22)) + (τ28.1 29) from Y10), (show ¬ (τ28.1 28) = 0 → τ28.2.1 25 (τ28.1 22) < (τ28.1 9) ∧ τ28.2.1 28 ((τ28.1 9) - 1) = 0 from Y12), (show j_eq (σ.2.1 25 (σ.1 22)) (σ.2.1 28) (τ28.2.1 28) from Y13), (show (τ28.1 20) = 0 → (τ28.1 26) ≤ 1000000 from by (first | omega | (simp only [st_s] <;> omega) | assumption | omega | fail)), ag, (show n_sp2 (τ28.2.1 25 (τ28.1 22)) (τ28.1 9) (τ28.1 22) (τ28.2.1 27) (τ28.2.1 28) from NSP), (show (τ28.1 29) + ca (τ28.2.1 28) (τ28.2.1 25 (τ28.1 22)) ≤ ca (τ28.2.1 28) (τ28.1 9) from Y10b), (show ¬ (τ28.1 28) = 0 → 0 ≤ τ28.2.1 27 ((τ28.1 9) - 1) from Y12c)⟩
        ·
          refine ⟨fun c11 => ?_, fun c11 => ?_⟩
          ·
            refine h197 _ _ ?_
            refine ⟨_, K_X13_fail hT (show 0 ≤ (14 : Int) from by (first | omega | (simp only [st_s] <;> omega) | assumption | omega | fail)) (show (14 : Int) ≤ 19 from by (first | omega | (simp only [st_s] <;> omega) | assumption | omega | fail)) (show -1 ≤ n2 from by (first | omega | (simp only [st_s] <;> omega) | assumption | omega | fail)) (show n2 ≤ 60000 from by (first | omega | (simp only [st_s] <;> omega) | assumption | omega | fail)), ?_⟩
            intro τ28 hn_τ28 hf_τ28 hq
            obtain ⟨hT, q26_1, q26_2⟩ := hq
            replace q26_1 : ¬ (σ.1 20) = 0 → (τ28.1 20) = (σ.1 20) := q26_1
            replace q26_2 : (σ.1 20) = 0 → (τ28.1 20) = (14 : Int) := q26_2
            replace ag : m_ag σ τ28 := ag_r ag hf_τ28 rfl rfl
            have w3_τ28 : τ28.1 3 = σ.1 3 := hf_τ28.1 3 (by decide)
            have w5_τ28 : τ28.1 5 = σ.1 5 := hf_τ28.1 5 (by decide)
            have w6_τ28 : τ28.1 6 = σ.1 6 := hf_τ28.1 6 (by decide)
            have w7_τ28 : τ28.1 7 = σ.1 7 := hf_τ28.1 7 (by decide)
            have w8_τ28 : τ28.1 8 = σ.1 8 := hf_τ28.1 8 (by decide)
            have w9_τ28 : τ28.1 9 = σ.1 9 := hf_τ28.1 9 (by decide)
            have w22_τ28 : τ28.1 22 = σ.1 22 := hf_τ28.1 22 (by decide)
            have w25_τ28 : τ28.1 25 = σ.1 25 := hf_τ28.1 25 (by decide)
            have w26_τ28 : τ28.1 26 = σ.1 26 := hf_τ28.1 26 (by decide)
            have w27_τ28 : τ28.1 27 = σ.1 27 := hf_τ28.1 27 (by decide)
            have w28_τ28 : τ28.1 28 = σ.1 28 := hf_τ28.1 28 (by decide)
            have w29_τ28 : τ28.1 29 = σ.1 29 := hf_τ28.1 29 (by decide)
            have g18_τ28 : τ28.2.1 18 = σ.2.1 18 := hf_τ28.2.1 18 (by decide)
            have g19_τ28 : τ28.2.1 19 = σ.2.1 19 := hf_τ28.2.1 19 (by decide)
            have g20_τ28 : τ28.2.1 20 = σ.2.1 20 := hf_τ28.2.1 20 (by decide)
            have g25_τ28 : τ28.2.1 25 = σ.2.1 25 := hf_τ28.2.1 25 (by decide)
            have g26_τ28 : τ28.2.1 26 = σ.2.1 26 := hf_τ28.2.1 26 (by decide)
            have g27_τ28 : τ28.2.1 27 = σ.2.1 27 := hf_τ28.2.1 27 (by decide)
            have g28_τ28 : τ28.2.1 28 = σ.2.1 28 := hf_τ28.2.1 28 (by decide)
            have g39_τ28 : τ28.2.1 39 = σ.2.1 39 := hf_τ28.2.1 39 (by decide)
            have W3 : τ28.1 3 = σ.1 3 := by first | exact w3_τ28.trans W3 | omega
            have W5 : τ28.1 5 = σ.1 5 := by first | exact w5_τ28.trans W5 | omega
            have W6 : τ28.1 6 = σ.1 6 := by first | exact w6_τ28.trans W6 | omega
            have W7 : τ28.1 7 = σ.1 7 := by first | exact w7_τ28.trans W7 | omega
            have W8 : τ28.1 8 = σ.1 8 := by first | exact w8_τ28.trans W8 | omega
            have W22 : τ28.1 22 = σ.1 22 := by first | exact w22_τ28.trans W22 | omega
            have W25 : τ28.1 25 = σ.1 25 := by first | exact w25_τ28.trans W25 | omega
            have G18 : τ28.2.1 18 = σ.2.1 18 := (g18_τ28).trans G18
            have G19 : τ28.2.1 19 = σ.2.1 19 := (g19_τ28).trans G19
            have G20 : τ28.2.1 20 = σ.2.1 20 := (g20_τ28).trans G20
            have G25 : τ28.2.1 25 = σ.2.1 25 := (g25_τ28).trans G25
            have G39 : τ28.2.1 39 = σ.2.1 39 := (g39_τ28).trans G39
            have y18_22_τ28 : τ28.2.1 18 (τ28.1 22) = (σ.2.1 18) (σ.1 22) := by rw [g18_τ28, w22_τ28]
            have y19_22_τ28 : τ28.2.1 19 (τ28.1 22) = (σ.2.1 19) (σ.1 22) := by rw [g19_τ28, w22_τ28]
            have y25_22_τ28 : τ28.2.1 25 (τ28.1 22) = (σ.2.1 25) (σ.1 22) := by rw [g25_τ28, w22_τ28]
            have y26_22_τ28 : τ28.2.1 26 (τ28.1 22) = (σ.2.1 26) (σ.1 22) := by rw [g26_τ28, w22_τ28]
            have Z4 : τ28.2.1 25 (τ28.1 22) + τ28.2.1 26 (τ28.1 22) = (τ28.1 9) := by rw [show (τ28.2.1 25 (τ28.1 22) + τ28.2.1 26 (τ28.1 22) = (τ28.1 9)) = (σ.2.1 25 (σ.1 22) + σ.2.1 26 (σ.1 22) = (σ.1 9)) from by rw [w9_τ28, w22_τ28, g25_τ28, g26_τ28]]; exact Z4
            have Y10 : ca (τ28.2.1 28) ((τ28.1 9)) ≤ ca (τ28.2.1 28) (τ28.2.1 25 (τ28.1 22)) + (τ28.1 29) := by rw [show (ca (τ28.2.1 28) ((τ28.1 9)) ≤ ca (τ28.2.1 28) (τ28.2.1 25 (τ28.1 22)) + (τ28.1 29)) = (ca (σ.2.1 28) ((σ.1 9)) ≤ ca (σ.2.1 28) (σ.2.1 25 (σ.1 22)) + (σ.1 29)) from by rw [w9_τ28, w22_τ28, w29_τ28, g25_τ28, g28_τ28]]; exact Y10
            have Y12 : ¬ (τ28.1 28) = 0 → τ28.2.1 25 (τ28.1 22) < (τ28.1 9) ∧ τ28.2.1 28 ((τ28.1 9) - 1) = 0 := by rw [show (¬ (τ28.1 28) = 0 → τ28.2.1 25 (τ28.1 22) < (τ28.1 9) ∧ τ28.2.1 28 ((τ28.1 9) - 1) = 0) = (¬ (σ.1 28) = 0 → σ.2.1 25 (σ.1 22) < (σ.1 9) ∧ σ.2.1 28 ((σ.1 9) - 1) = 0) from by rw [w9_τ28, w22_τ28, w28_τ28, g25_τ28, g28_τ28]]; exact Y12
            have Y13 : j_eq (σ.2.1 25 (σ.1 22)) (σ.2.1 28) (τ28.2.1 28) := by rw [show (j_eq (σ.2.1 25 (σ.1 22)) (σ.2.1 28) (τ28.2.1 28)) = (j_eq (σ.2.1 25 (σ.1 22)) (σ.2.1 28) (σ.2.1 28)) from by rw [g28_τ28]]; exact Y13
            have NSP : n_sp2 (τ28.2.1 25 (τ28.1 22)) (τ28.1 9) (τ28.1 22) (τ28.2.1 27) (τ28.2.1 28) := by rw [show (n_sp2 (τ28.2.1 25 (τ28.1 22)) (τ28.1 9) (τ28.1 22) (τ28.2.1 27) (τ28.2.1 28)) = (n_sp2 (σ.2.1 25 (σ.1 22)) (σ.1 9) (σ.1 22) (σ.2.1 27) (σ.2.1 28)) from by rw [w9_τ28, w22_τ28, g25_τ28, g27_τ28, g28_τ28]]; exact NSP
            have Y12c : ¬ (τ28.1 28) = 0 → 0 ≤ τ28.2.1 27 ((τ28.1 9) - 1) := by rw [show (¬ (τ28.1 28) = 0 → 0 ≤ τ28.2.1 27 ((τ28.1 9) - 1)) = (¬ (σ.1 28) = 0 → 0 ≤ σ.2.1 27 ((σ.1 9) - 1)) from by rw [w9_τ28, w28_τ28, g27_τ28]]; exact Y12c
            have PK : ∀ k : Int, 0 ≤ k → k < (τ28.1 25) → τ28.2.1 39 k < (τ28.1 22) := by rw [show (∀ k : Int, 0 ≤ k → k < (τ28.1 25) → τ28.2.1 39 k < (τ28.1 22)) = (∀ k : Int, 0 ≤ k → k < (σ.1 25) → σ.2.1 39 k < (σ.1 22)) from by rw [w22_τ28, w25_τ28, g39_τ28]]; exact PK
            have Y10b : (τ28.1 29) + ca (τ28.2.1 28) (τ28.2.1 25 (τ28.1 22)) ≤ ca (τ28.2.1 28) (τ28.1 9) := by rw [show ((τ28.1 29) + ca (τ28.2.1 28) (τ28.2.1 25 (τ28.1 22)) ≤ ca (τ28.2.1 28) (τ28.1 9)) = ((σ.1 29) + ca (σ.2.1 28) (σ.2.1 25 (σ.1 22)) ≤ ca (σ.2.1 28) (σ.1 9)) from by rw [w9_τ28, w22_τ28, w29_τ28, g25_τ28, g28_τ28]]; exact Y10b
            have HYN : ∀ k : Int, 0 ≤ k → k < τ28.2.1 19 (τ28.1 22) → τ28.2.1 20 (τ28.2.1 18 (τ28.1 22) + k) < (τ28.1 22) := by rw [show (∀ k : Int, 0 ≤ k → k < τ28.2.1 19 (τ28.1 22) → τ28.2.1 20 (τ28.2.1 18 (τ28.1 22) + k) < (τ28.1 22)) = (∀ k : Int, 0 ≤ k → k < σ.2.1 19 (σ.1 22) → σ.2.1 20 (σ.2.1 18 (σ.1 22) + k) < (σ.1 22)) from by rw [w22_τ28, g18_τ28, g19_τ28, g20_τ28]]; exact HYN
            have A18 : ∀ j, 0 ≤ τ28.2.1 18 j ∧ τ28.2.1 18 j ≤ 90000 := fun j => hT.2 18 j
            have A19 : ∀ j, 0 ≤ τ28.2.1 19 j ∧ τ28.2.1 19 j ≤ 60 := fun j => hT.2 19 j
            have A20 : ∀ j, 0 ≤ τ28.2.1 20 j ∧ τ28.2.1 20 j ≤ 1499 := fun j => hT.2 20 j
            have A25 : ∀ j, 0 ≤ τ28.2.1 25 j ∧ τ28.2.1 25 j ≤ 20000 := fun j => hT.2 25 j
            have A26 : ∀ j, 0 ≤ τ28.2.1 26 j ∧ τ28.2.1 26 j ≤ 20000 := fun j => hT.2 26 j
            have A27 : ∀ j, (-300) ≤ τ28.2.1 27 j ∧ τ28.2.1 27 j ≤ 1499 := fun j => hT.2 27 j
            have A28 : ∀ j, 0 ≤ τ28.2.1 28 j ∧ τ28.2.1 28 j ≤ 1 := fun j => hT.2 28 j
            have A39 : ∀ j, 0 ≤ τ28.2.1 39 j ∧ τ28.2.1 39 j ≤ 1499 := fun j => hT.2 39 j
            have v3 : 0 ≤ τ28.1 3 ∧ τ28.1 3 ≤ 1000 := hT.1 3
            have v5 : 0 ≤ τ28.1 5 ∧ τ28.1 5 ≤ 1500 := hT.1 5
            have v6 : 0 ≤ τ28.1 6 ∧ τ28.1 6 ≤ 30000 := hT.1 6
            have v7 : 0 ≤ τ28.1 7 ∧ τ28.1 7 ≤ 90000 := hT.1 7
            have v8 : 0 ≤ τ28.1 8 ∧ τ28.1 8 ≤ 20000 := hT.1 8
            have v9 : 0 ≤ τ28.1 9 ∧ τ28.1 9 ≤ 20000 := hT.1 9
            have v20 : 0 ≤ τ28.1 20 ∧ τ28.1 20 ≤ 19 := hT.1 20
            have v22 : 0 ≤ τ28.1 22 ∧ τ28.1 22 ≤ 1499 := hT.1 22
            have v25 : 0 ≤ τ28.1 25 ∧ τ28.1 25 ≤ 300 := hT.1 25
            have v26 : 0 ≤ τ28.1 26 ∧ τ28.1 26 ≤ 5000010 := hT.1 26
            have v27 : 0 ≤ τ28.1 27 ∧ τ28.1 27 ≤ 1 := hT.1 27
            have v28 : 0 ≤ τ28.1 28 ∧ τ28.1 28 ≤ 1 := hT.1 28
            have v29 : 0 ≤ τ28.1 29 ∧ τ28.1 29 ≤ 300 := hT.1 29
            have a18_22 : 0 ≤ τ28.2.1 18 (τ28.1 22) ∧ τ28.2.1 18 (τ28.1 22) ≤ 90000 := hT.2 18 _
            have a19_22 : 0 ≤ τ28.2.1 19 (τ28.1 22) ∧ τ28.2.1 19 (τ28.1 22) ≤ 60 := hT.2 19 _
            have a25_22 : 0 ≤ τ28.2.1 25 (τ28.1 22) ∧ τ28.2.1 25 (τ28.1 22) ≤ 20000 := hT.2 25 _
            have a26_22 : 0 ≤ τ28.2.1 26 (τ28.1 22) ∧ τ28.2.1 26 (τ28.1 22) ≤ 20000 := hT.2 26 _
            have av9 : σ.1 9 ≤ τ28.1 9 := ag.1 9 (by decide)
            exact ⟨hT, (show ¬ (σ.1 20) = 0 → (τ28.1 20) = (σ.1 20) from by (first | omega | (simp only [st_s] <;> omega) | assumption | omega | fail)), (show τ28.2.1 25 (τ28.1 22) + τ28.2.1 26 (τ28.1 22) = (τ28.1 9) from Z4), (show ca (τ28.2.1 28) ((τ28.1 9)) ≤ ca (τ28.2.1 28) (τ28.2.1 25 (τ28.1 22)) + (τ28.1 29) from Y10), (show ¬ (τ28.1 28) = 0 → τ28.2.1 25 (τ28.1 22) < (τ28.1 9) ∧ τ28.2.1 28 ((τ28.1 9) - 1) = 0 from Y12), (show j_eq (σ.2.1 25 (σ.1 22)) (σ.2.1 28) (τ28.2.1 28) from Y13), (show (τ28.1 20) = 0 → (τ28.1 26) ≤ 1000000 from by (first | omega | (simp only [st_s] <;> omega) | assumption | omega | fail)), ag, (show n_sp2 (τ28.2.1 25 (τ28.1 22)) (τ28.1 9) (τ28.1 22) (τ28.2.1 27) (τ28.2.1 28) from NSP), (show (τ28.1 29) + ca (τ28.2.1 28) (τ28.2.1 25 (τ28.1 22)) ≤ ca (τ28.2.1 28) (τ28.1 9) from Y10b), (show ¬ (τ28.1 28) = 0 → 0 ≤ τ28.2.1 27 ((τ28.1 9) - 1) from Y12c)⟩
          ·
            replace ag := ag_v (i := 23) (x := 1) ag (Or.inl rfl)
            replace hT := mT_v (i := 23) hT (show (0 : Int) ≤ 1 ∧ 1 ≤ 1 from by (first | omega | (simp only [st_s] <;> omega) | assumption | omega | fail))
            replace ag := ag_v (i := 28) (x := 0) ag (Or.inl rfl)
            replace hT := mT_v (i := 28) hT (show (0 : Int) ≤ 0 ∧ 0 ≤ 1 from by (first | omega | (simp only [st_s] <;> omega) | assumption | omega | fail))
            exact ⟨hT, (show ¬ (σ.1 20) = 0 → (σ.1 20) = (σ.1 20) from by (first | omega | (simp only [st_s] <;> omega) | assumption | omega | fail)), (show σ.2.1 25 (σ.1 22) + σ.2.1 26 (σ.1 22) = (σ.1 9) from Z4), (show ca (σ.2.1 28) ((σ.1 9)) ≤ ca (σ.2.1 28) (σ.2.1 25 (σ.1 22)) + (σ.1 29) from Y10), (show ¬ ((0 : Int)) = 0 → σ.2.1 25 (σ.1 22) < (σ.1 9) ∧ σ.2.1 28 ((σ.1 9) - 1) = 0 from by (first | assumption | omega | fail)), (show j_eq (σ.2.1 25 (σ.1 22)) (σ.2.1 28) (σ.2.1 28) from Y13), (show (σ.1 20) = 0 → (σ.1 26) ≤ 1000000 from by (first | omega | (simp only [st_s] <;> omega) | assumption | omega | fail)), ag, (show n_sp2 (σ.2.1 25 (σ.1 22)) (σ.1 9) (σ.1 22) (σ.2.1 27) (σ.2.1 28) from NSP), (show (σ.1 29) + ca (σ.2.1 28) (σ.2.1 25 (σ.1 22)) ≤ ca (σ.2.1 28) (σ.1 9) from Y10b), (show ¬ ((0 : Int)) = 0 → 0 ≤ σ.2.1 27 ((σ.1 9) - 1) from by (first | assumption | exact p14 | (intro z; exfalso; omega) | fail))⟩
      ·
        refine ⟨fun c12 => ?_, fun c12 => ?_⟩
        ·
          refine h124 _ _ ?_
          refine ⟨fun c29 => ?_, fun c29 => ?_⟩
          ·
            have y12 := Y12 c29
            have ce := ca_eq (j_eqs (x := (1 : Int)) (j_eq0 (σ.2.1 25 (σ.1 22)) (σ.2.1 28)) (show σ.2.1 25 (σ.1 22) ≤ σ.1 9 - 1 from by omega)) (n := σ.2.1 25 (σ.1 22)) (Int.le_refl _)
            have cf := ca_t1 (σ.2.1 28) (σ.1 9 - 1) (σ.1 9) 1 (by omega) (by omega) y12.2 (by omega)
            refine ⟨(show 0 ≤ (σ.1 9 - 1) ∧ (σ.1 9 - 1) < 20001 from by (first | omega | (simp only [st_s] <;> omega) | assumption | omega | fail)), ?_⟩
            replace ag := ag_a (k := 28) (e := (σ.1 9 - 1)) (x := 1) ag rfl
            replace hT := mT_a (k := 28) (j := (σ.1 9 - 1)) hT (show (0 : Int) ≤ 1 ∧ 1 ≤ 1 from by (first | omega | (simp only [st_s] <;> omega) | assumption | omega | fail))
            refine ⟨(⟨by (first | omega | (simp only [st_s] <;> omega) | assumption | omega | fail), by (first | omega | (simp only [st_s] <;> omega) | assumption | omega | fail)⟩ : rg (σ.1 29 + 1)), ?_⟩
            replace ag := ag_v (i := 29) (x := (σ.1 29 + 1)) ag (Or.inl rfl)
            replace hT := mT_v (i := 29) hT (show 0 ≤ (σ.1 29 + 1) ∧ (σ.1 29 + 1) ≤ 300 from by (first | omega | (simp only [st_s] <;> omega) | assumption | omega | fail))
            replace ag := ag_v (i := 28) (x := 0) ag (Or.inl rfl)
            replace hT := mT_v (i := 28) hT (show (0 : Int) ≤ 0 ∧ 0 ≤ 1 from by (first | omega | (simp only [st_s] <;> omega) | assumption | omega | fail))
            exact ⟨hT, (show ¬ (σ.1 20) = 0 → (σ.1 20) = (σ.1 20) from by (first | omega | (simp only [st_s] <;> omega) | assumption | omega | fail)), (show σ.2.1 25 (σ.1 22) + σ.2.1 26 (σ.1 22) = (σ.1 9) from Z4), (show ca ((st (σ.2.1 28) (σ.1 9 - 1) 1)) ((σ.1 9)) ≤ ca ((st (σ.2.1 28) (σ.1 9 - 1) 1)) (σ.2.1 25 (σ.1 22)) + ((σ.1 29 + 1)) from by (first | assumption | omega | (rw [ce, cf]; omega) | fail)), (show ¬ ((0 : Int)) = 0 → σ.2.1 25 (σ.1 22) < (σ.1 9) ∧ (st (σ.2.1 28) (σ.1 9 - 1) 1) ((σ.1 9) - 1) = 0 from by (first | assumption | omega | fail)), (show j_eq (σ.2.1 25 (σ.1 22)) (σ.2.1 28) ((st (σ.2.1 28) (σ.1 9 - 1) 1)) from by (first | assumption | exact j_eqs (j_eq0 _ _) (by omega) | fail)), (show (σ.1 20) = 0 → (σ.1 26) ≤ 1000000 from by (first | omega | (simp only [st_s] <;> omega) | assumption | omega | fail)), ag, (show n_sp2 (σ.2.1 25 (σ.1 22)) (σ.1 9) (σ.1 22) (σ.2.1 27) ((st (σ.2.1 28) (σ.1 9 - 1) 1)) from by (first | assumption | exact p10 | exact n_sp2_z p10 (by omega) (by have := (Y12 (by assumption)).1; omega) (fun _ _ => p14 (by assumption)) | fail)), (show ((σ.1 29 + 1)) + ca ((st (σ.2.1 28) (σ.1 9 - 1) 1)) (σ.2.1 25 (σ.1 22)) ≤ ca ((st (σ.2.1 28) (σ.1 9 - 1) 1)) (σ.1 9) from by (first | assumption | exact p11 | (rw [ce, cf]; have := p11; omega) | fail)), (show ¬ ((0 : Int)) = 0 → 0 ≤ σ.2.1 27 ((σ.1 9) - 1) from by (first | assumption | exact p14 | (intro z; exfalso; omega) | fail))⟩
          ·
            refine ⟨_, K_X13_fail hT (show 0 ≤ (14 : Int) from by (first | omega | (simp only [st_s] <;> omega) | assumption | omega | fail)) (show (14 : Int) ≤ 19 from by (first | omega | (simp only [st_s] <;> omega) | assumption | omega | fail)) (show -1 ≤ n2 from by (first | omega | (simp only [st_s] <;> omega) | assumption | omega | fail)) (show n2 ≤ 60000 from by (first | omega | (simp only [st_s] <;> omega) | assumption | omega | fail)), ?_⟩
            intro τ34 hn_τ34 hf_τ34 hq
            obtain ⟨hT, q32_1, q32_2⟩ := hq
            replace q32_1 : ¬ (σ.1 20) = 0 → (τ34.1 20) = (σ.1 20) := q32_1
            replace q32_2 : (σ.1 20) = 0 → (τ34.1 20) = (14 : Int) := q32_2
            replace ag : m_ag σ τ34 := ag_r ag hf_τ34 rfl rfl
            have w3_τ34 : τ34.1 3 = σ.1 3 := hf_τ34.1 3 (by decide)
            have w5_τ34 : τ34.1 5 = σ.1 5 := hf_τ34.1 5 (by decide)
            have w6_τ34 : τ34.1 6 = σ.1 6 := hf_τ34.1 6 (by decide)
            have w7_τ34 : τ34.1 7 = σ.1 7 := hf_τ34.1 7 (by decide)
            have w8_τ34 : τ34.1 8 = σ.1 8 := hf_τ34.1 8 (by decide)
            have w9_τ34 : τ34.1 9 = σ.1 9 := hf_τ34.1 9 (by decide)
            have w22_τ34 : τ34.1 22 = σ.1 22 := hf_τ34.1 22 (by decide)
            have w25_τ34 : τ34.1 25 = σ.1 25 := hf_τ34.1 25 (by decide)
            have w26_τ34 : τ34.1 26 = σ.1 26 := hf_τ34.1 26 (by decide)
            have w27_τ34 : τ34.1 27 = σ.1 27 := hf_τ34.1 27 (by decide)
            have w28_τ34 : τ34.1 28 = σ.1 28 := hf_τ34.1 28 (by decide)
            have w29_τ34 : τ34.1 29 = σ.1 29 := hf_τ34.1 29 (by decide)
            have g18_τ34 : τ34.2.1 18 = σ.2.1 18 := hf_τ34.2.1 18 (by decide)
            have g19_τ34 : τ34.2.1 19 = σ.2.1 19 := hf_τ34.2.1 19 (by decide)
            have g20_τ34 : τ34.2.1 20 = σ.2.1 20 := hf_τ34.2.1 20 (by decide)
            have g25_τ34 : τ34.2.1 25 = σ.2.1 25 := hf_τ34.2.1 25 (by decide)
            have g26_τ34 : τ34.2.1 26 = σ.2.1 26 := hf_τ34.2.1 26 (by decide)
            have g27_τ34 : τ34.2.1 27 = σ.2.1 27 := hf_τ34.2.1 27 (by decide)
            have g28_τ34 : τ34.2.1 28 = σ.2.1 28 := hf_τ34.2.1 28 (by decide)
            have g39_τ34 : τ34.2.1 39 = σ.2.1 39 := hf_τ34.2.1 39 (by decide)
            have W3 : τ34.1 3 = σ.1 3 := by first | exact w3_τ34.trans W3 | omega
            have W5 : τ34.1 5 = σ.1 5 := by first | exact w5_τ34.trans W5 | omega
            have W6 : τ34.1 6 = σ.1 6 := by first | exact w6_τ34.trans W6 | omega
            have W7 : τ34.1 7 = σ.1 7 := by first | exact w7_τ34.trans W7 | omega
            have W8 : τ34.1 8 = σ.1 8 := by first | exact w8_τ34.trans W8 | omega
            have W22 : τ34.1 22 = σ.1 22 := by first | exact w22_τ34.trans W22 | omega
            have W25 : τ34.1 25 = σ.1 25 := by first | exact w25_τ34.trans W25 | omega
            have G18 : τ34.2.1 18 = σ.2.1 18 := (g18_τ34).trans G18
            have G19 : τ34.2.1 19 = σ.2.1 19 := (g19_τ34).trans G19
            have G20 : τ34.2.1 20 = σ.2.1 20 := (g20_τ34).trans G20
            have G25 : τ34.2.1 25 = σ.2.1 25 := (g25_τ34).trans G25
            have G39 : τ34.2.1 39 = σ.2.1 39 := (g39_τ34).trans G39
            have y18_22_τ34 : τ34.2.1 18 (τ34.1 22) = (σ.2.1 18) (σ.1 22) := by rw [g18_τ34, w22_τ34]
            have y19_22_τ34 : τ34.2.1 19 (τ34.1 22) = (σ.2.1 19) (σ.1 22) := by rw [g19_τ34, w22_τ34]
            have y25_22_τ34 : τ34.2.1 25 (τ34.1 22) = (σ.2.1 25) (σ.1 22) := by rw [g25_τ34, w22_τ34]
            have y26_22_τ34 : τ34.2.1 26 (τ34.1 22) = (σ.2.1 26) (σ.1 22) := by rw [g26_τ34, w22_τ34]
            have Z4 : τ34.2.1 25 (τ34.1 22) + τ34.2.1 26 (τ34.1 22) = (τ34.1 9) := by rw [show (τ34.2.1 25 (τ34.1 22) + τ34.2.1 26 (τ34.1 22) = (τ34.1 9)) = (σ.2.1 25 (σ.1 22) + σ.2.1 26 (σ.1 22) = (σ.1 9)) from by rw [w9_τ34, w22_τ34, g25_τ34, g26_τ34]]; exact Z4
            have Y10 : ca (τ34.2.1 28) ((τ34.1 9)) ≤ ca (τ34.2.1 28) (τ34.2.1 25 (τ34.1 22)) + (τ34.1 29) := by rw [show (ca (τ34.2.1 28) ((τ34.1 9)) ≤ ca (τ34.2.1 28) (τ34.2.1 25 (τ34.1 22)) + (τ34.1 29)) = (ca (σ.2.1 28) ((σ.1 9)) ≤ ca (σ.2.1 28) (σ.2.1 25 (σ.1 22)) + (σ.1 29)) from by rw [w9_τ34, w22_τ34, w29_τ34, g25_τ34, g28_τ34]]; exact Y10
            have Y12 : ¬ (τ34.1 28) = 0 → τ34.2.1 25 (τ34.1 22) < (τ34.1 9) ∧ τ34.2.1 28 ((τ34.1 9) - 1) = 0 := by rw [show (¬ (τ34.1 28) = 0 → τ34.2.1 25 (τ34.1 22) < (τ34.1 9) ∧ τ34.2.1 28 ((τ34.1 9) - 1) = 0) = (¬ (σ.1 28) = 0 → σ.2.1 25 (σ.1 22) < (σ.1 9) ∧ σ.2.1 28 ((σ.1 9) - 1) = 0) from by rw [w9_τ34, w22_τ34, w28_τ34, g25_τ34, g28_τ34]]; exact Y12
            have Y13 : j_eq (σ.2.1 25 (σ.1 22)) (σ.2.1 28) (τ34.2.1 28) := by rw [show (j_eq (σ.2.1 25 (σ.1 22)) (σ.2.1 28) (τ34.2.1 28)) = (j_eq (σ.2.1 25 (σ.1 22)) (σ.2.1 28) (σ.2.1 28)) from by rw [g28_τ34]]; exact Y13
            have NSP : n_sp2 (τ34.2.1 25 (τ34.1 22)) (τ34.1 9) (τ34.1 22) (τ34.2.1 27) (τ34.2.1 28) := by rw [show (n_sp2 (τ34.2.1 25 (τ34.1 22)) (τ34.1 9) (τ34.1 22) (τ34.2.1 27) (τ34.2.1 28)) = (n_sp2 (σ.2.1 25 (σ.1 22)) (σ.1 9) (σ.1 22) (σ.2.1 27) (σ.2.1 28)) from by rw [w9_τ34, w22_τ34, g25_τ34, g27_τ34, g28_τ34]]; exact NSP
            have Y12c : ¬ (τ34.1 28) = 0 → 0 ≤ τ34.2.1 27 ((τ34.1 9) - 1) := by rw [show (¬ (τ34.1 28) = 0 → 0 ≤ τ34.2.1 27 ((τ34.1 9) - 1)) = (¬ (σ.1 28) = 0 → 0 ≤ σ.2.1 27 ((σ.1 9) - 1)) from by rw [w9_τ34, w28_τ34, g27_τ34]]; exact Y12c
            have PK : ∀ k : Int, 0 ≤ k → k < (τ34.1 25) → τ34.2.1 39 k < (τ34.1 22) := by rw [show (∀ k : Int, 0 ≤ k → k < (τ34.1 25) → τ34.2.1 39 k < (τ34.1 22)) = (∀ k : Int, 0 ≤ k → k < (σ.1 25) → σ.2.1 39 k < (σ.1 22)) from by rw [w22_τ34, w25_τ34, g39_τ34]]; exact PK
            have Y10b : (τ34.1 29) + ca (τ34.2.1 28) (τ34.2.1 25 (τ34.1 22)) ≤ ca (τ34.2.1 28) (τ34.1 9) := by rw [show ((τ34.1 29) + ca (τ34.2.1 28) (τ34.2.1 25 (τ34.1 22)) ≤ ca (τ34.2.1 28) (τ34.1 9)) = ((σ.1 29) + ca (σ.2.1 28) (σ.2.1 25 (σ.1 22)) ≤ ca (σ.2.1 28) (σ.1 9)) from by rw [w9_τ34, w22_τ34, w29_τ34, g25_τ34, g28_τ34]]; exact Y10b
            have HYN : ∀ k : Int, 0 ≤ k → k < τ34.2.1 19 (τ34.1 22) → τ34.2.1 20 (τ34.2.1 18 (τ34.1 22) + k) < (τ34.1 22) := by rw [show (∀ k : Int, 0 ≤ k → k < τ34.2.1 19 (τ34.1 22) → τ34.2.1 20 (τ34.2.1 18 (τ34.1 22) + k) < (τ34.1 22)) = (∀ k : Int, 0 ≤ k → k < σ.2.1 19 (σ.1 22) → σ.2.1 20 (σ.2.1 18 (σ.1 22) + k) < (σ.1 22)) from by rw [w22_τ34, g18_τ34, g19_τ34, g20_τ34]]; exact HYN
            have A18 : ∀ j, 0 ≤ τ34.2.1 18 j ∧ τ34.2.1 18 j ≤ 90000 := fun j => hT.2 18 j
            have A19 : ∀ j, 0 ≤ τ34.2.1 19 j ∧ τ34.2.1 19 j ≤ 60 := fun j => hT.2 19 j
            have A20 : ∀ j, 0 ≤ τ34.2.1 20 j ∧ τ34.2.1 20 j ≤ 1499 := fun j => hT.2 20 j
            have A25 : ∀ j, 0 ≤ τ34.2.1 25 j ∧ τ34.2.1 25 j ≤ 20000 := fun j => hT.2 25 j
            have A26 : ∀ j, 0 ≤ τ34.2.1 26 j ∧ τ34.2.1 26 j ≤ 20000 := fun j => hT.2 26 j
            have A27 : ∀ j, (-300) ≤ τ34.2.1 27 j ∧ τ34.2.1 27 j ≤ 1499 := fun j => hT.2 27 j
            have A28 : ∀ j, 0 ≤ τ34.2.1 28 j ∧ τ34.2.1 28 j ≤ 1 := fun j => hT.2 28 j
            have A39 : ∀ j, 0 ≤ τ34.2.1 39 j ∧ τ34.2.1 39 j ≤ 1499 := fun j => hT.2 39 j
            have v3 : 0 ≤ τ34.1 3 ∧ τ34.1 3 ≤ 1000 := hT.1 3
            have v5 : 0 ≤ τ34.1 5 ∧ τ34.1 5 ≤ 1500 := hT.1 5
            have v6 : 0 ≤ τ34.1 6 ∧ τ34.1 6 ≤ 30000 := hT.1 6
            have v7 : 0 ≤ τ34.1 7 ∧ τ34.1 7 ≤ 90000 := hT.1 7
            have v8 : 0 ≤ τ34.1 8 ∧ τ34.1 8 ≤ 20000 := hT.1 8
            have v9 : 0 ≤ τ34.1 9 ∧ τ34.1 9 ≤ 20000 := hT.1 9
            have v20 : 0 ≤ τ34.1 20 ∧ τ34.1 20 ≤ 19 := hT.1 20
            have v22 : 0 ≤ τ34.1 22 ∧ τ34.1 22 ≤ 1499 := hT.1 22
            have v25 : 0 ≤ τ34.1 25 ∧ τ34.1 25 ≤ 300 := hT.1 25
            have v26 : 0 ≤ τ34.1 26 ∧ τ34.1 26 ≤ 5000010 := hT.1 26
            have v27 : 0 ≤ τ34.1 27 ∧ τ34.1 27 ≤ 1 := hT.1 27
            have v28 : 0 ≤ τ34.1 28 ∧ τ34.1 28 ≤ 1 := hT.1 28
            have v29 : 0 ≤ τ34.1 29 ∧ τ34.1 29 ≤ 300 := hT.1 29
            have a18_22 : 0 ≤ τ34.2.1 18 (τ34.1 22) ∧ τ34.2.1 18 (τ34.1 22) ≤ 90000 := hT.2 18 _
            have a19_22 : 0 ≤ τ34.2.1 19 (τ34.1 22) ∧ τ34.2.1 19 (τ34.1 22) ≤ 60 := hT.2 19 _
            have a25_22 : 0 ≤ τ34.2.1 25 (τ34.1 22) ∧ τ34.2.1 25 (τ34.1 22) ≤ 20000 := hT.2 25 _
            have a26_22 : 0 ≤ τ34.2.1 26 (τ34.1 22) ∧ τ34.2.1 26 (τ34.1 22) ≤ 20000 := hT.2 26 _
            have av9 : σ.1 9 ≤ τ34.1 9 := ag.1 9 (by decide)
            exact ⟨hT, (show ¬ (σ.1 20) = 0 → (τ34.1 20) = (σ.1 20) from by (first | omega | (simp only [st_s] <;> omega) | assumption | omega | fail)), (show τ34.2.1 25 (τ34.1 22) + τ34.2.1 26 (τ34.1 22) = (τ34.1 9) from Z4), (show ca (τ34.2.1 28) ((τ34.1 9)) ≤ ca (τ34.2.1 28) (τ34.2.1 25 (τ34.1 22)) + (τ34.1 29) from Y10), (show ¬ (τ34.1 28) = 0 → τ34.2.1 25 (τ34.1 22) < (τ34.1 9) ∧ τ34.2.1 28 ((τ34.1 9) - 1) = 0 from Y12), (show j_eq (σ.2.1 25 (σ.1 22)) (σ.2.1 28) (τ34.2.1 28) from Y13), (show (τ34.1 20) = 0 → (τ34.1 26) ≤ 1000000 from by (first | omega | (simp only [st_s] <;> omega) | assumption | omega | fail)), ag, (show n_sp2 (τ34.2.1 25 (τ34.1 22)) (τ34.1 9) (τ34.1 22) (τ34.2.1 27) (τ34.2.1 28) from NSP), (show (τ34.1 29) + ca (τ34.2.1 28) (τ34.2.1 25 (τ34.1 22)) ≤ ca (τ34.2.1 28) (τ34.1 9) from Y10b), (show ¬ (τ34.1 28) = 0 → 0 ≤ τ34.2.1 27 ((τ34.1 9) - 1) from Y12c)⟩
        ·
          refine ⟨fun c13 => ?_, fun c13 => ?_⟩
          ·
            refine h124 _ _ ?_
            refine ⟨fun c29 => ?_, fun c29 => ?_⟩
            ·
              have y12 := Y12 c29
              have ce := ca_eq (j_eqs (x := (1 : Int)) (j_eq0 (σ.2.1 25 (σ.1 22)) (σ.2.1 28)) (show σ.2.1 25 (σ.1 22) ≤ σ.1 9 - 1 from by omega)) (n := σ.2.1 25 (σ.1 22)) (Int.le_refl _)
              have cf := ca_t1 (σ.2.1 28) (σ.1 9 - 1) (σ.1 9) 1 (by omega) (by omega) y12.2 (by omega)
              refine ⟨(show 0 ≤ (σ.1 9 - 1) ∧ (σ.1 9 - 1) < 20001 from by (first | omega | (simp only [st_s] <;> omega) | assumption | omega | fail)), ?_⟩
              replace ag := ag_a (k := 28) (e := (σ.1 9 - 1)) (x := 1) ag rfl
              replace hT := mT_a (k := 28) (j := (σ.1 9 - 1)) hT (show (0 : Int) ≤ 1 ∧ 1 ≤ 1 from by (first | omega | (simp only [st_s] <;> omega) | assumption | omega | fail))
              refine ⟨(⟨by (first | omega | (simp only [st_s] <;> omega) | assumption | omega | fail), by (first | omega | (simp only [st_s] <;> omega) | assumption | omega | fail)⟩ : rg (σ.1 29 + 1)), ?_⟩
              replace ag := ag_v (i := 29) (x := (σ.1 29 + 1)) ag (Or.inl rfl)
              replace hT := mT_v (i := 29) hT (show 0 ≤ (σ.1 29 + 1) ∧ (σ.1 29 + 1) ≤ 300 from by (first | omega | (simp only [st_s] <;> omega) | assumption | omega | fail))
              replace ag := ag_v (i := 28) (x := 0) ag (Or.inl rfl)
              replace hT := mT_v (i := 28) hT (show (0 : Int) ≤ 0 ∧ 0 ≤ 1 from by (first | omega | (simp only [st_s] <;> omega) | assumption | omega | fail))
              exact ⟨hT, (show ¬ (σ.1 20) = 0 → (σ.1 20) = (σ.1 20) from by (first | omega | (simp only [st_s] <;> omega) | assumption | omega | fail)), (show σ.2.1 25 (σ.1 22) + σ.2.1 26 (σ.1 22) = (σ.1 9) from Z4), (show ca ((st (σ.2.1 28) (σ.1 9 - 1) 1)) ((σ.1 9)) ≤ ca ((st (σ.2.1 28) (σ.1 9 - 1) 1)) (σ.2.1 25 (σ.1 22)) + ((σ.1 29 + 1)) from by (first | assumption | omega | (rw [ce, cf]; omega) | fail)), (show ¬ ((0 : Int)) = 0 → σ.2.1 25 (σ.1 22) < (σ.1 9) ∧ (st (σ.2.1 28) (σ.1 9 - 1) 1) ((σ.1 9) - 1) = 0 from by (first | assumption | omega | fail)), (show j_eq (σ.2.1 25 (σ.1 22)) (σ.2.1 28) ((st (σ.2.1 28) (σ.1 9 - 1) 1)) from by (first | assumption | exact j_eqs (j_eq0 _ _) (by omega) | fail)), (show (σ.1 20) = 0 → (σ.1 26) ≤ 1000000 from by (first | omega | (simp only [st_s] <;> omega) | assumption | omega | fail)), ag, (show n_sp2 (σ.2.1 25 (σ.1 22)) (σ.1 9) (σ.1 22) (σ.2.1 27) ((st (σ.2.1 28) (σ.1 9 - 1) 1)) from by (first | assumption | exact p10 | exact n_sp2_z p10 (by omega) (by have := (Y12 (by assumption)).1; omega) (fun _ _ => p14 (by assumption)) | fail)), (show ((σ.1 29 + 1)) + ca ((st (σ.2.1 28) (σ.1 9 - 1) 1)) (σ.2.1 25 (σ.1 22)) ≤ ca ((st (σ.2.1 28) (σ.1 9 - 1) 1)) (σ.1 9) from by (first | assumption | exact p11 | (rw [ce, cf]; have := p11; omega) | fail)), (show ¬ ((0 : Int)) = 0 → 0 ≤ σ.2.1 27 ((σ.1 9) - 1) from by (first | assumption | exact p14 | (intro z; exfalso; omega) | fail))⟩
            ·
              refine ⟨_, K_X13_fail hT (show 0 ≤ (14 : Int) from by (first | omega | (simp only [st_s] <;> omega) | assumption | omega | fail)) (show (14 : Int) ≤ 19 from by (first | omega | (simp only [st_s] <;> omega) | assumption | omega | fail)) (show -1 ≤ n2 from by (first | omega | (simp only [st_s] <;> omega) | assumption | omega | fail)) (show n2 ≤ 60000 from by (first | omega | (simp only [st_s] <;> omega) | assumption | omega | fail)), ?_⟩
              intro τ34 hn_τ34 hf_τ34 hq
              obtain ⟨hT, q32_1, q32_2⟩ := hq
              replace q32_1 : ¬ (σ.1 20) = 0 → (τ34.1 20) = (σ.1 20) := q32_1
              replace q32_2 : (σ.1 20) = 0 → (τ34.1 20) = (14 : Int) := q32_2
              replace ag : m_ag σ τ34 := ag_r ag hf_τ34 rfl rfl
              have w3_τ34 : τ34.1 3 = σ.1 3 := hf_τ34.1 3 (by decide)
              have w5_τ34 : τ34.1 5 = σ.1 5 := hf_τ34.1 5 (by decide)
              have w6_τ34 : τ34.1 6 = σ.1 6 := hf_τ34.1 6 (by decide)
              have w7_τ34 : τ34.1 7 = σ.1 7 := hf_τ34.1 7 (by decide)
              have w8_τ34 : τ34.1 8 = σ.1 8 := hf_τ34.1 8 (by decide)
              have w9_τ34 : τ34.1 9 = σ.1 9 := hf_τ34.1 9 (by decide)
              have w22_τ34 : τ34.1 22 = σ.1 22 := hf_τ34.1 22 (by decide)
              have w25_τ34 : τ34.1 25 = σ.1 25 := hf_τ34.1 25 (by decide)
              have w26_τ34 : τ34.1 26 = σ.1 26 := hf_τ34.1 26 (by decide)
              have w27_τ34 : τ34.1 27 = σ.1 27 := hf_τ34.1 27 (by decide)
              have w28_τ34 : τ34.1 28 = σ.1 28 := hf_τ34.1 28 (by decide)
              have w29_τ34 : τ34.1 29 = σ.1 29 := hf_τ34.1 29 (by decide)
              have g18_τ34 : τ34.2.1 18 = σ.2.1 18 := hf_τ34.2.1 18 (by decide)
              have g19_τ34 : τ34.2.1 19 = σ.2.1 19 := hf_τ34.2.1 19 (by decide)
              have g20_τ34 : τ34.2.1 20 = σ.2.1 20 := hf_τ34.2.1 20 (by decide)
              have g25_τ34 : τ34.2.1 25 = σ.2.1 25 := hf_τ34.2.1 25 (by decide)
              have g26_τ34 : τ34.2.1 26 = σ.2.1 26 := hf_τ34.2.1 26 (by decide)
              have g27_τ34 : τ34.2.1 27 = σ.2.1 27 := hf_τ34.2.1 27 (by decide)
              have g28_τ34 : τ34.2.1 28 = σ.2.1 28 := hf_τ34.2.1 28 (by decide)
              have g39_τ34 : τ34.2.1 39 = σ.2.1 39 := hf_τ34.2.1 39 (by decide)
              have W3 : τ34.1 3 = σ.1 3 := by first | exact w3_τ34.trans W3 | omega
              have W5 : τ34.1 5 = σ.1 5 := by first | exact w5_τ34.trans W5 | omega
              have W6 : τ34.1 6 = σ.1 6 := by first | exact w6_τ34.trans W6 | omega
              have W7 : τ34.1 7 = σ.1 7 := by first | exact w7_τ34.trans W7 | omega
              have W8 : τ34.1 8 = σ.1 8 := by first | exact w8_τ34.trans W8 | omega
              have W22 : τ34.1 22 = σ.1 22 := by first | exact w22_τ34.trans W22 | omega
              have W25 : τ34.1 25 = σ.1 25 := by first | exact w25_τ34.trans W25 | omega
              have G18 : τ34.2.1 18 = σ.2.1 18 := (g18_τ34).trans G18
              have G19 : τ34.2.1 19 = σ.2.1 19 := (g19_τ34).trans G19
              have G20 : τ34.2.1 20 = σ.2.1 20 := (g20_τ34).trans G20
              have G25 : τ34.2.1 25 = σ.2.1 25 := (g25_τ34).trans G25
              have G39 : τ34.2.1 39 = σ.2.1 39 := (g39_τ34).trans G39
              have y18_22_τ34 : τ34.2.1 18 (τ34.1 22) = (σ.2.1 18) (σ.1 22) := by rw [g18_τ34, w22_τ34]
              have y19_22_τ34 : τ34.2.1 19 (τ34.1 22) = (σ.2.1 19) (σ.1 22) := by rw [g19_τ34, w22_τ34]
              have y25_22_τ34 : τ34.2.1 25 (τ34.1 22) = (σ.2.1 25) (σ.1 22) := by rw [g25_τ34, w22_τ34]
              have y26_22_τ34 : τ34.2.1 26 (τ34.1 22) = (σ.2.1 26) (σ.1 22) := by rw [g26_τ34, w22_τ34]
              have Z4 : τ34.2.1 25 (τ34.1 22) + τ34.2.1 26 (τ34.1 22) = (τ34.1 9) := by rw [show (τ34.2.1 25 (τ34.1 22) + τ34.2.1 26 (τ34.1 22) = (τ34.1 9)) = (σ.2.1 25 (σ.1 22) + σ.2.1 26 (σ.1 22) = (σ.1 9)) from by rw [w9_τ34, w22_τ34, g25_τ34, g26_τ34]]; exact Z4
              have Y10 : ca (τ34.2.1 28) ((τ34.1 9)) ≤ ca (τ34.2.1 28) (τ34.2.1 25 (τ34.1 22)) + (τ34.1 29) := by rw [show (ca (τ34.2.1 28) ((τ34.1 9)) ≤ ca (τ34.2.1 28) (τ34.2.1 25 (τ34.1 22)) + (τ34.1 29)) = (ca (σ.2.1 28) ((σ.1 9)) ≤ ca (σ.2.1 28) (σ.2.1 25 (σ.1 22)) + (σ.1 29)) from by rw [w9_τ34, w22_τ34, w29_τ34, g25_τ34, g28_τ34]]; exact Y10
              have Y12 : ¬ (τ34.1 28) = 0 → τ34.2.1 25 (τ34.1 22) < (τ34.1 9) ∧ τ34.2.1 28 ((τ34.1 9) - 1) = 0 := by rw [show (¬ (τ34.1 28) = 0 → τ34.2.1 25 (τ34.1 22) < (τ34.1 9) ∧ τ34.2.1 28 ((τ34.1 9) - 1) = 0) = (¬ (σ.1 28) = 0 → σ.2.1 25 (σ.1 22) < (σ.1 9) ∧ σ.2.1 28 ((σ.1 9) - 1) = 0) from by rw [w9_τ34, w22_τ34, w28_τ34, g25_τ34, g28_τ34]]; exact Y12
              have Y13 : j_eq (σ.2.1 25 (σ.1 22)) (σ.2.1 28) (τ34.2.1 28) := by rw [show (j_eq (σ.2.1 25 (σ.1 22)) (σ.2.1 28) (τ34.2.1 28)) = (j_eq (σ.2.1 25 (σ.1 22)) (σ.2.1 28) (σ.2.1 28)) from by rw [g28_τ34]]; exact Y13
              have NSP : n_sp2 (τ34.2.1 25 (τ34.1 22)) (τ34.1 9) (τ34.1 22) (τ34.2.1 27) (τ34.2.1 28) := by rw [show (n_sp2 (τ34.2.1 25 (τ34.1 22)) (τ34.1 9) (τ34.1 22) (τ34.2.1 27) (τ34.2.1 28)) = (n_sp2 (σ.2.1 25 (σ.1 22)) (σ.1 9) (σ.1 22) (σ.2.1 27) (σ.2.1 28)) from by rw [w9_τ34, w22_τ34, g25_τ34, g27_τ34, g28_τ34]]; exact NSP
              have Y12c : ¬ (τ34.1 28) = 0 → 0 ≤ τ34.2.1 27 ((τ34.1 9) - 1) := by rw [show (¬ (τ34.1 28) = 0 → 0 ≤ τ34.2.1 27 ((τ34.1 9) - 1)) = (¬ (σ.1 28) = 0 → 0 ≤ σ.2.1 27 ((σ.1 9) - 1)) from by rw [w9_τ34, w28_τ34, g27_τ34]]; exact Y12c
              have PK : ∀ k : Int, 0 ≤ k → k < (τ34.1 25) → τ34.2.1 39 k < (τ34.1 22) := by rw [show (∀ k : Int, 0 ≤ k → k < (τ34.1 25) → τ34.2.1 39 k < (τ34.1 22)) = (∀ k : Int, 0 ≤ k → k < (σ.1 25) → σ.2.1 39 k < (σ.1 22)) from by rw [w22_τ34, w25_τ34, g39_τ34]]; exact PK
              have Y10b : (τ34.1 29) + ca (τ34.2.1 28) (τ34.2.1 25 (τ34.1 22)) ≤ ca (τ34.2.1 28) (τ34.1 9) := by rw [show ((τ34.1 29) + ca (τ34.2.1 28) (τ34.2.1 25 (τ34.1 22)) ≤ ca (τ34.2.1 28) (τ34.1 9)) = ((σ.1 29) + ca (σ.2.1 28) (σ.2.1 25 (σ.1 22)) ≤ ca (σ.2.1 28) (σ.1 9)) from by rw [w9_τ34, w22_τ34, w29_τ34, g25_τ34, g28_τ34]]; exact Y10b
              have HYN : ∀ k : Int, 0 ≤ k → k < τ34.2.1 19 (τ34.1 22) → τ34.2.1 20 (τ34.2.1 18 (τ34.1 22) + k) < (τ34.1 22) := by rw [show (∀ k : Int, 0 ≤ k → k < τ34.2.1 19 (τ34.1 22) → τ34.2.1 20 (τ34.2.1 18 (τ34.1 22) + k) < (τ34.1 22)) = (∀ k : Int, 0 ≤ k → k < σ.2.1 19 (σ.1 22) → σ.2.1 20 (σ.2.1 18 (σ.1 22) + k) < (σ.1 22)) from by rw [w22_τ34, g18_τ34, g19_τ34, g20_τ34]]; exact HYN
              have A18 : ∀ j, 0 ≤ τ34.2.1 18 j ∧ τ34.2.1 18 j ≤ 90000 := fun j => hT.2 18 j
              have A19 : ∀ j, 0 ≤ τ34.2.1 19 j ∧ τ34.2.1 19 j ≤ 60 := fun j => hT.2 19 j
              have A20 : ∀ j, 0 ≤ τ34.2.1 20 j ∧ τ34.2.1 20 j ≤ 1499 := fun j => hT.2 20 j
              have A25 : ∀ j, 0 ≤ τ34.2.1 25 j ∧ τ34.2.1 25 j ≤ 20000 := fun j => hT.2 25 j
              have A26 : ∀ j, 0 ≤ τ34.2.1 26 j ∧ τ34.2.1 26 j ≤ 20000 := fun j => hT.2 26 j
              have A27 : ∀ j, (-300) ≤ τ34.2.1 27 j ∧ τ34.2.1 27 j ≤ 1499 := fun j => hT.2 27 j
              have A28 : ∀ j, 0 ≤ τ34.2.1 28 j ∧ τ34.2.1 28 j ≤ 1 := fun j => hT.2 28 j
              have A39 : ∀ j, 0 ≤ τ34.2.1 39 j ∧ τ34.2.1 39 j ≤ 1499 := fun j => hT.2 39 j
              have v3 : 0 ≤ τ34.1 3 ∧ τ34.1 3 ≤ 1000 := hT.1 3
              have v5 : 0 ≤ τ34.1 5 ∧ τ34.1 5 ≤ 1500 := hT.1 5
              have v6 : 0 ≤ τ34.1 6 ∧ τ34.1 6 ≤ 30000 := hT.1 6
              have v7 : 0 ≤ τ34.1 7 ∧ τ34.1 7 ≤ 90000 := hT.1 7
              have v8 : 0 ≤ τ34.1 8 ∧ τ34.1 8 ≤ 20000 := hT.1 8
              have v9 : 0 ≤ τ34.1 9 ∧ τ34.1 9 ≤ 20000 := hT.1 9
              have v20 : 0 ≤ τ34.1 20 ∧ τ34.1 20 ≤ 19 := hT.1 20
              have v22 : 0 ≤ τ34.1 22 ∧ τ34.1 22 ≤ 1499 := hT.1 22
              have v25 : 0 ≤ τ34.1 25 ∧ τ34.1 25 ≤ 300 := hT.1 25
              have v26 : 0 ≤ τ34.1 26 ∧ τ34.1 26 ≤ 5000010 := hT.1 26
              have v27 : 0 ≤ τ34.1 27 ∧ τ34.1 27 ≤ 1 := hT.1 27
              have v28 : 0 ≤ τ34.1 28 ∧ τ34.1 28 ≤ 1 := hT.1 28
              have v29 : 0 ≤ τ34.1 29 ∧ τ34.1 29 ≤ 300 := hT.1 29
              have a18_22 : 0 ≤ τ34.2.1 18 (τ34.1 22) ∧ τ34.2.1 18 (τ34.1 22) ≤ 90000 := hT.2 18 _
              have a19_22 : 0 ≤ τ34.2.1 19 (τ34.1 22) ∧ τ34.2.1 19 (τ34.1 22) ≤ 60 := hT.2 19 _
              have a25_22 : 0 ≤ τ34.2.1 25 (τ34.1 22) ∧ τ34.2.1 25 (τ34.1 22) ≤ 20000 := hT.2 25 _
              have a26_22 : 0 ≤ τ34.2.1 26 (τ34.1 22) ∧ τ34.2.1 26 (τ34.1 22) ≤ 20000 := hT.2 26 _
              have av9 : σ.1 9 ≤ τ34.1 9 := ag.1 9 (by decide)
              exact ⟨hT, (show ¬ (σ.1 20) = 0 → (τ34.1 20) = (σ.1 20) from by (first | omega | (simp only [st_s] <;> omega) | assumption | omega | fail)), (show τ34.2.1 25 (τ34.1 22) + τ34.2.1 26 (τ34.1 22) = (τ34.1 9) from Z4), (show ca (τ34.2.1 28) ((τ34.1 9)) ≤ ca (τ34.2.1 28) (τ34.2.1 25 (τ34.1 22)) + (τ34.1 29) from Y10), (show ¬ (τ34.1 28) = 0 → τ34.2.1 25 (τ34.1 22) < (τ34.1 9) ∧ τ34.2.1 28 ((τ34.1 9) - 1) = 0 from Y12), (show j_eq (σ.2.1 25 (σ.1 22)) (σ.2.1 28) (τ34.2.1 28) from Y13), (show (τ34.1 20) = 0 → (τ34.1 26) ≤ 1000000 from by (first | omega | (simp only [st_s] <;> omega) | assumption | omega | fail)), ag, (show n_sp2 (τ34.2.1 25 (τ34.1 22)) (τ34.1 9) (τ34.1 22) (τ34.2.1 27) (τ34.2.1 28) from NSP), (show (τ34.1 29) + ca (τ34.2.1 28) (τ34.2.1 25 (τ34.1 22)) ≤ ca (τ34.2.1 28) (τ34.1 9) from Y10b), (show ¬ (τ34.1 28) = 0 → 0 ≤ τ34.2.1 27 ((τ34.1 9) - 1) from Y12c)⟩
          ·
            refine ⟨_, K_X13_fail hT (show 0 ≤ (5 : Int) from by (first | omega | (simp only [st_s] <;> omega) | assumption | omega | fail)) (show (5 : Int) ≤ 19 from by (first | omega | (simp only [st_s] <;> omega) | assumption | omega | fail)) (show -1 ≤ n2 from by (first | omega | (simp only [st_s] <;> omega) | assumption | omega | fail)) (show n2 ≤ 60000 from by (first | omega | (simp only [st_s] <;> omega) | assumption | omega | fail)), ?_⟩
            intro τ16 hn_τ16 hf_τ16 hq
            obtain ⟨hT, q14_1, q14_2⟩ := hq
            replace q14_1 : ¬ (σ.1 20) = 0 → (τ16.1 20) = (σ.1 20) := q14_1
            replace q14_2 : (σ.1 20) = 0 → (τ16.1 20) = (5 : Int) := q14_2
            replace ag : m_ag σ τ16 := ag_r ag hf_τ16 rfl rfl
            have w3_τ16 : τ16.1 3 = σ.1 3 := hf_τ16.1 3 (by decide)
            have w5_τ16 : τ16.1 5 = σ.1 5 := hf_τ16.1 5 (by decide)
            have w6_τ16 : τ16.1 6 = σ.1 6 := hf_τ16.1 6 (by decide)
            have w7_τ16 : τ16.1 7 = σ.1 7 := hf_τ16.1 7 (by decide)
            have w8_τ16 : τ16.1 8 = σ.1 8 := hf_τ16.1 8 (by decide)
            have w9_τ16 : τ16.1 9 = σ.1 9 := hf_τ16.1 9 (by decide)
            have w22_τ16 : τ16.1 22 = σ.1 22 := hf_τ16.1 22 (by decide)
            have w25_τ16 : τ16.1 25 = σ.1 25 := hf_τ16.1 25 (by decide)
            have w26_τ16 : τ16.1 26 = σ.1 26 := hf_τ16.1 26 (by decide)
            have w27_τ16 : τ16.1 27 = σ.1 27 := hf_τ16.1 27 (by decide)
            have w28_τ16 : τ16.1 28 = σ.1 28 := hf_τ16.1 28 (by decide)
            have w29_τ16 : τ16.1 29 = σ.1 29 := hf_τ16.1 29 (by decide)
            have g18_τ16 : τ16.2.1 18 = σ.2.1 18 := hf_τ16.2.1 18 (by decide)
            have g19_τ16 : τ16.2.1 19 = σ.2.1 19 := hf_τ16.2.1 19 (by decide)
            have g20_τ16 : τ16.2.1 20 = σ.2.1 20 := hf_τ16.2.1 20 (by decide)
            have g25_τ16 : τ16.2.1 25 = σ.2.1 25 := hf_τ16.2.1 25 (by decide)
            have g26_τ16 : τ16.2.1 26 = σ.2.1 26 := hf_τ16.2.1 26 (by decide)
            have g27_τ16 : τ16.2.1 27 = σ.2.1 27 := hf_τ16.2.1 27 (by decide)
            have g28_τ16 : τ16.2.1 28 = σ.2.1 28 := hf_τ16.2.1 28 (by decide)
            have g39_τ16 : τ16.2.1 39 = σ.2.1 39 := hf_τ16.2.1 39 (by decide)
            have W3 : τ16.1 3 = σ.1 3 := by first | exact w3_τ16.trans W3 | omega
            have W5 : τ16.1 5 = σ.1 5 := by first | exact w5_τ16.trans W5 | omega
            have W6 : τ16.1 6 = σ.1 6 := by first | exact w6_τ16.trans W6 | omega
            have W7 : τ16.1 7 = σ.1 7 := by first | exact w7_τ16.trans W7 | omega
            have W8 : τ16.1 8 = σ.1 8 := by first | exact w8_τ16.trans W8 | omega
            have W22 : τ16.1 22 = σ.1 22 := by first | exact w22_τ16.trans W22 | omega
            have W25 : τ16.1 25 = σ.1 25 := by first | exact w25_τ16.trans W25 | omega
            have G18 : τ16.2.1 18 = σ.2.1 18 := (g18_τ16).trans G18
            have G19 : τ16.2.1 19 = σ.2.1 19 := (g19_τ16).trans G19
            have G20 : τ16.2.1 20 = σ.2.1 20 := (g20_τ16).trans G20
            have G25 : τ16.2.1 25 = σ.2.1 25 := (g25_τ16).trans G25
            have G39 : τ16.2.1 39 = σ.2.1 39 := (g39_τ16).trans G39
            have y18_22_τ16 : τ16.2.1 18 (τ16.1 22) = (σ.2.1 18) (σ.1 22) := by rw [g18_τ16, w22_τ16]
            have y19_22_τ16 : τ16.2.1 19 (τ16.1 22) = (σ.2.1 19) (σ.1 22) := by rw [g19_τ16, w22_τ16]
            have y25_22_τ16 : τ16.2.1 25 (τ16.1 22) = (σ.2.1 25) (σ.1 22) := by rw [g25_τ16, w22_τ16]
            have y26_22_τ16 : τ16.2.1 26 (τ16.1 22) = (σ.2.1 26) (σ.1 22) := by rw [g26_τ16, w22_τ16]
            have Z4 : τ16.2.1 25 (τ16.1 22) + τ16.2.1 26 (τ16.1 22) = (τ16.1 9) := by rw [show (τ16.2.1 25 (τ16.1 22) + τ16.2.1 26 (τ16.1 22) = (τ16.1 9)) = (σ.2.1 25 (σ.1 22) + σ.2.1 26 (σ.1 22) = (σ.1 9)) from by rw [w9_τ16, w22_τ16, g25_τ16, g26_τ16]]; exact Z4
            have Y10 : ca (τ16.2.1 28) ((τ16.1 9)) ≤ ca (τ16.2.1 28) (τ16.2.1 25 (τ16.1 22)) + (τ16.1 29) := by rw [show (ca (τ16.2.1 28) ((τ16.1 9)) ≤ ca (τ16.2.1 28) (τ16.2.1 25 (τ16.1 22)) + (τ16.1 29)) = (ca (σ.2.1 28) ((σ.1 9)) ≤ ca (σ.2.1 28) (σ.2.1 25 (σ.1 22)) + (σ.1 29)) from by rw [w9_τ16, w22_τ16, w29_τ16, g25_τ16, g28_τ16]]; exact Y10
            have Y12 : ¬ (τ16.1 28) = 0 → τ16.2.1 25 (τ16.1 22) < (τ16.1 9) ∧ τ16.2.1 28 ((τ16.1 9) - 1) = 0 := by rw [show (¬ (τ16.1 28) = 0 → τ16.2.1 25 (τ16.1 22) < (τ16.1 9) ∧ τ16.2.1 28 ((τ16.1 9) - 1) = 0) = (¬ (σ.1 28) = 0 → σ.2.1 25 (σ.1 22) < (σ.1 9) ∧ σ.2.1 28 ((σ.1 9) - 1) = 0) from by rw [w9_τ16, w22_τ16, w28_τ16, g25_τ16, g28_τ16]]; exact Y12
            have Y13 : j_eq (σ.2.1 25 (σ.1 22)) (σ.2.1 28) (τ16.2.1 28) := by rw [show (j_eq (σ.2.1 25 (σ.1 22)) (σ.2.1 28) (τ16.2.1 28)) = (j_eq (σ.2.1 25 (σ.1 22)) (σ.2.1 28) (σ.2.1 28)) from by rw [g28_τ16]]; exact Y13
            have NSP : n_sp2 (τ16.2.1 25 (τ16.1 22)) (τ16.1 9) (τ16.1 22) (τ16.2.1 27) (τ16.2.1 28) := by rw [show (n_sp2 (τ16.2.1 25 (τ16.1 22)) (τ16.1 9) (τ16.1 22) (τ16.2.1 27) (τ16.2.1 28)) = (n_sp2 (σ.2.1 25 (σ.1 22)) (σ.1 9) (σ.1 22) (σ.2.1 27) (σ.2.1 28)) from by rw [w9_τ16, w22_τ16, g25_τ16, g27_τ16, g28_τ16]]; exact NSP
            have Y12c : ¬ (τ16.1 28) = 0 → 0 ≤ τ16.2.1 27 ((τ16.1 9) - 1) := by rw [show (¬ (τ16.1 28) = 0 → 0 ≤ τ16.2.1 27 ((τ16.1 9) - 1)) = (¬ (σ.1 28) = 0 → 0 ≤ σ.2.1 27 ((σ.1 9) - 1)) from by rw [w9_τ16, w28_τ16, g27_τ16]]; exact Y12c
            have PK : ∀ k : Int, 0 ≤ k → k < (τ16.1 25) → τ16.2.1 39 k < (τ16.1 22) := by rw [show (∀ k : Int, 0 ≤ k → k < (τ16.1 25) → τ16.2.1 39 k < (τ16.1 22)) = (∀ k : Int, 0 ≤ k → k < (σ.1 25) → σ.2.1 39 k < (σ.1 22)) from by rw [w22_τ16, w25_τ16, g39_τ16]]; exact PK
            have Y10b : (τ16.1 29) + ca (τ16.2.1 28) (τ16.2.1 25 (τ16.1 22)) ≤ ca (τ16.2.1 28) (τ16.1 9) := by rw [show ((τ16.1 29) + ca (τ16.2.1 28) (τ16.2.1 25 (τ16.1 22)) ≤ ca (τ16.2.1 28) (τ16.1 9)) = ((σ.1 29) + ca (σ.2.1 28) (σ.2.1 25 (σ.1 22)) ≤ ca (σ.2.1 28) (σ.1 9)) from by rw [w9_τ16, w22_τ16, w29_τ16, g25_τ16, g28_τ16]]; exact Y10b
            have HYN : ∀ k : Int, 0 ≤ k → k < τ16.2.1 19 (τ16.1 22) → τ16.2.1 20 (τ16.2.1 18 (τ16.1 22) + k) < (τ16.1 22) := by rw [show (∀ k : Int, 0 ≤ k → k < τ16.2.1 19 (τ16.1 22) → τ16.2.1 20 (τ16.2.1 18 (τ16.1 22) + k) < (τ16.1 22)) = (∀ k : Int, 0 ≤ k → k < σ.2.1 19 (σ.1 22) → σ.2.1 20 (σ.2.1 18 (σ.1 22) + k) < (σ.1 22)) from by rw [w22_τ16, g18_τ16, g19_τ16, g20_τ16]]; exact HYN
            have A18 : ∀ j, 0 ≤ τ16.2.1 18 j ∧ τ16.2.1 18 j ≤ 90000 := fun j => hT.2 18 j
            have A19 : ∀ j, 0 ≤ τ16.2.1 19 j ∧ τ16.2.1 19 j ≤ 60 := fun j => hT.2 19 j
            have A20 : ∀ j, 0 ≤ τ16.2.1 20 j ∧ τ16.2.1 20 j ≤ 1499 := fun j => hT.2 20 j
            have A25 : ∀ j, 0 ≤ τ16.2.1 25 j ∧ τ16.2.1 25 j ≤ 20000 := fun j => hT.2 25 j
            have A26 : ∀ j, 0 ≤ τ16.2.1 26 j ∧ τ16.2.1 26 j ≤ 20000 := fun j => hT.2 26 j
            have A27 : ∀ j, (-300) ≤ τ16.2.1 27 j ∧ τ16.2.1 27 j ≤ 1499 := fun j => hT.2 27 j
            have A28 : ∀ j, 0 ≤ τ16.2.1 28 j ∧ τ16.2.1 28 j ≤ 1 := fun j => hT.2 28 j
            have A39 : ∀ j, 0 ≤ τ16.2.1 39 j ∧ τ16.2.1 39 j ≤ 1499 := fun j => hT.2 39 j
            have v3 : 0 ≤ τ16.1 3 ∧ τ16.1 3 ≤ 1000 := hT.1 3
            have v5 : 0 ≤ τ16.1 5 ∧ τ16.1 5 ≤ 1500 := hT.1 5
            have v6 : 0 ≤ τ16.1 6 ∧ τ16.1 6 ≤ 30000 := hT.1 6
            have v7 : 0 ≤ τ16.1 7 ∧ τ16.1 7 ≤ 90000 := hT.1 7
            have v8 : 0 ≤ τ16.1 8 ∧ τ16.1 8 ≤ 20000 := hT.1 8
            have v9 : 0 ≤ τ16.1 9 ∧ τ16.1 9 ≤ 20000 := hT.1 9
            have v20 : 0 ≤ τ16.1 20 ∧ τ16.1 20 ≤ 19 := hT.1 20
            have v22 : 0 ≤ τ16.1 22 ∧ τ16.1 22 ≤ 1499 := hT.1 22
            have v25 : 0 ≤ τ16.1 25 ∧ τ16.1 25 ≤ 300 := hT.1 25
            have v26 : 0 ≤ τ16.1 26 ∧ τ16.1 26 ≤ 5000010 := hT.1 26
            have v27 : 0 ≤ τ16.1 27 ∧ τ16.1 27 ≤ 1 := hT.1 27
            have v28 : 0 ≤ τ16.1 28 ∧ τ16.1 28 ≤ 1 := hT.1 28
            have v29 : 0 ≤ τ16.1 29 ∧ τ16.1 29 ≤ 300 := hT.1 29
            have a18_22 : 0 ≤ τ16.2.1 18 (τ16.1 22) ∧ τ16.2.1 18 (τ16.1 22) ≤ 90000 := hT.2 18 _
            have a19_22 : 0 ≤ τ16.2.1 19 (τ16.1 22) ∧ τ16.2.1 19 (τ16.1 22) ≤ 60 := hT.2 19 _
            have a25_22 : 0 ≤ τ16.2.1 25 (τ16.1 22) ∧ τ16.2.1 25 (τ16.1 22) ≤ 20000 := hT.2 25 _
            have a26_22 : 0 ≤ τ16.2.1 26 (τ16.1 22) ∧ τ16.2.1 26 (τ16.1 22) ≤ 20000 := hT.2 26 _
            have av9 : σ.1 9 ≤ τ16.1 9 := ag.1 9 (by decide)
            exact ⟨hT, (show ¬ (σ.1 20) = 0 → (τ16.1 20) = (σ.1 20) from by (first | omega | (simp only [st_s] <;> omega) | assumption | omega | fail)), (show τ16.2.1 25 (τ16.1 22) + τ16.2.1 26 (τ16.1 22) = (τ16.1 9) from Z4), (show ca (τ16.2.1 28) ((τ16.1 9)) ≤ ca (τ16.2.1 28) (τ16.2.1 25 (τ16.1 22)) + (τ16.1 29) from Y10), (show ¬ (τ16.1 28) = 0 → τ16.2.1 25 (τ16.1 22) < (τ16.1 9) ∧ τ16.2.1 28 ((τ16.1 9) - 1) = 0 from Y12), (show j_eq (σ.2.1 25 (σ.1 22)) (σ.2.1 28) (τ16.2.1 28) from Y13), (show (τ16.1 20) = 0 → (τ16.1 26) ≤ 1000000 from by (first | omega | (simp only [st_s] <;> omega) | assumption | omega | fail)), ag, (show n_sp2 (τ16.2.1 25 (τ16.1 22)) (τ16.1 9) (τ16.1 22) (τ16.2.1 27) (τ16.2.1 28) from NSP), (show (τ16.1 29) + ca (τ16.2.1 28) (τ16.2.1 25 (τ16.1 22)) ≤ ca (τ16.2.1 28) (τ16.1 9) from Y10b), (show ¬ (τ16.1 28) = 0 → 0 ≤ τ16.2.1 27 ((τ16.1 9) - 1) from Y12c)⟩
    ·
      refine ⟨(⟨by (first | omega | (simp only [st_s] <;> omega) | assumption | omega | fail), by (first | omega | (simp only [st_s] <;> omega) | assumption | omega | fail)⟩ : rg (((5 * σ.1 26) + n1) - 84)), ?_⟩
      replace ag := ag_v (i := 26) (x := (((5 * σ.1 26) + n1) - 84)) ag (Or.inl rfl)
      replace hT := mT_v (i := 26) hT (show 0 ≤ (((5 * σ.1 26) + n1) - 84) ∧ (((5 * σ.1 26) + n1) - 84) ≤ 5000010 from by (first | omega | (simp only [st_s] <;> omega) | assumption | omega | fail))
      replace ag := ag_v (i := 27) (x := 1) ag (Or.inl rfl)
      replace hT := mT_v (i := 27) hT (show (0 : Int) ≤ 1 ∧ 1 ≤ 1 from by (first | omega | (simp only [st_s] <;> omega) | assumption | omega | fail))
      replace ag := ag_v (i := 28) (x := 0) ag (Or.inl rfl)
      replace hT := mT_v (i := 28) hT (show (0 : Int) ≤ 0 ∧ 0 ≤ 1 from by (first | omega | (simp only [st_s] <;> omega) | assumption | omega | fail))
      refine ⟨fun c18 => ?_, fun c18 => ?_⟩
      ·
        exact ⟨hT, (show ¬ (σ.1 20) = 0 → (σ.1 20) = (σ.1 20) from by (first | omega | (simp only [st_s] <;> omega) | assumption | omega | fail)), (show σ.2.1 25 (σ.1 22) + σ.2.1 26 (σ.1 22) = (σ.1 9) from Z4), (show ca (σ.2.1 28) ((σ.1 9)) ≤ ca (σ.2.1 28) (σ.2.1 25 (σ.1 22)) + (σ.1 29) from Y10), (show ¬ ((0 : Int)) = 0 → σ.2.1 25 (σ.1 22) < (σ.1 9) ∧ σ.2.1 28 ((σ.1 9) - 1) = 0 from by (first | assumption | omega | fail)), (show j_eq (σ.2.1 25 (σ.1 22)) (σ.2.1 28) (σ.2.1 28) from Y13), (show (σ.1 20) = 0 → ((((5 * σ.1 26) + n1) - 84)) ≤ 1000000 from by (first | omega | (simp only [st_s] <;> omega) | assumption | omega | fail)), ag, (show n_sp2 (σ.2.1 25 (σ.1 22)) (σ.1 9) (σ.1 22) (σ.2.1 27) (σ.2.1 28) from NSP), (show (σ.1 29) + ca (σ.2.1 28) (σ.2.1 25 (σ.1 22)) ≤ ca (σ.2.1 28) (σ.1 9) from Y10b), (show ¬ ((0 : Int)) = 0 → 0 ≤ σ.2.1 27 ((σ.1 9) - 1) from by (first | assumption | exact p14 | (intro z; exfalso; omega) | fail))⟩
      ·
        refine ⟨_, K_X13_fail hT (show 0 ≤ (5 : Int) from by (first | omega | (simp only [st_s] <;> omega) | assumption | omega | fail)) (show (5 : Int) ≤ 19 from by (first | omega | (simp only [st_s] <;> omega) | assumption | omega | fail)) (show -1 ≤ n2 from by (first | omega | (simp only [st_s] <;> omega) | assumption | omega | fail)) (show n2 ≤ 60000 from by (first | omega | (simp only [st_s] <;> omega) | assumption | omega | fail)), ?_⟩
        intro τ21 hn_τ21 hf_τ21 hq
        obtain ⟨hT, q19_1, q19_2⟩ := hq
        replace q19_1 : ¬ (σ.1 20) = 0 → (τ21.1 20) = (σ.1 20) := q19_1
        replace q19_2 : (σ.1 20) = 0 → (τ21.1 20) = (5 : Int) := q19_2
        replace ag : m_ag σ τ21 := ag_r ag hf_τ21 rfl rfl
        have w3_τ21 : τ21.1 3 = σ.1 3 := hf_τ21.1 3 (by decide)
        have w5_τ21 : τ21.1 5 = σ.1 5 := hf_τ21.1 5 (by decide)
        have w6_τ21 : τ21.1 6 = σ.1 6 := hf_τ21.1 6 (by decide)
        have w7_τ21 : τ21.1 7 = σ.1 7 := hf_τ21.1 7 (by decide)
        have w8_τ21 : τ21.1 8 = σ.1 8 := hf_τ21.1 8 (by decide)
        have w9_τ21 : τ21.1 9 = σ.1 9 := hf_τ21.1 9 (by decide)
        have w22_τ21 : τ21.1 22 = σ.1 22 := hf_τ21.1 22 (by decide)
        have w25_τ21 : τ21.1 25 = σ.1 25 := hf_τ21.1 25 (by decide)
        have w26_τ21 : τ21.1 26 = (((5 * σ.1 26) + n1) - 84) := hf_τ21.1 26 (by decide)
        have w27_τ21 : τ21.1 27 = 1 := hf_τ21.1 27 (by decide)
        have w28_τ21 : τ21.1 28 = 0 := hf_τ21.1 28 (by decide)
        have w29_τ21 : τ21.1 29 = σ.1 29 := hf_τ21.1 29 (by decide)
        have g18_τ21 : τ21.2.1 18 = σ.2.1 18 := hf_τ21.2.1 18 (by decide)
        have g19_τ21 : τ21.2.1 19 = σ.2.1 19 := hf_τ21.2.1 19 (by decide)
        have g20_τ21 : τ21.2.1 20 = σ.2.1 20 := hf_τ21.2.1 20 (by decide)
        have g25_τ21 : τ21.2.1 25 = σ.2.1 25 := hf_τ21.2.1 25 (by decide)
        have g26_τ21 : τ21.2.1 26 = σ.2.1 26 := hf_τ21.2.1 26 (by decide)
        have g27_τ21 : τ21.2.1 27 = σ.2.1 27 := hf_τ21.2.1 27 (by decide)
        have g28_τ21 : τ21.2.1 28 = σ.2.1 28 := hf_τ21.2.1 28 (by decide)
        have g39_τ21 : τ21.2.1 39 = σ.2.1 39 := hf_τ21.2.1 39 (by decide)
        have W3 : τ21.1 3 = σ.1 3 := by first | exact w3_τ21.trans W3 | omega
        have W5 : τ21.1 5 = σ.1 5 := by first | exact w5_τ21.trans W5 | omega
        have W6 : τ21.1 6 = σ.1 6 := by first | exact w6_τ21.trans W6 | omega
        have W7 : τ21.1 7 = σ.1 7 := by first | exact w7_τ21.trans W7 | omega
        have W8 : τ21.1 8 = σ.1 8 := by first | exact w8_τ21.trans W8 | omega
        have W22 : τ21.1 22 = σ.1 22 := by first | exact w22_τ21.trans W22 | omega
        have W25 : τ21.1 25 = σ.1 25 := by first | exact w25_τ21.trans W25 | omega
        have G18 : τ21.2.1 18 = σ.2.1 18 := (g18_τ21).trans G18
        have G19 : τ21.2.1 19 = σ.2.1 19 := (g19_τ21).trans G19
        have G20 : τ21.2.1 20 = σ.2.1 20 := (g20_τ21).trans G20
        have G25 : τ21.2.1 25 = σ.2.1 25 := (g25_τ21).trans G25
        have G39 : τ21.2.1 39 = σ.2.1 39 := (g39_τ21).trans G39
        have y18_22_τ21 : τ21.2.1 18 (τ21.1 22) = (σ.2.1 18) (σ.1 22) := by rw [g18_τ21, w22_τ21]
        have y19_22_τ21 : τ21.2.1 19 (τ21.1 22) = (σ.2.1 19) (σ.1 22) := by rw [g19_τ21, w22_τ21]
        have y25_22_τ21 : τ21.2.1 25 (τ21.1 22) = (σ.2.1 25) (σ.1 22) := by rw [g25_τ21, w22_τ21]
        have y26_22_τ21 : τ21.2.1 26 (τ21.1 22) = (σ.2.1 26) (σ.1 22) := by rw [g26_τ21, w22_τ21]
        have Z4 : τ21.2.1 25 (τ21.1 22) + τ21.2.1 26 (τ21.1 22) = (τ21.1 9) := by rw [show (τ21.2.1 25 (τ21.1 22) + τ21.2.1 26 (τ21.1 22) = (τ21.1 9)) = (σ.2.1 25 (σ.1 22) + σ.2.1 26 (σ.1 22) = (σ.1 9)) from by rw [w9_τ21, w22_τ21, g25_τ21, g26_τ21]]; exact Z4
        have Y10 : ca (τ21.2.1 28) ((τ21.1 9)) ≤ ca (τ21.2.1 28) (τ21.2.1 25 (τ21.1 22)) + (τ21.1 29) := by rw [show (ca (τ21.2.1 28) ((τ21.1 9)) ≤ ca (τ21.2.1 28) (τ21.2.1 25 (τ21.1 22)) + (τ21.1 29)) = (ca (σ.2.1 28) ((σ.1 9)) ≤ ca (σ.2.1 28) (σ.2.1 25 (σ.1 22)) + (σ.1 29)) from by rw [w9_τ21, w22_τ21, w29_τ21, g25_τ21, g28_τ21]]; exact Y10
        have Y13 : j_eq (σ.2.1 25 (σ.1 22)) (σ.2.1 28) (τ21.2.1 28) := by rw [show (j_eq (σ.2.1 25 (σ.1 22)) (σ.2.1 28) (τ21.2.1 28)) = (j_eq (σ.2.1 25 (σ.1 22)) (σ.2.1 28) (σ.2.1 28)) from by rw [g28_τ21]]; exact Y13
        have NSP : n_sp2 (τ21.2.1 25 (τ21.1 22)) (τ21.1 9) (τ21.1 22) (τ21.2.1 27) (τ21.2.1 28) := by rw [show (n_sp2 (τ21.2.1 25 (τ21.1 22)) (τ21.1 9) (τ21.1 22) (τ21.2.1 27) (τ21.2.1 28)) = (n_sp2 (σ.2.1 25 (σ.1 22)) (σ.1 9) (σ.1 22) (σ.2.1 27) (σ.2.1 28)) from by rw [w9_τ21, w22_τ21, g25_τ21, g27_τ21, g28_τ21]]; exact NSP
        have PK : ∀ k : Int, 0 ≤ k → k < (τ21.1 25) → τ21.2.1 39 k < (τ21.1 22) := by rw [show (∀ k : Int, 0 ≤ k → k < (τ21.1 25) → τ21.2.1 39 k < (τ21.1 22)) = (∀ k : Int, 0 ≤ k → k < (σ.1 25) → σ.2.1 39 k < (σ.1 22)) from by rw [w22_τ21, w25_τ21, g39_τ21]]; exact PK
        have Y10b : (τ21.1 29) + ca (τ21.2.1 28) (τ21.2.1 25 (τ21.1 22)) ≤ ca (τ21.2.1 28) (τ21.1 9) := by rw [show ((τ21.1 29) + ca (τ21.2.1 28) (τ21.2.1 25 (τ21.1 22)) ≤ ca (τ21.2.1 28) (τ21.1 9)) = ((σ.1 29) + ca (σ.2.1 28) (σ.2.1 25 (σ.1 22)) ≤ ca (σ.2.1 28) (σ.1 9)) from by rw [w9_τ21, w22_τ21, w29_τ21, g25_τ21, g28_τ21]]; exact Y10b
        have HYN : ∀ k : Int, 0 ≤ k → k < τ21.2.1 19 (τ21.1 22) → τ21.2.1 20 (τ21.2.1 18 (τ21.1 22) + k) < (τ21.1 22) := by rw [show (∀ k : Int, 0 ≤ k → k < τ21.2.1 19 (τ21.1 22) → τ21.2.1 20 (τ21.2.1 18 (τ21.1 22) + k) < (τ21.1 22)) = (∀ k : Int, 0 ≤ k → k < σ.2.1 19 (σ.1 22) → σ.2.1 20 (σ.2.1 18 (σ.1 22) + k) < (σ.1 22)) from by rw [w22_τ21, g18_τ21, g19_τ21, g20_τ21]]; exact HYN
        have A18 : ∀ j, 0 ≤ τ21.2.1 18 j ∧ τ21.2.1 18 j ≤ 90000 := fun j => hT.2 18 j
        have A19 : ∀ j, 0 ≤ τ21.2.1 19 j ∧ τ21.2.1 19 j ≤ 60 := fun j => hT.2 19 j
        have A20 : ∀ j, 0 ≤ τ21.2.1 20 j ∧ τ21.2.1 20 j ≤ 1499 := fun j => hT.2 20 j
        have A25 : ∀ j, 0 ≤ τ21.2.1 25 j ∧ τ21.2.1 25 j ≤ 20000 := fun j => hT.2 25 j
        have A26 : ∀ j, 0 ≤ τ21.2.1 26 j ∧ τ21.2.1 26 j ≤ 20000 := fun j => hT.2 26 j
        have A27 : ∀ j, (-300) ≤ τ21.2.1 27 j ∧ τ21.2.1 27 j ≤ 1499 := fun j => hT.2 27 j
        have A28 : ∀ j, 0 ≤ τ21.2.1 28 j ∧ τ21.2.1 28 j ≤ 1 := fun j => hT.2 28 j
        have A39 : ∀ j, 0 ≤ τ21.2.1 39 j ∧ τ21.2.1 39 j ≤ 1499 := fun j => hT.2 39 j
        have v3 : 0 ≤ τ21.1 3 ∧ τ21.1 3 ≤ 1000 := hT.1 3
        have v5 : 0 ≤ τ21.1 5 ∧ τ21.1 5 ≤ 1500 := hT.1 5
        have v6 : 0 ≤ τ21.1 6 ∧ τ21.1 6 ≤ 30000 := hT.1 6
        have v7 : 0 ≤ τ21.1 7 ∧ τ21.1 7 ≤ 90000 := hT.1 7
        have v8 : 0 ≤ τ21.1 8 ∧ τ21.1 8 ≤ 20000 := hT.1 8
        have v9 : 0 ≤ τ21.1 9 ∧ τ21.1 9 ≤ 20000 := hT.1 9
        have v20 : 0 ≤ τ21.1 20 ∧ τ21.1 20 ≤ 19 := hT.1 20
        have v22 : 0 ≤ τ21.1 22 ∧ τ21.1 22 ≤ 1499 := hT.1 22
        have v25 : 0 ≤ τ21.1 25 ∧ τ21.1 25 ≤ 300 := hT.1 25
        have v26 : 0 ≤ τ21.1 26 ∧ τ21.1 26 ≤ 5000010 := hT.1 26
        have v27 : 0 ≤ τ21.1 27 ∧ τ21.1 27 ≤ 1 := hT.1 27
        have v28 : 0 ≤ τ21.1 28 ∧ τ21.1 28 ≤ 1 := hT.1 28
        have v29 : 0 ≤ τ21.1 29 ∧ τ21.1 29 ≤ 300 := hT.1 29
        have a18_22 : 0 ≤ τ21.2.1 18 (τ21.1 22) ∧ τ21.2.1 18 (τ21.1 22) ≤ 90000 := hT.2 18 _
        have a19_22 : 0 ≤ τ21.2.1 19 (τ21.1 22) ∧ τ21.2.1 19 (τ21.1 22) ≤ 60 := hT.2 19 _
        have a25_22 : 0 ≤ τ21.2.1 25 (τ21.1 22) ∧ τ21.2.1 25 (τ21.1 22) ≤ 20000 := hT.2 25 _
        have a26_22 : 0 ≤ τ21.2.1 26 (τ21.1 22) ∧ τ21.2.1 26 (τ21.1 22) ≤ 20000 := hT.2 26 _
        have av9 : σ.1 9 ≤ τ21.1 9 := ag.1 9 (by decide)
        exact ⟨hT, (show ¬ (σ.1 20) = 0 → (τ21.1 20) = (σ.1 20) from by (first | omega | (simp only [st_s] <;> omega) | assumption | omega | fail)), (show τ21.2.1 25 (τ21.1 22) + τ21.2.1 26 (τ21.1 22) = (τ21.1 9) from Z4), (show ca (τ21.2.1 28) ((τ21.1 9)) ≤ ca (τ21.2.1 28) (τ21.2.1 25 (τ21.1 22)) + (τ21.1 29) from Y10), (show ¬ (τ21.1 28) = 0 → τ21.2.1 25 (τ21.1 22) < (τ21.1 9) ∧ τ21.2.1 28 ((τ21.1 9) - 1) = 0 from by (first | assumption | omega | fail)), (show j_eq (σ.2.1 25 (σ.1 22)) (σ.2.1 28) (τ21.2.1 28) from Y13), (show (τ21.1 20) = 0 → (τ21.1 26) ≤ 1000000 from by (first | omega | (simp only [st_s] <;> omega) | assumption | omega | fail)), ag, (show n_sp2 (τ21.2.1 25 (τ21.1 22)) (τ21.1 9) (τ21.1 22) (τ21.2.1 27) (τ21.2.1 28) from NSP), (show (τ21.1 29) + ca (τ21.2.1 28) (τ21.2.1 25 (τ21.1 22)) ≤ ca (τ21.2.1 28) (τ21.1 9) from Y10b), (show ¬ (τ21.1 28) = 0 → 0 ≤ τ21.2.1 27 ((τ21.1 9) - 1) from by (first | assumption | exact p14 | (intro z; exfalso; omega) | fail))⟩
  ·
    refine ⟨(⟨by (first | omega | (simp only [st_s] <;> omega) | assumption | omega | fail), by (first | omega | (simp only [st_s] <;> omega) | assumption | omega | fail)⟩ : rg (((20 * σ.1 26) + n1) - 64)), ?_⟩
    refine ⟨_, K3_X13_endNumber hT (show 1 ≤ (((20 * σ.1 26) + n1) - 64) from by (first | omega | (simp only [st_s] <;> omega) | assumption | omega | fail)) (show (((20 * σ.1 26) + n1) - 64) ≤ 200000000 from by (first | omega | (simp only [st_s] <;> omega) | assumption | omega | fail)) (show 0 ≤ n2 from by (first | omega | (simp only [st_s] <;> omega) | assumption | omega | fail)) (show n2 ≤ 60000 from by (first | omega | (simp only [st_s] <;> omega) | assumption | omega | fail)) (show (σ.1 22) = (σ.1 5) from by (first | omega | (simp only [st_s] <;> omega) | assumption | omega | fail)) (show σ.2.1 25 (σ.1 22) + σ.2.1 26 (σ.1 22) = (σ.1 9) from Z4) (show ca (σ.2.1 28) ((σ.1 9)) ≤ ca (σ.2.1 28) (σ.2.1 25 (σ.1 22)) + (σ.1 29) from Y10) (show ¬ (σ.1 28) = 0 → σ.2.1 25 (σ.1 22) < (σ.1 9) ∧ σ.2.1 28 ((σ.1 9) - 1) = 0 from Y12) (show n_sp2 (σ.2.1 25 (σ.1 22)) (σ.1 9) (σ.1 22) (σ.2.1 27) (σ.2.1 28) from NSP) (show (σ.1 29) + ca (σ.2.1 28) (σ.2.1 25 (σ.1 22)) ≤ ca (σ.2.1 28) (σ.1 9) from Y10b) (show ∀ k : Int, 0 ≤ k → k < (σ.1 25) → σ.2.1 39 k < (σ.1 22) from PK) (show ∀ k : Int, 0 ≤ k → k < σ.2.1 19 (σ.1 22) → σ.2.1 20 (σ.2.1 18 (σ.1 22) + k) < (σ.1 22) from HYN) (show ¬ (σ.1 28) = 0 → 0 ≤ σ.2.1 27 ((σ.1 9) - 1) from Y12c), ?_⟩
    intro τ25 hn_τ25 hf_τ25 hq
    obtain ⟨hT, q23_1, q23_2, q23_3, q23_4, q23_5, q23_6, q23_7, q23_8, q23_9, q23_10⟩ := hq
    replace q23_1 : ¬ (σ.1 20) = 0 → (τ25.1 20) = (σ.1 20) := q23_1
    replace q23_2 : τ25.2.1 25 (τ25.1 22) + τ25.2.1 26 (τ25.1 22) = (τ25.1 9) := q23_2
    replace q23_3 : ca (τ25.2.1 28) ((τ25.1 9)) ≤ ca (τ25.2.1 28) (τ25.2.1 25 (τ25.1 22)) + (τ25.1 29) := q23_3
    replace q23_4 : ¬ (τ25.1 28) = 0 → τ25.2.1 25 (τ25.1 22) < (τ25.1 9) ∧ τ25.2.1 28 ((τ25.1 9) - 1) = 0 := q23_4
    replace q23_5 : j_eq (σ.2.1 25 (σ.1 22)) (σ.2.1 28) (τ25.2.1 28) := q23_5
    replace q23_6 : (τ25.1 26) = 0 := q23_6
    replace q23_7 : m_ag σ τ25 := q23_7
    replace q23_8 : n_sp2 (τ25.2.1 25 (τ25.1 22)) (τ25.1 9) (τ25.1 22) (τ25.2.1 27) (τ25.2.1 28) := q23_8
    replace q23_9 : (τ25.1 29) + ca (τ25.2.1 28) (τ25.2.1 25 (τ25.1 22)) ≤ ca (τ25.2.1 28) (τ25.1 9) := q23_9
    replace q23_10 : ¬ (τ25.1 28) = 0 → 0 ≤ τ25.2.1 27 ((τ25.1 9) - 1) := q23_10
    replace ag : m_ag σ τ25 := ag_t ag q23_7 rfl
    have w3_τ25 : τ25.1 3 = σ.1 3 := hf_τ25.1 3 (by decide)
    have w5_τ25 : τ25.1 5 = σ.1 5 := hf_τ25.1 5 (by decide)
    have w6_τ25 : τ25.1 6 = σ.1 6 := hf_τ25.1 6 (by decide)
    have w7_τ25 : τ25.1 7 = σ.1 7 := hf_τ25.1 7 (by decide)
    have w8_τ25 : τ25.1 8 = σ.1 8 := hf_τ25.1 8 (by decide)
    have w22_τ25 : τ25.1 22 = σ.1 22 := hf_τ25.1 22 (by decide)
    have w25_τ25 : τ25.1 25 = σ.1 25 := hf_τ25.1 25 (by decide)
    have w29_τ25 : τ25.1 29 = σ.1 29 := hf_τ25.1 29 (by decide)
    have g18_τ25 : τ25.2.1 18 = σ.2.1 18 := hf_τ25.2.1 18 (by decide)
    have g19_τ25 : τ25.2.1 19 = σ.2.1 19 := hf_τ25.2.1 19 (by decide)
    have g20_τ25 : τ25.2.1 20 = σ.2.1 20 := hf_τ25.2.1 20 (by decide)
    have g25_τ25 : τ25.2.1 25 = σ.2.1 25 := hf_τ25.2.1 25 (by decide)
    have g39_τ25 : τ25.2.1 39 = σ.2.1 39 := hf_τ25.2.1 39 (by decide)
    have W3 : τ25.1 3 = σ.1 3 := by first | exact w3_τ25.trans W3 | omega
    have W5 : τ25.1 5 = σ.1 5 := by first | exact w5_τ25.trans W5 | omega
    have W6 : τ25.1 6 = σ.1 6 := by first | exact w6_τ25.trans W6 | omega
    have W7 : τ25.1 7 = σ.1 7 := by first | exact w7_τ25.trans W7 | omega
    have W8 : τ25.1 8 = σ.1 8 := by first | exact w8_τ25.trans W8 | omega
    have W22 : τ25.1 22 = σ.1 22 := by first | exact w22_τ25.trans W22 | omega
    have W25 : τ25.1 25 = σ.1 25 := by first | exact w25_τ25.trans W25 | omega
    have G18 : τ25.2.1 18 = σ.2.1 18 := (g18_τ25).trans G18
    have G19 : τ25.2.1 19 = σ.2.1 19 := (g19_τ25).trans G19
    have G20 : τ25.2.1 20 = σ.2.1 20 := (g20_τ25).trans G20
    have G25 : τ25.2.1 25 = σ.2.1 25 := (g25_τ25).trans G25
    have G39 : τ25.2.1 39 = σ.2.1 39 := (g39_τ25).trans G39
    have y18_22_τ25 : τ25.2.1 18 (τ25.1 22) = (σ.2.1 18) (σ.1 22) := by rw [g18_τ25, w22_τ25]
    have y19_22_τ25 : τ25.2.1 19 (τ25.1 22) = (σ.2.1 19) (σ.1 22) := by rw [g19_τ25, w22_τ25]
    have y25_22_τ25 : τ25.2.1 25 (τ25.1 22) = (σ.2.1 25) (σ.1 22) := by rw [g25_τ25, w22_τ25]
    have Z4 : τ25.2.1 25 (τ25.1 22) + τ25.2.1 26 (τ25.1 22) = (τ25.1 9) := q23_2
    have Y10 : ca (τ25.2.1 28) ((τ25.1 9)) ≤ ca (τ25.2.1 28) (τ25.2.1 25 (τ25.1 22)) + (τ25.1 29) := q23_3
    have Y12 : ¬ (τ25.1 28) = 0 → τ25.2.1 25 (τ25.1 22) < (τ25.1 9) ∧ τ25.2.1 28 ((τ25.1 9) - 1) = 0 := q23_4
    have NSP : n_sp2 (τ25.2.1 25 (τ25.1 22)) (τ25.1 9) (τ25.1 22) (τ25.2.1 27) (τ25.2.1 28) := q23_8
    have Y12c : ¬ (τ25.1 28) = 0 → 0 ≤ τ25.2.1 27 ((τ25.1 9) - 1) := q23_10
    have PK : ∀ k : Int, 0 ≤ k → k < (τ25.1 25) → τ25.2.1 39 k < (τ25.1 22) := by rw [show (∀ k : Int, 0 ≤ k → k < (τ25.1 25) → τ25.2.1 39 k < (τ25.1 22)) = (∀ k : Int, 0 ≤ k → k < (σ.1 25) → σ.2.1 39 k < (σ.1 22)) from by rw [w22_τ25, w25_τ25, g39_τ25]]; exact PK
    have Y10b : (τ25.1 29) + ca (τ25.2.1 28) (τ25.2.1 25 (τ25.1 22)) ≤ ca (τ25.2.1 28) (τ25.1 9) := q23_9
    have HYN : ∀ k : Int, 0 ≤ k → k < τ25.2.1 19 (τ25.1 22) → τ25.2.1 20 (τ25.2.1 18 (τ25.1 22) + k) < (τ25.1 22) := by rw [show (∀ k : Int, 0 ≤ k → k < τ25.2.1 19 (τ25.1 22) → τ25.2.1 20 (τ25.2.1 18 (τ25.1 22) + k) < (τ25.1 22)) = (∀ k : Int, 0 ≤ k → k < σ.2.1 19 (σ.1 22) → σ.2.1 20 (σ.2.1 18 (σ.1 22) + k) < (σ.1 22)) from by rw [w22_τ25, g18_τ25, g19_τ25, g20_τ25]]; exact HYN
    have A18 : ∀ j, 0 ≤ τ25.2.1 18 j ∧ τ25.2.1 18 j ≤ 90000 := fun j => hT.2 18 j
    have A19 : ∀ j, 0 ≤ τ25.2.1 19 j ∧ τ25.2.1 19 j ≤ 60 := fun j => hT.2 19 j
    have A20 : ∀ j, 0 ≤ τ25.2.1 20 j ∧ τ25.2.1 20 j ≤ 1499 := fun j => hT.2 20 j
    have A25 : ∀ j, 0 ≤ τ25.2.1 25 j ∧ τ25.2.1 25 j ≤ 20000 := fun j => hT.2 25 j
    have A26 : ∀ j, 0 ≤ τ25.2.1 26 j ∧ τ25.2.1 26 j ≤ 20000 := fun j => hT.2 26 j
    have A27 : ∀ j, (-300) ≤ τ25.2.1 27 j ∧ τ25.2.1 27 j ≤ 1499 := fun j => hT.2 27 j
    have A28 : ∀ j, 0 ≤ τ25.2.1 28 j ∧ τ25.2.1 28 j ≤ 1 := fun j => hT.2 28 j
    have A39 : ∀ j, 0 ≤ τ25.2.1 39 j ∧ τ25.2.1 39 j ≤ 1499 := fun j => hT.2 39 j
    have v3 : 0 ≤ τ25.1 3 ∧ τ25.1 3 ≤ 1000 := hT.1 3
    have v5 : 0 ≤ τ25.1 5 ∧ τ25.1 5 ≤ 1500 := hT.1 5
    have v6 : 0 ≤ τ25.1 6 ∧ τ25.1 6 ≤ 30000 := hT.1 6
    have v7 : 0 ≤ τ25.1 7 ∧ τ25.1 7 ≤ 90000 := hT.1 7
    have v8 : 0 ≤ τ25.1 8 ∧ τ25.1 8 ≤ 20000 := hT.1 8
    have v9 : 0 ≤ τ25.1 9 ∧ τ25.1 9 ≤ 20000 := hT.1 9
    have v20 : 0 ≤ τ25.1 20 ∧ τ25.1 20 ≤ 19 := hT.1 20
    have v22 : 0 ≤ τ25.1 22 ∧ τ25.1 22 ≤ 1499 := hT.1 22
    have v25 : 0 ≤ τ25.1 25 ∧ τ25.1 25 ≤ 300 := hT.1 25
    have v26 : 0 ≤ τ25.1 26 ∧ τ25.1 26 ≤ 5000010 := hT.1 26
    have v27 : 0 ≤ τ25.1 27 ∧ τ25.1 27 ≤ 1 := hT.1 27
    have v28 : 0 ≤ τ25.1 28 ∧ τ25.1 28 ≤ 1 := hT.1 28
    have v29 : 0 ≤ τ25.1 29 ∧ τ25.1 29 ≤ 300 := hT.1 29
    have a18_22 : 0 ≤ τ25.2.1 18 (τ25.1 22) ∧ τ25.2.1 18 (τ25.1 22) ≤ 90000 := hT.2 18 _
    have a19_22 : 0 ≤ τ25.2.1 19 (τ25.1 22) ∧ τ25.2.1 19 (τ25.1 22) ≤ 60 := hT.2 19 _
    have a25_22 : 0 ≤ τ25.2.1 25 (τ25.1 22) ∧ τ25.2.1 25 (τ25.1 22) ≤ 20000 := hT.2 25 _
    have a26_22 : 0 ≤ τ25.2.1 26 (τ25.1 22) ∧ τ25.2.1 26 (τ25.1 22) ≤ 20000 := hT.2 26 _
    have av9 : σ.1 9 ≤ τ25.1 9 := ag.1 9 (by decide)
    exact ⟨hT, (show ¬ (σ.1 20) = 0 → (τ25.1 20) = (σ.1 20) from by (first | omega | (simp only [st_s] <;> omega) | assumption | omega | fail)), (show τ25.2.1 25 (τ25.1 22) + τ25.2.1 26 (τ25.1 22) = (τ25.1 9) from Z4), (show ca (τ25.2.1 28) ((τ25.1 9)) ≤ ca (τ25.2.1 28) (τ25.2.1 25 (τ25.1 22)) + (τ25.1 29) from Y10), (show ¬ (τ25.1 28) = 0 → τ25.2.1 25 (τ25.1 22) < (τ25.1 9) ∧ τ25.2.1 28 ((τ25.1 9) - 1) = 0 from Y12), (show j_eq (σ.2.1 25 (σ.1 22)) (σ.2.1 28) (τ25.2.1 28) from by (first | assumption | exact j_eqs (j_eq0 _ _) (by omega) | fail)), (show (τ25.1 20) = 0 → (τ25.1 26) ≤ 1000000 from by (first | omega | (simp only [st_s] <;> omega) | assumption | omega | fail)), ag, (show n_sp2 (τ25.2.1 25 (τ25.1 22)) (τ25.1 9) (τ25.1 22) (τ25.2.1 27) (τ25.2.1 28) from NSP), (show (τ25.1 29) + ca (τ25.2.1 28) (τ25.2.1 25 (τ25.1 22)) ≤ ca (τ25.2.1 28) (τ25.1 9) from Y10b), (show ¬ (τ25.1 28) = 0 → 0 ≤ τ25.2.1 27 ((τ25.1 9) - 1) from Y12c)⟩
set_option maxHeartbeats 6000000 in
theorem K3_X13_readPacked {σ : S0} (hT : m_T σ) (p1 : (σ.1 16) ≤ (σ.1 0)) (p2 : (σ.1 17) + (σ.1 18) ≤ (σ.1 0)) (p3 : oc (σ.2.1 6) < 4096) (p4 : oc (σ.2.1 7) < 4096) (p5 : (σ.1 22) = (σ.1 5)) (p6 : σ.2.1 25 (σ.1 22) + σ.2.1 26 (σ.1 22) = (σ.1 9)) (p7 : σ.2.1 18 (σ.1 22) + σ.2.1 19 (σ.1 22) ≤ 90100) (p8 : σ.2.1 26 (σ.1 22) = 0) (p9 : n_sp2 (σ.2.1 25 (σ.1 22)) (σ.1 9) (σ.1 22) (σ.2.1 27) (σ.2.1 28)) (p10 : ∀ k : Int, 0 ≤ k → k < σ.2.1 19 (σ.1 22) → σ.2.1 20 (σ.2.1 18 (σ.1 22) + k) < (σ.1 22)) : W_X13_readPacked σ (fun (τ : S0) => (m_T τ) ∧ ((τ.1 16) ≤ (τ.1 0)) ∧ ((τ.1 17) + (τ.1 18) ≤ (τ.1 0)) ∧ (¬ (σ.1 20) = 0 → (τ.1 20) = (σ.1 20)) ∧ (τ.2.1 25 (τ.1 22) + τ.2.1 26 (τ.1 22) = (τ.1 9)) ∧ (ca (τ.2.1 28) ((τ.1 9)) ≤ ca (τ.2.1 28) (τ.2.1 25 (τ.1 22)) + 300) ∧ (j_eq (σ.2.1 25 (σ.1 22)) (σ.2.1 28) (τ.2.1 28)) ∧ (oc (τ.2.1 6) < 4096) ∧ (oc (τ.2.1 7) < 4096) ∧ ((σ.1 16) ≤ (τ.1 16)) ∧ (m_ag σ τ) ∧ (n_sp2 (τ.2.1 25 (τ.1 22)) (τ.1 9) (τ.1 22) (τ.2.1 27) (τ.2.1 28))) := by
  have A6 : ∀ j, (-1) ≤ σ.2.1 6 j ∧ σ.2.1 6 j ≤ 999 := fun j => hT.2 6 j
  have A7 : ∀ j, (-1) ≤ σ.2.1 7 j ∧ σ.2.1 7 j ≤ 1499 := fun j => hT.2 7 j
  have A18 : ∀ j, 0 ≤ σ.2.1 18 j ∧ σ.2.1 18 j ≤ 90000 := fun j => hT.2 18 j
  have A19 : ∀ j, 0 ≤ σ.2.1 19 j ∧ σ.2.1 19 j ≤ 60 := fun j => hT.2 19 j
  have A20 : ∀ j, 0 ≤ σ.2.1 20 j ∧ σ.2.1 20 j ≤ 1499 := fun j => hT.2 20 j
  have A25 : ∀ j, 0 ≤ σ.2.1 25 j ∧ σ.2.1 25 j ≤ 20000 := fun j => hT.2 25 j
  have A26 : ∀ j, 0 ≤ σ.2.1 26 j ∧ σ.2.1 26 j ≤ 20000 := fun j => hT.2 26 j
  have A27 : ∀ j, (-300) ≤ σ.2.1 27 j ∧ σ.2.1 27 j ≤ 1499 := fun j => hT.2 27 j
  have A28 : ∀ j, 0 ≤ σ.2.1 28 j ∧ σ.2.1 28 j ≤ 1 := fun j => hT.2 28 j
  have A39 : ∀ j, 0 ≤ σ.2.1 39 j ∧ σ.2.1 39 j ≤ 1499 := fun j => hT.2 39 j
  have v0 : 0 ≤ σ.1 0 ∧ σ.1 0 ≤ 60000 := hT.1 0
  have v3 : 0 ≤ σ.1 3 ∧ σ.1 3 ≤ 1000 := hT.1 3
  have v5 : 0 ≤ σ.1 5 ∧ σ.1 5 ≤ 1500 := hT.1 5
  have v6 : 0 ≤ σ.1 6 ∧ σ.1 6 ≤ 30000 := hT.1 6
  have v7 : 0 ≤ σ.1 7 ∧ σ.1 7 ≤ 90000 := hT.1 7
  have v8 : 0 ≤ σ.1 8 ∧ σ.1 8 ≤ 20000 := hT.1 8
  have v9 : 0 ≤ σ.1 9 ∧ σ.1 9 ≤ 20000 := hT.1 9
  have v16 : 0 ≤ σ.1 16 ∧ σ.1 16 ≤ 60000 := hT.1 16
  have v17 : 0 ≤ σ.1 17 ∧ σ.1 17 ≤ 60000 := hT.1 17
  have v18 : 0 ≤ σ.1 18 ∧ σ.1 18 ≤ 60000 := hT.1 18
  have v19 : (-1) ≤ σ.1 19 ∧ σ.1 19 ≤ 125 := hT.1 19
  have v20 : 0 ≤ σ.1 20 ∧ σ.1 20 ≤ 19 := hT.1 20
  have v22 : 0 ≤ σ.1 22 ∧ σ.1 22 ≤ 1499 := hT.1 22
  have v25 : 0 ≤ σ.1 25 ∧ σ.1 25 ≤ 300 := hT.1 25
  have v26 : 0 ≤ σ.1 26 ∧ σ.1 26 ≤ 5000010 := hT.1 26
  have v27 : 0 ≤ σ.1 27 ∧ σ.1 27 ≤ 1 := hT.1 27
  have v28 : 0 ≤ σ.1 28 ∧ σ.1 28 ≤ 1 := hT.1 28
  have v29 : 0 ≤ σ.1 29 ∧ σ.1 29 ≤ 300 := hT.1 29
  have a18_22 : 0 ≤ σ.2.1 18 (σ.1 22) ∧ σ.2.1 18 (σ.1 22) ≤ 90000 := hT.2 18 _
  have a19_22 : 0 ≤ σ.2.1 19 (σ.1 22) ∧ σ.2.1 19 (σ.1 22) ≤ 60 := hT.2 19 _
  have a25_22 : 0 ≤ σ.2.1 25 (σ.1 22) ∧ σ.2.1 25 (σ.1 22) ≤ 20000 := hT.2 25 _
  have a26_22 : 0 ≤ σ.2.1 26 (σ.1 22) ∧ σ.2.1 26 (σ.1 22) ≤ 20000 := hT.2 26 _
  have W0 : σ.1 0 = σ.1 0 := rfl
  have W3 : σ.1 3 = σ.1 3 := rfl
  have W5 : σ.1 5 = σ.1 5 := rfl
  have W6 : σ.1 6 = σ.1 6 := rfl
  have W7 : σ.1 7 = σ.1 7 := rfl
  have W8 : σ.1 8 = σ.1 8 := rfl
  have W22 : σ.1 22 = σ.1 22 := rfl
  have G6 : σ.2.1 6 = σ.2.1 6 := rfl
  have G7 : σ.2.1 7 = σ.2.1 7 := rfl
  have G18 : σ.2.1 18 = σ.2.1 18 := rfl
  have G19 : σ.2.1 19 = σ.2.1 19 := rfl
  have G20 : σ.2.1 20 = σ.2.1 20 := rfl
  have G25 : σ.2.1 25 = σ.2.1 25 := rfl
  have ag : m_ag σ σ := ag_0 σ
  intro P36 P68 P110 P124 h36 h68 h110 h124
  have Y13 := j_eq0 (σ.2.1 25 (σ.1 22)) (σ.2.1 28)
  have Y14 : ca (σ.2.1 28) (σ.1 9) ≤ ca (σ.2.1 28) (σ.2.1 25 (σ.1 22)) + 300 := by rw [show σ.2.1 25 (σ.1 22) = σ.1 9 from by omega]; omega
  have Z4 : σ.2.1 25 (σ.1 22) + σ.2.1 26 (σ.1 22) = (σ.1 9) := p6
  have NSP : n_sp2 (σ.2.1 25 (σ.1 22)) (σ.1 9) (σ.1 22) (σ.2.1 27) (σ.2.1 28) := p9
  have HYN : ∀ k : Int, 0 ≤ k → k < σ.2.1 19 (σ.1 22) → σ.2.1 20 (σ.2.1 18 (σ.1 22) + k) < (σ.1 22) := p10
  have HYN_0 := HYN
  have NSP_0 := NSP
  have Y13_0 := Y13
  have Y14_0 := Y14
  have Z4_0 := Z4
  have l_36 : ∀ (m_36 : Nat) (τ_36 : S0), 3 * ((τ_36.1 0) - (τ_36.1 16)) + z_0 ((τ_36.1 20)) + 1 - z_0 ((τ_36.1 19)) < (m_36 : Int) → (m_T τ_36) → (m_ag σ τ_36) → (τ_36.1 0 = σ.1 0) → (τ_36.1 3 = σ.1 3) → (τ_36.1 5 = σ.1 5) → (τ_36.1 6 = σ.1 6) → (τ_36.1 7 = σ.1 7) → (τ_36.1 8 = σ.1 8) → (τ_36.1 22 = σ.1 22) → (τ_36.2.1 6 = σ.2.1 6) → (τ_36.2.1 7 = σ.2.1 7) → (τ_36.2.1 18 = σ.2.1 18) → (τ_36.2.1 19 = σ.2.1 19) → (τ_36.2.1 20 = σ.2.1 20) → (τ_36.2.1 25 = σ.2.1 25) → ((τ_36.1 16) ≤ (τ_36.1 0)) → ((τ_36.1 17) + (τ_36.1 18) ≤ (τ_36.1 0)) → (oc (τ_36.2.1 6) < 4096) → (oc (τ_36.2.1 7) < 4096) → (¬ (σ.1 20) = 0 → (τ_36.1 20) = (σ.1 20)) → (τ_36.2.1 25 (τ_36.1 22) + τ_36.2.1 26 (τ_36.1 22) = (τ_36.1 9)) → (ca (τ_36.2.1 28) ((τ_36.1 9)) ≤ ca (τ_36.2.1 28) (τ_36.2.1 25 (τ_36.1 22)) + (τ_36.1 29)) → (¬ (τ_36.1 28) = 0 → τ_36.2.1 25 (τ_36.1 22) < (τ_36.1 9) ∧ τ_36.2.1 28 ((τ_36.1 9) - 1) = 0) → (j_eq (σ.2.1 25 (σ.1 22)) (σ.2.1 28) (τ_36.2.1 28)) → ((τ_36.1 20) = 0 → (τ_36.1 26) ≤ 1000000) → ((σ.1 16) ≤ (τ_36.1 16)) → (n_sp2 (τ_36.2.1 25 (τ_36.1 22)) (τ_36.1 9) (τ_36.1 22) (τ_36.2.1 27) (τ_36.2.1 28)) → ((τ_36.1 29) + ca (τ_36.2.1 28) (τ_36.2.1 25 (τ_36.1 22)) ≤ ca (τ_36.2.1 28) (τ_36.1 9)) → (∀ k : Int, 0 ≤ k → k < (τ_36.1 25) → τ_36.2.1 39 k < (τ_36.1 22)) → (∀ k : Int, 0 ≤ k → k < τ_36.2.1 19 (τ_36.1 22) → τ_36.2.1 20 (τ_36.2.1 18 (τ_36.1 22) + k) < (τ_36.1 22)) → (¬ (τ_36.1 28) = 0 → 0 ≤ τ_36.2.1 27 ((τ_36.1 9) - 1)) → P36 τ_36 := by
    intro m_36
    induction m_36 with
    | zero =>
      intro τ_36 hm hT ag W0 W3 W5 W6 W7 W8 W22 G6 G7 G18 G19 G20 G25 i36_1 i36_2 i36_3 i36_4 i36_5 i36_6 i36_7 i36_8 i36_9 i36_10 i36_11 i36_12 i36_13 i36_14 i36_15 i36_16
      have A6 : ∀ j, (-1) ≤ τ_36.2.1 6 j ∧ τ_36.2.1 6 j ≤ 999 := fun j => hT.2 6 j
      have A7 : ∀ j, (-1) ≤ τ_36.2.1 7 j ∧ τ_36.2.1 7 j ≤ 1499 := fun j => hT.2 7 j
      have A18 : ∀ j, 0 ≤ τ_36.2.1 18 j ∧ τ_36.2.1 18 j ≤ 90000 := fun j => hT.2 18 j
      have A19 : ∀ j, 0 ≤ τ_36.2.1 19 j ∧ τ_36.2.1 19 j ≤ 60 := fun j => hT.2 19 j
      have A20 : ∀ j, 0 ≤ τ_36.2.1 20 j ∧ τ_36.2.1 20 j ≤ 1499 := fun j => hT.2 20 j
      have A25 : ∀ j, 0 ≤ τ_36.2.1 25 j ∧ τ_36.2.1 25 j ≤ 20000 := fun j => hT.2 25 j
      have A26 : ∀ j, 0 ≤ τ_36.2.1 26 j ∧ τ_36.2.1 26 j ≤ 20000 := fun j => hT.2 26 j
      have A27 : ∀ j, (-300) ≤ τ_36.2.1 27 j ∧ τ_36.2.1 27 j ≤ 1499 := fun j => hT.2 27 j
      have A28 : ∀ j, 0 ≤ τ_36.2.1 28 j ∧ τ_36.2.1 28 j ≤ 1 := fun j => hT.2 28 j
      have A39 : ∀ j, 0 ≤ τ_36.2.1 39 j ∧ τ_36.2.1 39 j ≤ 1499 := fun j => hT.2 39 j
      have v0 : 0 ≤ τ_36.1 0 ∧ τ_36.1 0 ≤ 60000 := hT.1 0
      have v3 : 0 ≤ τ_36.1 3 ∧ τ_36.1 3 ≤ 1000 := hT.1 3
      have v5 : 0 ≤ τ_36.1 5 ∧ τ_36.1 5 ≤ 1500 := hT.1 5
      have v6 : 0 ≤ τ_36.1 6 ∧ τ_36.1 6 ≤ 30000 := hT.1 6
      have v7 : 0 ≤ τ_36.1 7 ∧ τ_36.1 7 ≤ 90000 := hT.1 7
      have v8 : 0 ≤ τ_36.1 8 ∧ τ_36.1 8 ≤ 20000 := hT.1 8
      have v9 : 0 ≤ τ_36.1 9 ∧ τ_36.1 9 ≤ 20000 := hT.1 9
      have v16 : 0 ≤ τ_36.1 16 ∧ τ_36.1 16 ≤ 60000 := hT.1 16
      have v17 : 0 ≤ τ_36.1 17 ∧ τ_36.1 17 ≤ 60000 := hT.1 17
      have v18 : 0 ≤ τ_36.1 18 ∧ τ_36.1 18 ≤ 60000 := hT.1 18
      have v19 : (-1) ≤ τ_36.1 19 ∧ τ_36.1 19 ≤ 125 := hT.1 19
      have v20 : 0 ≤ τ_36.1 20 ∧ τ_36.1 20 ≤ 19 := hT.1 20
      have v22 : 0 ≤ τ_36.1 22 ∧ τ_36.1 22 ≤ 1499 := hT.1 22
      have v25 : 0 ≤ τ_36.1 25 ∧ τ_36.1 25 ≤ 300 := hT.1 25
      have v26 : 0 ≤ τ_36.1 26 ∧ τ_36.1 26 ≤ 5000010 := hT.1 26
      have v27 : 0 ≤ τ_36.1 27 ∧ τ_36.1 27 ≤ 1 := hT.1 27
      have v28 : 0 ≤ τ_36.1 28 ∧ τ_36.1 28 ≤ 1 := hT.1 28
      have v29 : 0 ≤ τ_36.1 29 ∧ τ_36.1 29 ≤ 300 := hT.1 29
      have a18_22 : 0 ≤ τ_36.2.1 18 (τ_36.1 22) ∧ τ_36.2.1 18 (τ_36.1 22) ≤ 90000 := hT.2 18 _
      have a19_22 : 0 ≤ τ_36.2.1 19 (τ_36.1 22) ∧ τ_36.2.1 19 (τ_36.1 22) ≤ 60 := hT.2 19 _
      have a25_22 : 0 ≤ τ_36.2.1 25 (τ_36.1 22) ∧ τ_36.2.1 25 (τ_36.1 22) ≤ 20000 := hT.2 25 _
      have a26_22 : 0 ≤ τ_36.2.1 26 (τ_36.1 22) ∧ τ_36.2.1 26 (τ_36.1 22) ≤ 20000 := hT.2 26 _
      have av9 : σ.1 9 ≤ τ_36.1 9 := ag.1 9 (by decide)
      have zz0 := z_e ((τ_36.1 20))
      have zz1 := z_e ((τ_36.1 19))
      exfalso; (first | omega | (simp only [st_s] <;> omega) | assumption | omega | fail)
    | succ m_36 ih_36 =>
      intro τ_36 hm_36 hT ag W0 W3 W5 W6 W7 W8 W22 G6 G7 G18 G19 G20 G25 i36_1 i36_2 i36_3 i36_4 i36_5 i36_6 i36_7 i36_8 i36_9 i36_10 i36_11 i36_12 i36_13 i36_14 i36_15 i36_16
      have A6 : ∀ j, (-1) ≤ τ_36.2.1 6 j ∧ τ_36.2.1 6 j ≤ 999 := fun j => hT.2 6 j
      have A7 : ∀ j, (-1) ≤ τ_36.2.1 7 j ∧ τ_36.2.1 7 j ≤ 1499 := fun j => hT.2 7 j
      have A18 : ∀ j, 0 ≤ τ_36.2.1 18 j ∧ τ_36.2.1 18 j ≤ 90000 := fun j => hT.2 18 j
      have A19 : ∀ j, 0 ≤ τ_36.2.1 19 j ∧ τ_36.2.1 19 j ≤ 60 := fun j => hT.2 19 j
      have A20 : ∀ j, 0 ≤ τ_36.2.1 20 j ∧ τ_36.2.1 20 j ≤ 1499 := fun j => hT.2 20 j
      have A25 : ∀ j, 0 ≤ τ_36.2.1 25 j ∧ τ_36.2.1 25 j ≤ 20000 := fun j => hT.2 25 j
      have A26 : ∀ j, 0 ≤ τ_36.2.1 26 j ∧ τ_36.2.1 26 j ≤ 20000 := fun j => hT.2 26 j
      have A27 : ∀ j, (-300) ≤ τ_36.2.1 27 j ∧ τ_36.2.1 27 j ≤ 1499 := fun j => hT.2 27 j
      have A28 : ∀ j, 0 ≤ τ_36.2.1 28 j ∧ τ_36.2.1 28 j ≤ 1 := fun j => hT.2 28 j
      have A39 : ∀ j, 0 ≤ τ_36.2.1 39 j ∧ τ_36.2.1 39 j ≤ 1499 := fun j => hT.2 39 j
      have v0 : 0 ≤ τ_36.1 0 ∧ τ_36.1 0 ≤ 60000 := hT.1 0
      have v3 : 0 ≤ τ_36.1 3 ∧ τ_36.1 3 ≤ 1000 := hT.1 3
      have v5 : 0 ≤ τ_36.1 5 ∧ τ_36.1 5 ≤ 1500 := hT.1 5
      have v6 : 0 ≤ τ_36.1 6 ∧ τ_36.1 6 ≤ 30000 := hT.1 6
      have v7 : 0 ≤ τ_36.1 7 ∧ τ_36.1 7 ≤ 90000 := hT.1 7
      have v8 : 0 ≤ τ_36.1 8 ∧ τ_36.1 8 ≤ 20000 := hT.1 8
      have v9 : 0 ≤ τ_36.1 9 ∧ τ_36.1 9 ≤ 20000 := hT.1 9
      have v16 : 0 ≤ τ_36.1 16 ∧ τ_36.1 16 ≤ 60000 := hT.1 16
      have v17 : 0 ≤ τ_36.1 17 ∧ τ_36.1 17 ≤ 60000 := hT.1 17
      have v18 : 0 ≤ τ_36.1 18 ∧ τ_36.1 18 ≤ 60000 := hT.1 18
      have v19 : (-1) ≤ τ_36.1 19 ∧ τ_36.1 19 ≤ 125 := hT.1 19
      have v20 : 0 ≤ τ_36.1 20 ∧ τ_36.1 20 ≤ 19 := hT.1 20
      have v22 : 0 ≤ τ_36.1 22 ∧ τ_36.1 22 ≤ 1499 := hT.1 22
      have v25 : 0 ≤ τ_36.1 25 ∧ τ_36.1 25 ≤ 300 := hT.1 25
      have v26 : 0 ≤ τ_36.1 26 ∧ τ_36.1 26 ≤ 5000010 := hT.1 26
      have v27 : 0 ≤ τ_36.1 27 ∧ τ_36.1 27 ≤ 1 := hT.1 27
      have v28 : 0 ≤ τ_36.1 28 ∧ τ_36.1 28 ≤ 1 := hT.1 28
      have v29 : 0 ≤ τ_36.1 29 ∧ τ_36.1 29 ≤ 300 := hT.1 29
      have a18_22 : 0 ≤ τ_36.2.1 18 (τ_36.1 22) ∧ τ_36.2.1 18 (τ_36.1 22) ≤ 90000 := hT.2 18 _
      have a19_22 : 0 ≤ τ_36.2.1 19 (τ_36.1 22) ∧ τ_36.2.1 19 (τ_36.1 22) ≤ 60 := hT.2 19 _
      have a25_22 : 0 ≤ τ_36.2.1 25 (τ_36.1 22) ∧ τ_36.2.1 25 (τ_36.1 22) ≤ 20000 := hT.2 25 _
      have a26_22 : 0 ≤ τ_36.2.1 26 (τ_36.1 22) ∧ τ_36.2.1 26 (τ_36.1 22) ≤ 20000 := hT.2 26 _
      have av9 : σ.1 9 ≤ τ_36.1 9 := ag.1 9 (by decide)
      have zy36_0 := z_e ((τ_36.1 20))
      have zy36_1 := z_e ((τ_36.1 19))
      have y18_22_τ_36 : τ_36.2.1 18 (τ_36.1 22) = σ.2.1 18 (σ.1 22) := by rw [G18, W22]
      have y19_22_τ_36 : τ_36.2.1 19 (τ_36.1 22) = σ.2.1 19 (σ.1 22) := by rw [G19, W22]
      have y25_22_τ_36 : τ_36.2.1 25 (τ_36.1 22) = σ.2.1 25 (σ.1 22) := by rw [G25, W22]
      have o6_τ_36 := congrArg oc G6
      have o7_τ_36 := congrArg oc G7
      have Z4 : τ_36.2.1 25 (τ_36.1 22) + τ_36.2.1 26 (τ_36.1 22) = (τ_36.1 9) := i36_6
      have Y10 : ca (τ_36.2.1 28) ((τ_36.1 9)) ≤ ca (τ_36.2.1 28) (τ_36.2.1 25 (τ_36.1 22)) + (τ_36.1 29) := i36_7
      have Y12 : ¬ (τ_36.1 28) = 0 → τ_36.2.1 25 (τ_36.1 22) < (τ_36.1 9) ∧ τ_36.2.1 28 ((τ_36.1 9) - 1) = 0 := i36_8
      have Y13 : j_eq (σ.2.1 25 (σ.1 22)) (σ.2.1 28) (τ_36.2.1 28) := i36_9
      have NSP : n_sp2 (τ_36.2.1 25 (τ_36.1 22)) (τ_36.1 9) (τ_36.1 22) (τ_36.2.1 27) (τ_36.2.1 28) := i36_12
      have Y12c : ¬ (τ_36.1 28) = 0 → 0 ≤ τ_36.2.1 27 ((τ_36.1 9) - 1) := i36_16
      have PK : ∀ k : Int, 0 ≤ k → k < (τ_36.1 25) → τ_36.2.1 39 k < (τ_36.1 22) := i36_14
      have Y10b : (τ_36.1 29) + ca (τ_36.2.1 28) (τ_36.2.1 25 (τ_36.1 22)) ≤ ca (τ_36.2.1 28) (τ_36.1 9) := i36_13
      have HYN : ∀ k : Int, 0 ≤ k → k < τ_36.2.1 19 (τ_36.1 22) → τ_36.2.1 20 (τ_36.2.1 18 (τ_36.1 22) + k) < (τ_36.1 22) := i36_15
      have l_68 : ∀ (m_68 : Nat) (u1_68 : Int) (τ_68 : S0), (τ_68.1 18) - u1_68 + 1 < (m_68 : Int) → (m_T τ_68) → (m_ag σ τ_68) → (τ_68.1 0 = σ.1 0) → (τ_68.1 3 = σ.1 3) → (τ_68.1 5 = σ.1 5) → (τ_68.1 6 = σ.1 6) → (τ_68.1 7 = σ.1 7) → (τ_68.1 8 = σ.1 8) → (τ_68.1 22 = σ.1 22) → (τ_68.2.1 6 = σ.2.1 6) → (τ_68.2.1 7 = σ.2.1 7) → (τ_68.2.1 18 = σ.2.1 18) → (τ_68.2.1 19 = σ.2.1 19) → (τ_68.2.1 20 = σ.2.1 20) → (τ_68.2.1 25 = σ.2.1 25) → ((τ_68.1 16) ≤ (τ_68.1 0)) → ((τ_68.1 17) + (τ_68.1 18) ≤ (τ_68.1 0)) → (oc (τ_68.2.1 6) < 4096) → (oc (τ_68.2.1 7) < 4096) → (¬ (σ.1 20) = 0 → (τ_68.1 20) = (σ.1 20)) → (τ_68.2.1 25 (τ_68.1 22) + τ_68.2.1 26 (τ_68.1 22) = (τ_68.1 9)) → (ca (τ_68.2.1 28) ((τ_68.1 9)) ≤ ca (τ_68.2.1 28) (τ_68.2.1 25 (τ_68.1 22)) + (τ_68.1 29)) → (¬ (τ_68.1 28) = 0 → τ_68.2.1 25 (τ_68.1 22) < (τ_68.1 9) ∧ τ_68.2.1 28 ((τ_68.1 9) - 1) = 0) → (j_eq (σ.2.1 25 (σ.1 22)) (σ.2.1 28) (τ_68.2.1 28)) → ((τ_68.1 20) = 0 → (τ_68.1 26) ≤ 1000000) → (0 ≤ u1_68) → (u1_68 ≤ (τ_68.1 18)) → (3 * ((τ_68.1 0) - (τ_68.1 16)) + 2 ≤ (m_36 : Int)) → ((σ.1 16) ≤ (τ_68.1 16)) → (n_sp2 (τ_68.2.1 25 (τ_68.1 22)) (τ_68.1 9) (τ_68.1 22) (τ_68.2.1 27) (τ_68.2.1 28)) → ((τ_68.1 29) + ca (τ_68.2.1 28) (τ_68.2.1 25 (τ_68.1 22)) ≤ ca (τ_68.2.1 28) (τ_68.1 9)) → (∀ k : Int, 0 ≤ k → k < (τ_68.1 25) → τ_68.2.1 39 k < (τ_68.1 22)) → (∀ k : Int, 0 ≤ k → k < τ_68.2.1 19 (τ_68.1 22) → τ_68.2.1 20 (τ_68.2.1 18 (τ_68.1 22) + k) < (τ_68.1 22)) → (¬ (τ_68.1 28) = 0 → 0 ≤ τ_68.2.1 27 ((τ_68.1 9) - 1)) → P68 u1_68 τ_68 := by
        intro m_68
        induction m_68 with
        | zero =>
          intro u1_68 τ_68 hm hT ag W0 W3 W5 W6 W7 W8 W22 G6 G7 G18 G19 G20 G25 i68_1 i68_2 i68_3 i68_4 i68_5 i68_6 i68_7 i68_8 i68_9 i68_10 i68_11 i68_12 i68_13 i68_14 i68_15 i68_16 i68_17 i68_18 i68_19
          have A6 : ∀ j, (-1) ≤ τ_68.2.1 6 j ∧ τ_68.2.1 6 j ≤ 999 := fun j => hT.2 6 j
          have A7 : ∀ j, (-1) ≤ τ_68.2.1 7 j ∧ τ_68.2.1 7 j ≤ 1499 := fun j => hT.2 7 j
          have A18 : ∀ j, 0 ≤ τ_68.2.1 18 j ∧ τ_68.2.1 18 j ≤ 90000 := fun j => hT.2 18 j
          have A19 : ∀ j, 0 ≤ τ_68.2.1 19 j ∧ τ_68.2.1 19 j ≤ 60 := fun j => hT.2 19 j
          have A20 : ∀ j, 0 ≤ τ_68.2.1 20 j ∧ τ_68.2.1 20 j ≤ 1499 := fun j => hT.2 20 j
          have A25 : ∀ j, 0 ≤ τ_68.2.1 25 j ∧ τ_68.2.1 25 j ≤ 20000 := fun j => hT.2 25 j
          have A26 : ∀ j, 0 ≤ τ_68.2.1 26 j ∧ τ_68.2.1 26 j ≤ 20000 := fun j => hT.2 26 j
          have A27 : ∀ j, (-300) ≤ τ_68.2.1 27 j ∧ τ_68.2.1 27 j ≤ 1499 := fun j => hT.2 27 j
          have A28 : ∀ j, 0 ≤ τ_68.2.1 28 j ∧ τ_68.2.1 28 j ≤ 1 := fun j => hT.2 28 j
          have A39 : ∀ j, 0 ≤ τ_68.2.1 39 j ∧ τ_68.2.1 39 j ≤ 1499 := fun j => hT.2 39 j
          have v0 : 0 ≤ τ_68.1 0 ∧ τ_68.1 0 ≤ 60000 := hT.1 0
          have v3 : 0 ≤ τ_68.1 3 ∧ τ_68.1 3 ≤ 1000 := hT.1 3
          have v5 : 0 ≤ τ_68.1 5 ∧ τ_68.1 5 ≤ 1500 := hT.1 5
          have v6 : 0 ≤ τ_68.1 6 ∧ τ_68.1 6 ≤ 30000 := hT.1 6
          have v7 : 0 ≤ τ_68.1 7 ∧ τ_68.1 7 ≤ 90000 := hT.1 7
          have v8 : 0 ≤ τ_68.1 8 ∧ τ_68.1 8 ≤ 20000 := hT.1 8
          have v9 : 0 ≤ τ_68.1 9 ∧ τ_68.1 9 ≤ 20000 := hT.1 9
          have v16 : 0 ≤ τ_68.1 16 ∧ τ_68.1 16 ≤ 60000 := hT.1 16
          have v17 : 0 ≤ τ_68.1 17 ∧ τ_68.1 17 ≤ 60000 := hT.1 17
          have v18 : 0 ≤ τ_68.1 18 ∧ τ_68.1 18 ≤ 60000 := hT.1 18
          have v19 : (-1) ≤ τ_68.1 19 ∧ τ_68.1 19 ≤ 125 := hT.1 19
          have v20 : 0 ≤ τ_68.1 20 ∧ τ_68.1 20 ≤ 19 := hT.1 20
          have v22 : 0 ≤ τ_68.1 22 ∧ τ_68.1 22 ≤ 1499 := hT.1 22
          have v25 : 0 ≤ τ_68.1 25 ∧ τ_68.1 25 ≤ 300 := hT.1 25
          have v26 : 0 ≤ τ_68.1 26 ∧ τ_68.1 26 ≤ 5000010 := hT.1 26
          have v27 : 0 ≤ τ_68.1 27 ∧ τ_68.1 27 ≤ 1 := hT.1 27
          have v28 : 0 ≤ τ_68.1 28 ∧ τ_68.1 28 ≤ 1 := hT.1 28
          have v29 : 0 ≤ τ_68.1 29 ∧ τ_68.1 29 ≤ 300 := hT.1 29
          have a18_22 : 0 ≤ τ_68.2.1 18 (τ_68.1 22) ∧ τ_68.2.1 18 (τ_68.1 22) ≤ 90000 := hT.2 18 _
          have a19_22 : 0 ≤ τ_68.2.1 19 (τ_68.1 22) ∧ τ_68.2.1 19 (τ_68.1 22) ≤ 60 := hT.2 19 _
          have a25_22 : 0 ≤ τ_68.2.1 25 (τ_68.1 22) ∧ τ_68.2.1 25 (τ_68.1 22) ≤ 20000 := hT.2 25 _
          have a26_22 : 0 ≤ τ_68.2.1 26 (τ_68.1 22) ∧ τ_68.2.1 26 (τ_68.1 22) ≤ 20000 := hT.2 26 _
          have av9 : σ.1 9 ≤ τ_68.1 9 := ag.1 9 (by decide)
          exfalso; (first | omega | (simp only [st_s] <;> omega) | assumption | omega | fail)
        | succ m_68 ih_68 =>
          intro u1_68 τ_68 hm_68 hT ag W0 W3 W5 W6 W7 W8 W22 G6 G7 G18 G19 G20 G25 i68_1 i68_2 i68_3 i68_4 i68_5 i68_6 i68_7 i68_8 i68_9 i68_10 i68_11 i68_12 i68_13 i68_14 i68_15 i68_16 i68_17 i68_18 i68_19
          have A6 : ∀ j, (-1) ≤ τ_68.2.1 6 j ∧ τ_68.2.1 6 j ≤ 999 := fun j => hT.2 6 j
          have A7 : ∀ j, (-1) ≤ τ_68.2.1 7 j ∧ τ_68.2.1 7 j ≤ 1499 := fun j => hT.2 7 j
          have A18 : ∀ j, 0 ≤ τ_68.2.1 18 j ∧ τ_68.2.1 18 j ≤ 90000 := fun j => hT.2 18 j
          have A19 : ∀ j, 0 ≤ τ_68.2.1 19 j ∧ τ_68.2.1 19 j ≤ 60 := fun j => hT.2 19 j
          have A20 : ∀ j, 0 ≤ τ_68.2.1 20 j ∧ τ_68.2.1 20 j ≤ 1499 := fun j => hT.2 20 j
          have A25 : ∀ j, 0 ≤ τ_68.2.1 25 j ∧ τ_68.2.1 25 j ≤ 20000 := fun j => hT.2 25 j
          have A26 : ∀ j, 0 ≤ τ_68.2.1 26 j ∧ τ_68.2.1 26 j ≤ 20000 := fun j => hT.2 26 j
          have A27 : ∀ j, (-300) ≤ τ_68.2.1 27 j ∧ τ_68.2.1 27 j ≤ 1499 := fun j => hT.2 27 j
          have A28 : ∀ j, 0 ≤ τ_68.2.1 28 j ∧ τ_68.2.1 28 j ≤ 1 := fun j => hT.2 28 j
          have A39 : ∀ j, 0 ≤ τ_68.2.1 39 j ∧ τ_68.2.1 39 j ≤ 1499 := fun j => hT.2 39 j
          have v0 : 0 ≤ τ_68.1 0 ∧ τ_68.1 0 ≤ 60000 := hT.1 0
          have v3 : 0 ≤ τ_68.1 3 ∧ τ_68.1 3 ≤ 1000 := hT.1 3
          have v5 : 0 ≤ τ_68.1 5 ∧ τ_68.1 5 ≤ 1500 := hT.1 5
          have v6 : 0 ≤ τ_68.1 6 ∧ τ_68.1 6 ≤ 30000 := hT.1 6
          have v7 : 0 ≤ τ_68.1 7 ∧ τ_68.1 7 ≤ 90000 := hT.1 7
          have v8 : 0 ≤ τ_68.1 8 ∧ τ_68.1 8 ≤ 20000 := hT.1 8
          have v9 : 0 ≤ τ_68.1 9 ∧ τ_68.1 9 ≤ 20000 := hT.1 9
          have v16 : 0 ≤ τ_68.1 16 ∧ τ_68.1 16 ≤ 60000 := hT.1 16
          have v17 : 0 ≤ τ_68.1 17 ∧ τ_68.1 17 ≤ 60000 := hT.1 17
          have v18 : 0 ≤ τ_68.1 18 ∧ τ_68.1 18 ≤ 60000 := hT.1 18
          have v19 : (-1) ≤ τ_68.1 19 ∧ τ_68.1 19 ≤ 125 := hT.1 19
          have v20 : 0 ≤ τ_68.1 20 ∧ τ_68.1 20 ≤ 19 := hT.1 20
          have v22 : 0 ≤ τ_68.1 22 ∧ τ_68.1 22 ≤ 1499 := hT.1 22
          have v25 : 0 ≤ τ_68.1 25 ∧ τ_68.1 25 ≤ 300 := hT.1 25
          have v26 : 0 ≤ τ_68.1 26 ∧ τ_68.1 26 ≤ 5000010 := hT.1 26
          have v27 : 0 ≤ τ_68.1 27 ∧ τ_68.1 27 ≤ 1 := hT.1 27
          have v28 : 0 ≤ τ_68.1 28 ∧ τ_68.1 28 ≤ 1 := hT.1 28
          have v29 : 0 ≤ τ_68.1 29 ∧ τ_68.1 29 ≤ 300 := hT.1 29
          have a18_22 : 0 ≤ τ_68.2.1 18 (τ_68.1 22) ∧ τ_68.2.1 18 (τ_68.1 22) ≤ 90000 := hT.2 18 _
          have a19_22 : 0 ≤ τ_68.2.1 19 (τ_68.1 22) ∧ τ_68.2.1 19 (τ_68.1 22) ≤ 60 := hT.2 19 _
          have a25_22 : 0 ≤ τ_68.2.1 25 (τ_68.1 22) ∧ τ_68.2.1 25 (τ_68.1 22) ≤ 20000 := hT.2 25 _
          have a26_22 : 0 ≤ τ_68.2.1 26 (τ_68.1 22) ∧ τ_68.2.1 26 (τ_68.1 22) ≤ 20000 := hT.2 26 _
          have av9 : σ.1 9 ≤ τ_68.1 9 := ag.1 9 (by decide)
          have y18_22_τ_68 : τ_68.2.1 18 (τ_68.1 22) = σ.2.1 18 (σ.1 22) := by rw [G18, W22]
          have y19_22_τ_68 : τ_68.2.1 19 (τ_68.1 22) = σ.2.1 19 (σ.1 22) := by rw [G19, W22]
          have y25_22_τ_68 : τ_68.2.1 25 (τ_68.1 22) = σ.2.1 25 (σ.1 22) := by rw [G25, W22]
          have o6_τ_68 := congrArg oc G6
          have o7_τ_68 := congrArg oc G7
          have Z4 : τ_68.2.1 25 (τ_68.1 22) + τ_68.2.1 26 (τ_68.1 22) = (τ_68.1 9) := i68_6
          have Y10 : ca (τ_68.2.1 28) ((τ_68.1 9)) ≤ ca (τ_68.2.1 28) (τ_68.2.1 25 (τ_68.1 22)) + (τ_68.1 29) := i68_7
          have Y12 : ¬ (τ_68.1 28) = 0 → τ_68.2.1 25 (τ_68.1 22) < (τ_68.1 9) ∧ τ_68.2.1 28 ((τ_68.1 9) - 1) = 0 := i68_8
          have Y13 : j_eq (σ.2.1 25 (σ.1 22)) (σ.2.1 28) (τ_68.2.1 28) := i68_9
          have NSP : n_sp2 (τ_68.2.1 25 (τ_68.1 22)) (τ_68.1 9) (τ_68.1 22) (τ_68.2.1 27) (τ_68.2.1 28) := i68_15
          have Y12c : ¬ (τ_68.1 28) = 0 → 0 ≤ τ_68.2.1 27 ((τ_68.1 9) - 1) := i68_19
          have PK : ∀ k : Int, 0 ≤ k → k < (τ_68.1 25) → τ_68.2.1 39 k < (τ_68.1 22) := i68_17
          have Y10b : (τ_68.1 29) + ca (τ_68.2.1 28) (τ_68.2.1 25 (τ_68.1 22)) ≤ ca (τ_68.2.1 28) (τ_68.1 9) := i68_16
          have HYN : ∀ k : Int, 0 ≤ k → k < τ_68.2.1 19 (τ_68.1 22) → τ_68.2.1 20 (τ_68.2.1 18 (τ_68.1 22) + k) < (τ_68.1 22) := i68_18
          refine h68 u1_68 τ_68 ?_
          refine ⟨fun c19 => ?_, fun c19 => ?_⟩
          ·
            refine h110 _ ?_
            refine ⟨fun c27 => ?_, fun c27 => ?_⟩
            ·
              exact ih_36 _ (show (3 * ((τ_68.1 0) - (τ_68.1 16)) + z_0 ((τ_68.1 20)) + 1 - z_0 ((τ_68.1 19)) : Int) < ((m_36 : Nat) : Int) from by (have zz0 := z_e ((τ_68.1 20)); have zz1 := z_e ((τ_68.1 19)); (first | omega | (simp only [st_s] <;> omega) | assumption | omega | fail))) hT ag (show τ_68.1 0 = σ.1 0 from by first | exact W0 | omega) (show τ_68.1 3 = σ.1 3 from by first | exact W3 | omega) (show τ_68.1 5 = σ.1 5 from by first | exact W5 | omega) (show τ_68.1 6 = σ.1 6 from by first | exact W6 | omega) (show τ_68.1 7 = σ.1 7 from by first | exact W7 | omega) (show τ_68.1 8 = σ.1 8 from by first | exact W8 | omega) (show τ_68.1 22 = σ.1 22 from by first | exact W22 | omega) G6 G7 G18 G19 G20 G25 (show (τ_68.1 16) ≤ (τ_68.1 0) from by (first | omega | (simp only [st_s] <;> omega) | assumption | omega | fail)) (show (τ_68.1 17) + (τ_68.1 18) ≤ (τ_68.1 0) from by (first | omega | (simp only [st_s] <;> omega) | assumption | omega | fail)) (show oc (τ_68.2.1 6) < 4096 from by (first | omega | (simp only [st_s] <;> omega) | assumption | omega | fail)) (show oc (τ_68.2.1 7) < 4096 from by (first | omega | (simp only [st_s] <;> omega) | assumption | omega | fail)) (show ¬ (σ.1 20) = 0 → (τ_68.1 20) = (σ.1 20) from by (first | omega | (simp only [st_s] <;> omega) | assumption | omega | fail)) (show τ_68.2.1 25 (τ_68.1 22) + τ_68.2.1 26 (τ_68.1 22) = (τ_68.1 9) from Z4) (show ca (τ_68.2.1 28) ((τ_68.1 9)) ≤ ca (τ_68.2.1 28) (τ_68.2.1 25 (τ_68.1 22)) + (τ_68.1 29) from Y10) (show ¬ (τ_68.1 28) = 0 → τ_68.2.1 25 (τ_68.1 22) < (τ_68.1 9) ∧ τ_68.2.1 28 ((τ_68.1 9) - 1) = 0 from Y12) (show j_eq (σ.2.1 25 (σ.1 22)) (σ.2.1 28) (τ_68.2.1 28) from Y13) (show (τ_68.1 20) = 0 → (τ_68.1 26) ≤ 1000000 from by (first | omega | (simp only [st_s] <;> omega) | assumption | omega | fail)) (show (σ.1 16) ≤ (τ_68.1 16) from by (first | omega | (simp only [st_s] <;> omega) | assumption | omega | fail)) (show n_sp2 (τ_68.2.1 25 (τ_68.1 22)) (τ_68.1 9) (τ_68.1 22) (τ_68.2.1 27) (τ_68.2.1 28) from NSP) (show (τ_68.1 29) + ca (τ_68.2.1 28) (τ_68.2.1 25 (τ_68.1 22)) ≤ ca (τ_68.2.1 28) (τ_68.1 9) from Y10b) (show ∀ k : Int, 0 ≤ k → k < (τ_68.1 25) → τ_68.2.1 39 k < (τ_68.1 22) from PK) (show ∀ k : Int, 0 ≤ k → k < τ_68.2.1 19 (τ_68.1 22) → τ_68.2.1 20 (τ_68.2.1 18 (τ_68.1 22) + k) < (τ_68.1 22) from HYN) (show ¬ (τ_68.1 28) = 0 → 0 ≤ τ_68.2.1 27 ((τ_68.1 9) - 1) from Y12c)
            ·
              refine ⟨_, K_X13_next hT (show (τ_68.1 16) ≤ (τ_68.1 0) from by (first | omega | (simp only [st_s] <;> omega) | assumption | omega | fail)), ?_⟩
              intro τ30 hn_τ30 hf_τ30 hq
              obtain ⟨hT, q28_1, q28_2, q28_3, q28_4, q28_5⟩ := hq
              replace q28_1 : (τ30.1 16) ≤ (τ30.1 0) := q28_1
              replace q28_2 : (τ30.1 17) + (τ30.1 18) ≤ (τ30.1 0) := q28_2
              replace q28_3 : (τ_68.1 16) ≤ (τ30.1 16) := q28_3
              replace q28_4 : ¬ (τ_68.1 20) = 0 → (τ30.1 20) = (τ_68.1 20) := q28_4
              replace q28_5 : (τ30.1 20) = 0 → ¬ (τ30.1 19) = 0 → (τ_68.1 16) < (τ30.1 16) ∧ 0 < (τ30.1 18) := q28_5
              replace ag : m_ag σ τ30 := ag_r ag hf_τ30 rfl rfl
              have w0_τ30 : τ30.1 0 = τ_68.1 0 := hf_τ30.1 0 (by decide)
              have w3_τ30 : τ30.1 3 = τ_68.1 3 := hf_τ30.1 3 (by decide)
              have w5_τ30 : τ30.1 5 = τ_68.1 5 := hf_τ30.1 5 (by decide)
              have w6_τ30 : τ30.1 6 = τ_68.1 6 := hf_τ30.1 6 (by decide)
              have w7_τ30 : τ30.1 7 = τ_68.1 7 := hf_τ30.1 7 (by decide)
              have w8_τ30 : τ30.1 8 = τ_68.1 8 := hf_τ30.1 8 (by decide)
              have w9_τ30 : τ30.1 9 = τ_68.1 9 := hf_τ30.1 9 (by decide)
              have w22_τ30 : τ30.1 22 = τ_68.1 22 := hf_τ30.1 22 (by decide)
              have w25_τ30 : τ30.1 25 = τ_68.1 25 := hf_τ30.1 25 (by decide)
              have w26_τ30 : τ30.1 26 = τ_68.1 26 := hf_τ30.1 26 (by decide)
              have w27_τ30 : τ30.1 27 = τ_68.1 27 := hf_τ30.1 27 (by decide)
              have w28_τ30 : τ30.1 28 = τ_68.1 28 := hf_τ30.1 28 (by decide)
              have w29_τ30 : τ30.1 29 = τ_68.1 29 := hf_τ30.1 29 (by decide)
              have g6_τ30 : τ30.2.1 6 = τ_68.2.1 6 := hf_τ30.2.1 6 (by decide)
              have g7_τ30 : τ30.2.1 7 = τ_68.2.1 7 := hf_τ30.2.1 7 (by decide)
              have g18_τ30 : τ30.2.1 18 = τ_68.2.1 18 := hf_τ30.2.1 18 (by decide)
              have g19_τ30 : τ30.2.1 19 = τ_68.2.1 19 := hf_τ30.2.1 19 (by decide)
              have g20_τ30 : τ30.2.1 20 = τ_68.2.1 20 := hf_τ30.2.1 20 (by decide)
              have g25_τ30 : τ30.2.1 25 = τ_68.2.1 25 := hf_τ30.2.1 25 (by decide)
              have g26_τ30 : τ30.2.1 26 = τ_68.2.1 26 := hf_τ30.2.1 26 (by decide)
              have g27_τ30 : τ30.2.1 27 = τ_68.2.1 27 := hf_τ30.2.1 27 (by decide)
              have g28_τ30 : τ30.2.1 28 = τ_68.2.1 28 := hf_τ30.2.1 28 (by decide)
              have g39_τ30 : τ30.2.1 39 = τ_68.2.1 39 := hf_τ30.2.1 39 (by decide)
              first | (have o6_τ30 := congrArg oc g6_τ30) | skip
              first | (have o7_τ30 := congrArg oc g7_τ30) | skip
              have W0 : τ30.1 0 = σ.1 0 := by first | exact w0_τ30.trans W0 | omega
              have W3 : τ30.1 3 = σ.1 3 := by first | exact w3_τ30.trans W3 | omega
              have W5 : τ30.1 5 = σ.1 5 := by first | exact w5_τ30.trans W5 | omega
              have W6 : τ30.1 6 = σ.1 6 := by first | exact w6_τ30.trans W6 | omega
              have W7 : τ30.1 7 = σ.1 7 := by first | exact w7_τ30.trans W7 | omega
              have W8 : τ30.1 8 = σ.1 8 := by first | exact w8_τ30.trans W8 | omega
              have W22 : τ30.1 22 = σ.1 22 := by first | exact w22_τ30.trans W22 | omega
              have G6 : τ30.2.1 6 = σ.2.1 6 := (g6_τ30).trans G6
              have G7 : τ30.2.1 7 = σ.2.1 7 := (g7_τ30).trans G7
              have G18 : τ30.2.1 18 = σ.2.1 18 := (g18_τ30).trans G18
              have G19 : τ30.2.1 19 = σ.2.1 19 := (g19_τ30).trans G19
              have G20 : τ30.2.1 20 = σ.2.1 20 := (g20_τ30).trans G20
              have G25 : τ30.2.1 25 = σ.2.1 25 := (g25_τ30).trans G25
              have y18_22_τ30 : τ30.2.1 18 (τ30.1 22) = (τ_68.2.1 18) (τ_68.1 22) := by rw [g18_τ30, w22_τ30]
              have y19_22_τ30 : τ30.2.1 19 (τ30.1 22) = (τ_68.2.1 19) (τ_68.1 22) := by rw [g19_τ30, w22_τ30]
              have y25_22_τ30 : τ30.2.1 25 (τ30.1 22) = (τ_68.2.1 25) (τ_68.1 22) := by rw [g25_τ30, w22_τ30]
              have y26_22_τ30 : τ30.2.1 26 (τ30.1 22) = (τ_68.2.1 26) (τ_68.1 22) := by rw [g26_τ30, w22_τ30]
              have Z4 : τ30.2.1 25 (τ30.1 22) + τ30.2.1 26 (τ30.1 22) = (τ30.1 9) := by rw [show (τ30.2.1 25 (τ30.1 22) + τ30.2.1 26 (τ30.1 22) = (τ30.1 9)) = (τ_68.2.1 25 (τ_68.1 22) + τ_68.2.1 26 (τ_68.1 22) = (τ_68.1 9)) from by rw [w9_τ30, w22_τ30, g25_τ30, g26_τ30]]; exact Z4
              have Y10 : ca (τ30.2.1 28) ((τ30.1 9)) ≤ ca (τ30.2.1 28) (τ30.2.1 25 (τ30.1 22)) + (τ30.1 29) := by rw [show (ca (τ30.2.1 28) ((τ30.1 9)) ≤ ca (τ30.2.1 28) (τ30.2.1 25 (τ30.1 22)) + (τ30.1 29)) = (ca (τ_68.2.1 28) ((τ_68.1 9)) ≤ ca (τ_68.2.1 28) (τ_68.2.1 25 (τ_68.1 22)) + (τ_68.1 29)) from by rw [w9_τ30, w22_τ30, w29_τ30, g25_τ30, g28_τ30]]; exact Y10
              have Y12 : ¬ (τ30.1 28) = 0 → τ30.2.1 25 (τ30.1 22) < (τ30.1 9) ∧ τ30.2.1 28 ((τ30.1 9) - 1) = 0 := by rw [show (¬ (τ30.1 28) = 0 → τ30.2.1 25 (τ30.1 22) < (τ30.1 9) ∧ τ30.2.1 28 ((τ30.1 9) - 1) = 0) = (¬ (τ_68.1 28) = 0 → τ_68.2.1 25 (τ_68.1 22) < (τ_68.1 9) ∧ τ_68.2.1 28 ((τ_68.1 9) - 1) = 0) from by rw [w9_τ30, w22_τ30, w28_τ30, g25_τ30, g28_τ30]]; exact Y12
              have Y13 : j_eq (σ.2.1 25 (σ.1 22)) (σ.2.1 28) (τ30.2.1 28) := by rw [show (j_eq (σ.2.1 25 (σ.1 22)) (σ.2.1 28) (τ30.2.1 28)) = (j_eq (σ.2.1 25 (σ.1 22)) (σ.2.1 28) (τ_68.2.1 28)) from by rw [g28_τ30]]; exact Y13
              have NSP : n_sp2 (τ30.2.1 25 (τ30.1 22)) (τ30.1 9) (τ30.1 22) (τ30.2.1 27) (τ30.2.1 28) := by rw [show (n_sp2 (τ30.2.1 25 (τ30.1 22)) (τ30.1 9) (τ30.1 22) (τ30.2.1 27) (τ30.2.1 28)) = (n_sp2 (τ_68.2.1 25 (τ_68.1 22)) (τ_68.1 9) (τ_68.1 22) (τ_68.2.1 27) (τ_68.2.1 28)) from by rw [w9_τ30, w22_τ30, g25_τ30, g27_τ30, g28_τ30]]; exact NSP
              have Y12c : ¬ (τ30.1 28) = 0 → 0 ≤ τ30.2.1 27 ((τ30.1 9) - 1) := by rw [show (¬ (τ30.1 28) = 0 → 0 ≤ τ30.2.1 27 ((τ30.1 9) - 1)) = (¬ (τ_68.1 28) = 0 → 0 ≤ τ_68.2.1 27 ((τ_68.1 9) - 1)) from by rw [w9_τ30, w28_τ30, g27_τ30]]; exact Y12c
              have PK : ∀ k : Int, 0 ≤ k → k < (τ30.1 25) → τ30.2.1 39 k < (τ30.1 22) := by rw [show (∀ k : Int, 0 ≤ k → k < (τ30.1 25) → τ30.2.1 39 k < (τ30.1 22)) = (∀ k : Int, 0 ≤ k → k < (τ_68.1 25) → τ_68.2.1 39 k < (τ_68.1 22)) from by rw [w22_τ30, w25_τ30, g39_τ30]]; exact PK
              have Y10b : (τ30.1 29) + ca (τ30.2.1 28) (τ30.2.1 25 (τ30.1 22)) ≤ ca (τ30.2.1 28) (τ30.1 9) := by rw [show ((τ30.1 29) + ca (τ30.2.1 28) (τ30.2.1 25 (τ30.1 22)) ≤ ca (τ30.2.1 28) (τ30.1 9)) = ((τ_68.1 29) + ca (τ_68.2.1 28) (τ_68.2.1 25 (τ_68.1 22)) ≤ ca (τ_68.2.1 28) (τ_68.1 9)) from by rw [w9_τ30, w22_τ30, w29_τ30, g25_τ30, g28_τ30]]; exact Y10b
              have HYN : ∀ k : Int, 0 ≤ k → k < τ30.2.1 19 (τ30.1 22) → τ30.2.1 20 (τ30.2.1 18 (τ30.1 22) + k) < (τ30.1 22) := by rw [show (∀ k : Int, 0 ≤ k → k < τ30.2.1 19 (τ30.1 22) → τ30.2.1 20 (τ30.2.1 18 (τ30.1 22) + k) < (τ30.1 22)) = (∀ k : Int, 0 ≤ k → k < τ_68.2.1 19 (τ_68.1 22) → τ_68.2.1 20 (τ_68.2.1 18 (τ_68.1 22) + k) < (τ_68.1 22)) from by rw [w22_τ30, g18_τ30, g19_τ30, g20_τ30]]; exact HYN
              have A6 : ∀ j, (-1) ≤ τ30.2.1 6 j ∧ τ30.2.1 6 j ≤ 999 := fun j => hT.2 6 j
              have A7 : ∀ j, (-1) ≤ τ30.2.1 7 j ∧ τ30.2.1 7 j ≤ 1499 := fun j => hT.2 7 j
              have A18 : ∀ j, 0 ≤ τ30.2.1 18 j ∧ τ30.2.1 18 j ≤ 90000 := fun j => hT.2 18 j
              have A19 : ∀ j, 0 ≤ τ30.2.1 19 j ∧ τ30.2.1 19 j ≤ 60 := fun j => hT.2 19 j
              have A20 : ∀ j, 0 ≤ τ30.2.1 20 j ∧ τ30.2.1 20 j ≤ 1499 := fun j => hT.2 20 j
              have A25 : ∀ j, 0 ≤ τ30.2.1 25 j ∧ τ30.2.1 25 j ≤ 20000 := fun j => hT.2 25 j
              have A26 : ∀ j, 0 ≤ τ30.2.1 26 j ∧ τ30.2.1 26 j ≤ 20000 := fun j => hT.2 26 j
              have A27 : ∀ j, (-300) ≤ τ30.2.1 27 j ∧ τ30.2.1 27 j ≤ 1499 := fun j => hT.2 27 j
              have A28 : ∀ j, 0 ≤ τ30.2.1 28 j ∧ τ30.2.1 28 j ≤ 1 := fun j => hT.2 28 j
              have A39 : ∀ j, 0 ≤ τ30.2.1 39 j ∧ τ30.2.1 39 j ≤ 1499 := fun j => hT.2 39 j
              have v0 : 0 ≤ τ30.1 0 ∧ τ30.1 0 ≤ 60000 := hT.1 0
              have v3 : 0 ≤ τ30.1 3 ∧ τ30.1 3 ≤ 1000 := hT.1 3
              have v5 : 0 ≤ τ30.1 5 ∧ τ30.1 5 ≤ 1500 := hT.1 5
              have v6 : 0 ≤ τ30.1 6 ∧ τ30.1 6 ≤ 30000 := hT.1 6
              have v7 : 0 ≤ τ30.1 7 ∧ τ30.1 7 ≤ 90000 := hT.1 7
              have v8 : 0 ≤ τ30.1 8 ∧ τ30.1 8 ≤ 20000 := hT.1 8
              have v9 : 0 ≤ τ30.1 9 ∧ τ30.1 9 ≤ 20000 := hT.1 9
              have v16 : 0 ≤ τ30.1 16 ∧ τ30.1 16 ≤ 60000 := hT.1 16
              have v17 : 0 ≤ τ30.1 17 ∧ τ30.1 17 ≤ 60000 := hT.1 17
              have v18 : 0 ≤ τ30.1 18 ∧ τ30.1 18 ≤ 60000 := hT.1 18
              have v19 : (-1) ≤ τ30.1 19 ∧ τ30.1 19 ≤ 125 := hT.1 19
              have v20 : 0 ≤ τ30.1 20 ∧ τ30.1 20 ≤ 19 := hT.1 20
              have v22 : 0 ≤ τ30.1 22 ∧ τ30.1 22 ≤ 1499 := hT.1 22
              have v25 : 0 ≤ τ30.1 25 ∧ τ30.1 25 ≤ 300 := hT.1 25
              have v26 : 0 ≤ τ30.1 26 ∧ τ30.1 26 ≤ 5000010 := hT.1 26
              have v27 : 0 ≤ τ30.1 27 ∧ τ30.1 27 ≤ 1 := hT.1 27
              have v28 : 0 ≤ τ30.1 28 ∧ τ30.1 28 ≤ 1 := hT.1 28
              have v29 : 0 ≤ τ30.1 29 ∧ τ30.1 29 ≤ 300 := hT.1 29
              have a18_22 : 0 ≤ τ30.2.1 18 (τ30.1 22) ∧ τ30.2.1 18 (τ30.1 22) ≤ 90000 := hT.2 18 _
              have a19_22 : 0 ≤ τ30.2.1 19 (τ30.1 22) ∧ τ30.2.1 19 (τ30.1 22) ≤ 60 := hT.2 19 _
              have a25_22 : 0 ≤ τ30.2.1 25 (τ30.1 22) ∧ τ30.2.1 25 (τ30.1 22) ≤ 20000 := hT.2 25 _
              have a26_22 : 0 ≤ τ30.2.1 26 (τ30.1 22) ∧ τ30.2.1 26 (τ30.1 22) ≤ 20000 := hT.2 26 _
              have av9 : σ.1 9 ≤ τ30.1 9 := ag.1 9 (by decide)
              exact ih_36 _ (show (3 * ((τ30.1 0) - (τ30.1 16)) + z_0 ((τ30.1 20)) + 1 - z_0 ((τ30.1 19)) : Int) < ((m_36 : Nat) : Int) from by (have zz0 := z_e ((τ30.1 20)); have zz1 := z_e ((τ30.1 19)); (first | omega | (simp only [st_s] <;> omega) | assumption | omega | fail))) hT ag (show τ30.1 0 = σ.1 0 from by first | exact W0 | omega) (show τ30.1 3 = σ.1 3 from by first | exact W3 | omega) (show τ30.1 5 = σ.1 5 from by first | exact W5 | omega) (show τ30.1 6 = σ.1 6 from by first | exact W6 | omega) (show τ30.1 7 = σ.1 7 from by first | exact W7 | omega) (show τ30.1 8 = σ.1 8 from by first | exact W8 | omega) (show τ30.1 22 = σ.1 22 from by first | exact W22 | omega) G6 G7 G18 G19 G20 G25 (show (τ30.1 16) ≤ (τ30.1 0) from by (first | omega | (simp only [st_s] <;> omega) | assumption | omega | fail)) (show (τ30.1 17) + (τ30.1 18) ≤ (τ30.1 0) from by (first | omega | (simp only [st_s] <;> omega) | assumption | omega | fail)) (show oc (τ30.2.1 6) < 4096 from by (first | omega | (simp only [st_s] <;> omega) | assumption | omega | fail)) (show oc (τ30.2.1 7) < 4096 from by (first | omega | (simp only [st_s] <;> omega) | assumption | omega | fail)) (show ¬ (σ.1 20) = 0 → (τ30.1 20) = (σ.1 20) from by (first | omega | (simp only [st_s] <;> omega) | assumption | omega | fail)) (show τ30.2.1 25 (τ30.1 22) + τ30.2.1 26 (τ30.1 22) = (τ30.1 9) from Z4) (show ca (τ30.2.1 28) ((τ30.1 9)) ≤ ca (τ30.2.1 28) (τ30.2.1 25 (τ30.1 22)) + (τ30.1 29) from Y10) (show ¬ (τ30.1 28) = 0 → τ30.2.1 25 (τ30.1 22) < (τ30.1 9) ∧ τ30.2.1 28 ((τ30.1 9) - 1) = 0 from Y12) (show j_eq (σ.2.1 25 (σ.1 22)) (σ.2.1 28) (τ30.2.1 28) from Y13) (show (τ30.1 20) = 0 → (τ30.1 26) ≤ 1000000 from by (first | omega | (simp only [st_s] <;> omega) | assumption | omega | fail)) (show (σ.1 16) ≤ (τ30.1 16) from by (first | omega | (simp only [st_s] <;> omega) | assumption | omega | fail)) (show n_sp2 (τ30.2.1 25 (τ30.1 22)) (τ30.1 9) (τ30.1 22) (τ30.2.1 27) (τ30.2.1 28) from NSP) (show (τ30.1 29) + ca (τ30.2.1 28) (τ30.2.1 25 (τ30.1 22)) ≤ ca (τ30.2.1 28) (τ30.1 9) from Y10b) (show ∀ k : Int, 0 ≤ k → k < (τ30.1 25) → τ30.2.1 39 k < (τ30.1 22) from PK) (show ∀ k : Int, 0 ≤ k → k < τ30.2.1 19 (τ30.1 22) → τ30.2.1 20 (τ30.2.1 18 (τ30.1 22) + k) < (τ30.1 22) from HYN) (show ¬ (τ30.1 28) = 0 → 0 ≤ τ30.2.1 27 ((τ30.1 9) - 1) from Y12c)
          ·
            refine ⟨fun c20 => ?_, fun c20 => ?_⟩
            ·
              refine h110 _ ?_
              refine ⟨fun c27 => ?_, fun c27 => ?_⟩
              ·
                exact ih_36 _ (show (3 * ((τ_68.1 0) - (τ_68.1 16)) + z_0 ((τ_68.1 20)) + 1 - z_0 ((τ_68.1 19)) : Int) < ((m_36 : Nat) : Int) from by (have zz0 := z_e ((τ_68.1 20)); have zz1 := z_e ((τ_68.1 19)); (first | omega | (simp only [st_s] <;> omega) | assumption | omega | fail))) hT ag (show τ_68.1 0 = σ.1 0 from by first | exact W0 | omega) (show τ_68.1 3 = σ.1 3 from by first | exact W3 | omega) (show τ_68.1 5 = σ.1 5 from by first | exact W5 | omega) (show τ_68.1 6 = σ.1 6 from by first | exact W6 | omega) (show τ_68.1 7 = σ.1 7 from by first | exact W7 | omega) (show τ_68.1 8 = σ.1 8 from by first | exact W8 | omega) (show τ_68.1 22 = σ.1 22 from by first | exact W22 | omega) G6 G7 G18 G19 G20 G25 (show (τ_68.1 16) ≤ (τ_68.1 0) from by (first | omega | (simp only [st_s] <;> omega) | assumption | omega | fail)) (show (τ_68.1 17) + (τ_68.1 18) ≤ (τ_68.1 0) from by (first | omega | (simp only [st_s] <;> omega) | assumption | omega | fail)) (show oc (τ_68.2.1 6) < 4096 from by (first | omega | (simp only [st_s] <;> omega) | assumption | omega | fail)) (show oc (τ_68.2.1 7) < 4096 from by (first | omega | (simp only [st_s] <;> omega) | assumption | omega | fail)) (show ¬ (σ.1 20) = 0 → (τ_68.1 20) = (σ.1 20) from by (first | omega | (simp only [st_s] <;> omega) | assumption | omega | fail)) (show τ_68.2.1 25 (τ_68.1 22) + τ_68.2.1 26 (τ_68.1 22) = (τ_68.1 9) from Z4) (show ca (τ_68.2.1 28) ((τ_68.1 9)) ≤ ca (τ_68.2.1 28) (τ_68.2.1 25 (τ_68.1 22)) + (τ_68.1 29) from Y10) (show ¬ (τ_68.1 28) = 0 → τ_68.2.1 25 (τ_68.1 22) < (τ_68.1 9) ∧ τ_68.2.1 28 ((τ_68.1 9) - 1) = 0 from Y12) (show j_eq (σ.2.1 25 (σ.1 22)) (σ.2.1 28) (τ_68.2.1 28) from Y13) (show (τ_68.1 20) = 0 → (τ_68.1 26) ≤ 1000000 from by (first | omega | (simp only [st_s] <;> omega) | assumption | omega | fail)) (show (σ.1 16) ≤ (τ_68.1 16) from by (first | omega | (simp only [st_s] <;> omega) | assumption | omega | fail)) (show n_sp2 (τ_68.2.1 25 (τ_68.1 22)) (τ_68.1 9) (τ_68.1 22) (τ_68.2.1 27) (τ_68.2.1 28) from NSP) (show (τ_68.1 29) + ca (τ_68.2.1 28) (τ_68.2.1 25 (τ_68.1 22)) ≤ ca (τ_68.2.1 28) (τ_68.1 9) from Y10b) (show ∀ k : Int, 0 ≤ k → k < (τ_68.1 25) → τ_68.2.1 39 k < (τ_68.1 22) from PK) (show ∀ k : Int, 0 ≤ k → k < τ_68.2.1 19 (τ_68.1 22) → τ_68.2.1 20 (τ_68.2.1 18 (τ_68.1 22) + k) < (τ_68.1 22) from HYN) (show ¬ (τ_68.1 28) = 0 → 0 ≤ τ_68.2.1 27 ((τ_68.1 9) - 1) from Y12c)
              ·
                refine ⟨_, K_X13_next hT (show (τ_68.1 16) ≤ (τ_68.1 0) from by (first | omega | (simp only [st_s] <;> omega) | assumption | omega | fail)), ?_⟩
                intro τ30 hn_τ30 hf_τ30 hq
                obtain ⟨hT, q28_1, q28_2, q28_3, q28_4, q28_5⟩ := hq
                replace q28_1 : (τ30.1 16) ≤ (τ30.1 0) := q28_1
                replace q28_2 : (τ30.1 17) + (τ30.1 18) ≤ (τ30.1 0) := q28_2
                replace q28_3 : (τ_68.1 16) ≤ (τ30.1 16) := q28_3
                replace q28_4 : ¬ (τ_68.1 20) = 0 → (τ30.1 20) = (τ_68.1 20) := q28_4
                replace q28_5 : (τ30.1 20) = 0 → ¬ (τ30.1 19) = 0 → (τ_68.1 16) < (τ30.1 16) ∧ 0 < (τ30.1 18) := q28_5
                replace ag : m_ag σ τ30 := ag_r ag hf_τ30 rfl rfl
                have w0_τ30 : τ30.1 0 = τ_68.1 0 := hf_τ30.1 0 (by decide)
                have w3_τ30 : τ30.1 3 = τ_68.1 3 := hf_τ30.1 3 (by decide)
                have w5_τ30 : τ30.1 5 = τ_68.1 5 := hf_τ30.1 5 (by decide)
                have w6_τ30 : τ30.1 6 = τ_68.1 6 := hf_τ30.1 6 (by decide)
                have w7_τ30 : τ30.1 7 = τ_68.1 7 := hf_τ30.1 7 (by decide)
                have w8_τ30 : τ30.1 8 = τ_68.1 8 := hf_τ30.1 8 (by decide)
                have w9_τ30 : τ30.1 9 = τ_68.1 9 := hf_τ30.1 9 (by decide)
                have w22_τ30 : τ30.1 22 = τ_68.1 22 := hf_τ30.1 22 (by decide)
                have w25_τ30 : τ30.1 25 = τ_68.1 25 := hf_τ30.1 25 (by decide)
                have w26_τ30 : τ30.1 26 = τ_68.1 26 := hf_τ30.1 26 (by decide)
                have w27_τ30 : τ30.1 27 = τ_68.1 27 := hf_τ30.1 27 (by decide)
                have w28_τ30 : τ30.1 28 = τ_68.1 28 := hf_τ30.1 28 (by decide)
                have w29_τ30 : τ30.1 29 = τ_68.1 29 := hf_τ30.1 29 (by decide)
                have g6_τ30 : τ30.2.1 6 = τ_68.2.1 6 := hf_τ30.2.1 6 (by decide)
                have g7_τ30 : τ30.2.1 7 = τ_68.2.1 7 := hf_τ30.2.1 7 (by decide)
                have g18_τ30 : τ30.2.1 18 = τ_68.2.1 18 := hf_τ30.2.1 18 (by decide)
                have g19_τ30 : τ30.2.1 19 = τ_68.2.1 19 := hf_τ30.2.1 19 (by decide)
                have g20_τ30 : τ30.2.1 20 = τ_68.2.1 20 := hf_τ30.2.1 20 (by decide)
                have g25_τ30 : τ30.2.1 25 = τ_68.2.1 25 := hf_τ30.2.1 25 (by decide)
                have g26_τ30 : τ30.2.1 26 = τ_68.2.1 26 := hf_τ30.2.1 26 (by decide)
                have g27_τ30 : τ30.2.1 27 = τ_68.2.1 27 := hf_τ30.2.1 27 (by decide)
                have g28_τ30 : τ30.2.1 28 = τ_68.2.1 28 := hf_τ30.2.1 28 (by decide)
                have g39_τ30 : τ30.2.1 39 = τ_68.2.1 39 := hf_τ30.2.1 39 (by decide)
                first | (have o6_τ30 := congrArg oc g6_τ30) | skip
                first | (have o7_τ30 := congrArg oc g7_τ30) | skip
                have W0 : τ30.1 0 = σ.1 0 := by first | exact w0_τ30.trans W0 | omega
                have W3 : τ30.1 3 = σ.1 3 := by first | exact w3_τ30.trans W3 | omega
                have W5 : τ30.1 5 = σ.1 5 := by first | exact w5_τ30.trans W5 | omega
                have W6 : τ30.1 6 = σ.1 6 := by first | exact w6_τ30.trans W6 | omega
                have W7 : τ30.1 7 = σ.1 7 := by first | exact w7_τ30.trans W7 | omega
                have W8 : τ30.1 8 = σ.1 8 := by first | exact w8_τ30.trans W8 | omega
                have W22 : τ30.1 22 = σ.1 22 := by first | exact w22_τ30.trans W22 | omega
                have G6 : τ30.2.1 6 = σ.2.1 6 := (g6_τ30).trans G6
                have G7 : τ30.2.1 7 = σ.2.1 7 := (g7_τ30).trans G7
                have G18 : τ30.2.1 18 = σ.2.1 18 := (g18_τ30).trans G18
                have G19 : τ30.2.1 19 = σ.2.1 19 := (g19_τ30).trans G19
                have G20 : τ30.2.1 20 = σ.2.1 20 := (g20_τ30).trans G20
                have G25 : τ30.2.1 25 = σ.2.1 25 := (g25_τ30).trans G25
                have y18_22_τ30 : τ30.2.1 18 (τ30.1 22) = (τ_68.2.1 18) (τ_68.1 22) := by rw [g18_τ30, w22_τ30]
                have y19_22_τ30 : τ30.2.1 19 (τ30.1 22) = (τ_68.2.1 19) (τ_68.1 22) := by rw [g19_τ30, w22_τ30]
                have y25_22_τ30 : τ30.2.1 25 (τ30.1 22) = (τ_68.2.1 25) (τ_68.1 22) := by rw [g25_τ30, w22_τ30]
                have y26_22_τ30 : τ30.2.1 26 (τ30.1 22) = (τ_68.2.1 26) (τ_68.1 22) := by rw [g26_τ30, w22_τ30]
                have Z4 : τ30.2.1 25 (τ30.1 22) + τ30.2.1 26 (τ30.1 22) = (τ30.1 9) := by rw [show (τ30.2.1 25 (τ30.1 22) + τ30.2.1 26 (τ30.1 22) = (τ30.1 9)) = (τ_68.2.1 25 (τ_68.1 22) + τ_68.2.1 26 (τ_68.1 22) = (τ_68.1 9)) from by rw [w9_τ30, w22_τ30, g25_τ30, g26_τ30]]; exact Z4
                have Y10 : ca (τ30.2.1 28) ((τ30.1 9)) ≤ ca (τ30.2.1 28) (τ30.2.1 25 (τ30.1 22)) + (τ30.1 29) := by rw [show (ca (τ30.2.1 28) ((τ30.1 9)) ≤ ca (τ30.2.1 28) (τ30.2.1 25 (τ30.1 22)) + (τ30.1 29)) = (ca (τ_68.2.1 28) ((τ_68.1 9)) ≤ ca (τ_68.2.1 28) (τ_68.2.1 25 (τ_68.1 22)) + (τ_68.1 29)) from by rw [w9_τ30, w22_τ30, w29_τ30, g25_τ30, g28_τ30]]; exact Y10
                have Y12 : ¬ (τ30.1 28) = 0 → τ30.2.1 25 (τ30.1 22) < (τ30.1 9) ∧ τ30.2.1 28 ((τ30.1 9) - 1) = 0 := by rw [show (¬ (τ30.1 28) = 0 → τ30.2.1 25 (τ30.1 22) < (τ30.1 9) ∧ τ30.2.1 28 ((τ30.1 9) - 1) = 0) = (¬ (τ_68.1 28) = 0 → τ_68.2.1 25 (τ_68.1 22) < (τ_68.1 9) ∧ τ_68.2.1 28 ((τ_68.1 9) - 1) = 0) from by rw [w9_τ30, w22_τ30, w28_τ30, g25_τ30, g28_τ30]]; exact Y12
                have Y13 : j_eq (σ.2.1 25 (σ.1 22)) (σ.2.1 28) (τ30.2.1 28) := by rw [show (j_eq (σ.2.1 25 (σ.1 22)) (σ.2.1 28) (τ30.2.1 28)) = (j_eq (σ.2.1 25 (σ.1 22)) (σ.2.1 28) (τ_68.2.1 28)) from by rw [g28_τ30]]; exact Y13
                have NSP : n_sp2 (τ30.2.1 25 (τ30.1 22)) (τ30.1 9) (τ30.1 22) (τ30.2.1 27) (τ30.2.1 28) := by rw [show (n_sp2 (τ30.2.1 25 (τ30.1 22)) (τ30.1 9) (τ30.1 22) (τ30.2.1 27) (τ30.2.1 28)) = (n_sp2 (τ_68.2.1 25 (τ_68.1 22)) (τ_68.1 9) (τ_68.1 22) (τ_68.2.1 27) (τ_68.2.1 28)) from by rw [w9_τ30, w22_τ30, g25_τ30, g27_τ30, g28_τ30]]; exact NSP
                have Y12c : ¬ (τ30.1 28) = 0 → 0 ≤ τ30.2.1 27 ((τ30.1 9) - 1) := by rw [show (¬ (τ30.1 28) = 0 → 0 ≤ τ30.2.1 27 ((τ30.1 9) - 1)) = (¬ (τ_68.1 28) = 0 → 0 ≤ τ_68.2.1 27 ((τ_68.1 9) - 1)) from by rw [w9_τ30, w28_τ30, g27_τ30]]; exact Y12c
                have PK : ∀ k : Int, 0 ≤ k → k < (τ30.1 25) → τ30.2.1 39 k < (τ30.1 22) := by rw [show (∀ k : Int, 0 ≤ k → k < (τ30.1 25) → τ30.2.1 39 k < (τ30.1 22)) = (∀ k : Int, 0 ≤ k → k < (τ_68.1 25) → τ_68.2.1 39 k < (τ_68.1 22)) from by rw [w22_τ30, w25_τ30, g39_τ30]]; exact PK
                have Y10b : (τ30.1 29) + ca (τ30.2.1 28) (τ30.2.1 25 (τ30.1 22)) ≤ ca (τ30.2.1 28) (τ30.1 9) := by rw [show ((τ30.1 29) + ca (τ30.2.1 28) (τ30.2.1 25 (τ30.1 22)) ≤ ca (τ30.2.1 28) (τ30.1 9)) = ((τ_68.1 29) + ca (τ_68.2.1 28) (τ_68.2.1 25 (τ_68.1 22)) ≤ ca (τ_68.2.1 28) (τ_68.1 9)) from by rw [w9_τ30, w22_τ30, w29_τ30, g25_τ30, g28_τ30]]; exact Y10b
                have HYN : ∀ k : Int, 0 ≤ k → k < τ30.2.1 19 (τ30.1 22) → τ30.2.1 20 (τ30.2.1 18 (τ30.1 22) + k) < (τ30.1 22) := by rw [show (∀ k : Int, 0 ≤ k → k < τ30.2.1 19 (τ30.1 22) → τ30.2.1 20 (τ30.2.1 18 (τ30.1 22) + k) < (τ30.1 22)) = (∀ k : Int, 0 ≤ k → k < τ_68.2.1 19 (τ_68.1 22) → τ_68.2.1 20 (τ_68.2.1 18 (τ_68.1 22) + k) < (τ_68.1 22)) from by rw [w22_τ30, g18_τ30, g19_τ30, g20_τ30]]; exact HYN
                have A6 : ∀ j, (-1) ≤ τ30.2.1 6 j ∧ τ30.2.1 6 j ≤ 999 := fun j => hT.2 6 j
                have A7 : ∀ j, (-1) ≤ τ30.2.1 7 j ∧ τ30.2.1 7 j ≤ 1499 := fun j => hT.2 7 j
                have A18 : ∀ j, 0 ≤ τ30.2.1 18 j ∧ τ30.2.1 18 j ≤ 90000 := fun j => hT.2 18 j
                have A19 : ∀ j, 0 ≤ τ30.2.1 19 j ∧ τ30.2.1 19 j ≤ 60 := fun j => hT.2 19 j
                have A20 : ∀ j, 0 ≤ τ30.2.1 20 j ∧ τ30.2.1 20 j ≤ 1499 := fun j => hT.2 20 j
                have A25 : ∀ j, 0 ≤ τ30.2.1 25 j ∧ τ30.2.1 25 j ≤ 20000 := fun j => hT.2 25 j
                have A26 : ∀ j, 0 ≤ τ30.2.1 26 j ∧ τ30.2.1 26 j ≤ 20000 := fun j => hT.2 26 j
                have A27 : ∀ j, (-300) ≤ τ30.2.1 27 j ∧ τ30.2.1 27 j ≤ 1499 := fun j => hT.2 27 j
                have A28 : ∀ j, 0 ≤ τ30.2.1 28 j ∧ τ30.2.1 28 j ≤ 1 := fun j => hT.2 28 j
                have A39 : ∀ j, 0 ≤ τ30.2.1 39 j ∧ τ30.2.1 39 j ≤ 1499 := fun j => hT.2 39 j
                have v0 : 0 ≤ τ30.1 0 ∧ τ30.1 0 ≤ 60000 := hT.1 0
                have v3 : 0 ≤ τ30.1 3 ∧ τ30.1 3 ≤ 1000 := hT.1 3
                have v5 : 0 ≤ τ30.1 5 ∧ τ30.1 5 ≤ 1500 := hT.1 5
                have v6 : 0 ≤ τ30.1 6 ∧ τ30.1 6 ≤ 30000 := hT.1 6
                have v7 : 0 ≤ τ30.1 7 ∧ τ30.1 7 ≤ 90000 := hT.1 7
                have v8 : 0 ≤ τ30.1 8 ∧ τ30.1 8 ≤ 20000 := hT.1 8
                have v9 : 0 ≤ τ30.1 9 ∧ τ30.1 9 ≤ 20000 := hT.1 9
                have v16 : 0 ≤ τ30.1 16 ∧ τ30.1 16 ≤ 60000 := hT.1 16
                have v17 : 0 ≤ τ30.1 17 ∧ τ30.1 17 ≤ 60000 := hT.1 17
                have v18 : 0 ≤ τ30.1 18 ∧ τ30.1 18 ≤ 60000 := hT.1 18
                have v19 : (-1) ≤ τ30.1 19 ∧ τ30.1 19 ≤ 125 := hT.1 19
                have v20 : 0 ≤ τ30.1 20 ∧ τ30.1 20 ≤ 19 := hT.1 20
                have v22 : 0 ≤ τ30.1 22 ∧ τ30.1 22 ≤ 1499 := hT.1 22
                have v25 : 0 ≤ τ30.1 25 ∧ τ30.1 25 ≤ 300 := hT.1 25
                have v26 : 0 ≤ τ30.1 26 ∧ τ30.1 26 ≤ 5000010 := hT.1 26
                have v27 : 0 ≤ τ30.1 27 ∧ τ30.1 27 ≤ 1 := hT.1 27
                have v28 : 0 ≤ τ30.1 28 ∧ τ30.1 28 ≤ 1 := hT.1 28
                have v29 : 0 ≤ τ30.1 29 ∧ τ30.1 29 ≤ 300 := hT.1 29
                have a18_22 : 0 ≤ τ30.2.1 18 (τ30.1 22) ∧ τ30.2.1 18 (τ30.1 22) ≤ 90000 := hT.2 18 _
                have a19_22 : 0 ≤ τ30.2.1 19 (τ30.1 22) ∧ τ30.2.1 19 (τ30.1 22) ≤ 60 := hT.2 19 _
                have a25_22 : 0 ≤ τ30.2.1 25 (τ30.1 22) ∧ τ30.2.1 25 (τ30.1 22) ≤ 20000 := hT.2 25 _
                have a26_22 : 0 ≤ τ30.2.1 26 (τ30.1 22) ∧ τ30.2.1 26 (τ30.1 22) ≤ 20000 := hT.2 26 _
                have av9 : σ.1 9 ≤ τ30.1 9 := ag.1 9 (by decide)
                exact ih_36 _ (show (3 * ((τ30.1 0) - (τ30.1 16)) + z_0 ((τ30.1 20)) + 1 - z_0 ((τ30.1 19)) : Int) < ((m_36 : Nat) : Int) from by (have zz0 := z_e ((τ30.1 20)); have zz1 := z_e ((τ30.1 19)); (first | omega | (simp only [st_s] <;> omega) | assumption | omega | fail))) hT ag (show τ30.1 0 = σ.1 0 from by first | exact W0 | omega) (show τ30.1 3 = σ.1 3 from by first | exact W3 | omega) (show τ30.1 5 = σ.1 5 from by first | exact W5 | omega) (show τ30.1 6 = σ.1 6 from by first | exact W6 | omega) (show τ30.1 7 = σ.1 7 from by first | exact W7 | omega) (show τ30.1 8 = σ.1 8 from by first | exact W8 | omega) (show τ30.1 22 = σ.1 22 from by first | exact W22 | omega) G6 G7 G18 G19 G20 G25 (show (τ30.1 16) ≤ (τ30.1 0) from by (first | omega | (simp only [st_s] <;> omega) | assumption | omega | fail)) (show (τ30.1 17) + (τ30.1 18) ≤ (τ30.1 0) from by (first | omega | (simp only [st_s] <;> omega) | assumption | omega | fail)) (show oc (τ30.2.1 6) < 4096 from by (first | omega | (simp only [st_s] <;> omega) | assumption | omega | fail)) (show oc (τ30.2.1 7) < 4096 from by (first | omega | (simp only [st_s] <;> omega) | assumption | omega | fail)) (show ¬ (σ.1 20) = 0 → (τ30.1 20) = (σ.1 20) from by (first | omega | (simp only [st_s] <;> omega) | assumption | omega | fail)) (show τ30.2.1 25 (τ30.1 22) + τ30.2.1 26 (τ30.1 22) = (τ30.1 9) from Z4) (show ca (τ30.2.1 28) ((τ30.1 9)) ≤ ca (τ30.2.1 28) (τ30.2.1 25 (τ30.1 22)) + (τ30.1 29) from Y10) (show ¬ (τ30.1 28) = 0 → τ30.2.1 25 (τ30.1 22) < (τ30.1 9) ∧ τ30.2.1 28 ((τ30.1 9) - 1) = 0 from Y12) (show j_eq (σ.2.1 25 (σ.1 22)) (σ.2.1 28) (τ30.2.1 28) from Y13) (show (τ30.1 20) = 0 → (τ30.1 26) ≤ 1000000 from by (first | omega | (simp only [st_s] <;> omega) | assumption | omega | fail)) (show (σ.1 16) ≤ (τ30.1 16) from by (first | omega | (simp only [st_s] <;> omega) | assumption | omega | fail)) (show n_sp2 (τ30.2.1 25 (τ30.1 22)) (τ30.1 9) (τ30.1 22) (τ30.2.1 27) (τ30.2.1 28) from NSP) (show (τ30.1 29) + ca (τ30.2.1 28) (τ30.2.1 25 (τ30.1 22)) ≤ ca (τ30.2.1 28) (τ30.1 9) from Y10b) (show ∀ k : Int, 0 ≤ k → k < (τ30.1 25) → τ30.2.1 39 k < (τ30.1 22) from PK) (show ∀ k : Int, 0 ≤ k → k < τ30.2.1 19 (τ30.1 22) → τ30.2.1 20 (τ30.2.1 18 (τ30.1 22) + k) < (τ30.1 22) from HYN) (show ¬ (τ30.1 28) = 0 → 0 ≤ τ30.2.1 27 ((τ30.1 9) - 1) from Y12c)
            ·
              refine ⟨(show 0 ≤ (τ_68.1 17 + u1_68) ∧ (τ_68.1 17 + u1_68) < 60000 from by (first | omega | (simp only [st_s] <;> omega) | assumption | omega | fail)), ?_⟩
              intro x22 r_x22 e_x22
              have b_x22 : 0 ≤ x22 ∧ x22 ≤ 255 := by rw [e_x22]; exact hT.2 0 _
              refine ⟨_, K3_X13_readLetter hT (show -1000 ≤ x22 from by (first | omega | (simp only [st_s] <;> omega) | assumption | omega | fail)) (show x22 ≤ 1000 from by (first | omega | (simp only [st_s] <;> omega) | assumption | omega | fail)) (show 0 ≤ (τ_68.1 17 + u1_68) from by (first | omega | (simp only [st_s] <;> omega) | assumption | omega | fail)) (show (τ_68.1 17 + u1_68) ≤ 60000 from by (first | omega | (simp only [st_s] <;> omega) | assumption | omega | fail)) (show (τ_68.1 26) ≤ 1000000 from by (first | omega | (simp only [st_s] <;> omega) | assumption | omega | fail)) (show (τ_68.1 22) = (τ_68.1 5) from by (first | omega | (simp only [st_s] <;> omega) | assumption | omega | fail)) (show τ_68.2.1 25 (τ_68.1 22) + τ_68.2.1 26 (τ_68.1 22) = (τ_68.1 9) from Z4) (show ca (τ_68.2.1 28) ((τ_68.1 9)) ≤ ca (τ_68.2.1 28) (τ_68.2.1 25 (τ_68.1 22)) + (τ_68.1 29) from Y10) (show ¬ (τ_68.1 28) = 0 → τ_68.2.1 25 (τ_68.1 22) < (τ_68.1 9) ∧ τ_68.2.1 28 ((τ_68.1 9) - 1) = 0 from Y12) (show n_sp2 (τ_68.2.1 25 (τ_68.1 22)) (τ_68.1 9) (τ_68.1 22) (τ_68.2.1 27) (τ_68.2.1 28) from NSP) (show (τ_68.1 29) + ca (τ_68.2.1 28) (τ_68.2.1 25 (τ_68.1 22)) ≤ ca (τ_68.2.1 28) (τ_68.1 9) from Y10b) (show ∀ k : Int, 0 ≤ k → k < (τ_68.1 25) → τ_68.2.1 39 k < (τ_68.1 22) from PK) (show ∀ k : Int, 0 ≤ k → k < τ_68.2.1 19 (τ_68.1 22) → τ_68.2.1 20 (τ_68.2.1 18 (τ_68.1 22) + k) < (τ_68.1 22) from HYN) (show ¬ (τ_68.1 28) = 0 → 0 ≤ τ_68.2.1 27 ((τ_68.1 9) - 1) from Y12c), ?_⟩
              intro τ25 hn_τ25 hf_τ25 hq
              obtain ⟨hT, q23_1, q23_2, q23_3, q23_4, q23_5, q23_6, q23_7, q23_8, q23_9, q23_10⟩ := hq
              replace q23_1 : ¬ (τ_68.1 20) = 0 → (τ25.1 20) = (τ_68.1 20) := q23_1
              replace q23_2 : τ25.2.1 25 (τ25.1 22) + τ25.2.1 26 (τ25.1 22) = (τ25.1 9) := q23_2
              replace q23_3 : ca (τ25.2.1 28) ((τ25.1 9)) ≤ ca (τ25.2.1 28) (τ25.2.1 25 (τ25.1 22)) + (τ25.1 29) := q23_3
              replace q23_4 : ¬ (τ25.1 28) = 0 → τ25.2.1 25 (τ25.1 22) < (τ25.1 9) ∧ τ25.2.1 28 ((τ25.1 9) - 1) = 0 := q23_4
              replace q23_5 : j_eq (τ_68.2.1 25 (τ_68.1 22)) (τ_68.2.1 28) (τ25.2.1 28) := q23_5
              replace q23_6 : (τ25.1 20) = 0 → (τ25.1 26) ≤ 1000000 := q23_6
              replace q23_7 : m_ag τ_68 τ25 := q23_7
              replace q23_8 : n_sp2 (τ25.2.1 25 (τ25.1 22)) (τ25.1 9) (τ25.1 22) (τ25.2.1 27) (τ25.2.1 28) := q23_8
              replace q23_9 : (τ25.1 29) + ca (τ25.2.1 28) (τ25.2.1 25 (τ25.1 22)) ≤ ca (τ25.2.1 28) (τ25.1 9) := q23_9
              replace q23_10 : ¬ (τ25.1 28) = 0 → 0 ≤ τ25.2.1 27 ((τ25.1 9) - 1) := q23_10
              replace ag : m_ag σ τ25 := ag_t ag q23_7 rfl
              have w0_τ25 : τ25.1 0 = τ_68.1 0 := hf_τ25.1 0 (by decide)
              have w3_τ25 : τ25.1 3 = τ_68.1 3 := hf_τ25.1 3 (by decide)
              have w5_τ25 : τ25.1 5 = τ_68.1 5 := hf_τ25.1 5 (by decide)
              have w6_τ25 : τ25.1 6 = τ_68.1 6 := hf_τ25.1 6 (by decide)
              have w7_τ25 : τ25.1 7 = τ_68.1 7 := hf_τ25.1 7 (by decide)
              have w8_τ25 : τ25.1 8 = τ_68.1 8 := hf_τ25.1 8 (by decide)
              have w16_τ25 : τ25.1 16 = τ_68.1 16 := hf_τ25.1 16 (by decide)
              have w17_τ25 : τ25.1 17 = τ_68.1 17 := hf_τ25.1 17 (by decide)
              have w18_τ25 : τ25.1 18 = τ_68.1 18 := hf_τ25.1 18 (by decide)
              have w19_τ25 : τ25.1 19 = τ_68.1 19 := hf_τ25.1 19 (by decide)
              have w22_τ25 : τ25.1 22 = τ_68.1 22 := hf_τ25.1 22 (by decide)
              have w25_τ25 : τ25.1 25 = τ_68.1 25 := hf_τ25.1 25 (by decide)
              have g6_τ25 : τ25.2.1 6 = τ_68.2.1 6 := hf_τ25.2.1 6 (by decide)
              have g7_τ25 : τ25.2.1 7 = τ_68.2.1 7 := hf_τ25.2.1 7 (by decide)
              have g18_τ25 : τ25.2.1 18 = τ_68.2.1 18 := hf_τ25.2.1 18 (by decide)
              have g19_τ25 : τ25.2.1 19 = τ_68.2.1 19 := hf_τ25.2.1 19 (by decide)
              have g20_τ25 : τ25.2.1 20 = τ_68.2.1 20 := hf_τ25.2.1 20 (by decide)
              have g25_τ25 : τ25.2.1 25 = τ_68.2.1 25 := hf_τ25.2.1 25 (by decide)
              have g39_τ25 : τ25.2.1 39 = τ_68.2.1 39 := hf_τ25.2.1 39 (by decide)
              first | (have o6_τ25 := congrArg oc g6_τ25) | skip
              first | (have o7_τ25 := congrArg oc g7_τ25) | skip
              have W0 : τ25.1 0 = σ.1 0 := by first | exact w0_τ25.trans W0 | omega
              have W3 : τ25.1 3 = σ.1 3 := by first | exact w3_τ25.trans W3 | omega
              have W5 : τ25.1 5 = σ.1 5 := by first | exact w5_τ25.trans W5 | omega
              have W6 : τ25.1 6 = σ.1 6 := by first | exact w6_τ25.trans W6 | omega
              have W7 : τ25.1 7 = σ.1 7 := by first | exact w7_τ25.trans W7 | omega
              have W8 : τ25.1 8 = σ.1 8 := by first | exact w8_τ25.trans W8 | omega
              have W22 : τ25.1 22 = σ.1 22 := by first | exact w22_τ25.trans W22 | omega
              have G6 : τ25.2.1 6 = σ.2.1 6 := (g6_τ25).trans G6
              have G7 : τ25.2.1 7 = σ.2.1 7 := (g7_τ25).trans G7
              have G18 : τ25.2.1 18 = σ.2.1 18 := (g18_τ25).trans G18
              have G19 : τ25.2.1 19 = σ.2.1 19 := (g19_τ25).trans G19
              have G20 : τ25.2.1 20 = σ.2.1 20 := (g20_τ25).trans G20
              have G25 : τ25.2.1 25 = σ.2.1 25 := (g25_τ25).trans G25
              have y18_22_τ25 : τ25.2.1 18 (τ25.1 22) = (τ_68.2.1 18) (τ_68.1 22) := by rw [g18_τ25, w22_τ25]
              have y19_22_τ25 : τ25.2.1 19 (τ25.1 22) = (τ_68.2.1 19) (τ_68.1 22) := by rw [g19_τ25, w22_τ25]
              have y25_22_τ25 : τ25.2.1 25 (τ25.1 22) = (τ_68.2.1 25) (τ_68.1 22) := by rw [g25_τ25, w22_τ25]
              have Z4 : τ25.2.1 25 (τ25.1 22) + τ25.2.1 26 (τ25.1 22) = (τ25.1 9) := q23_2
              have Y10 : ca (τ25.2.1 28) ((τ25.1 9)) ≤ ca (τ25.2.1 28) (τ25.2.1 25 (τ25.1 22)) + (τ25.1 29) := q23_3
              have Y12 : ¬ (τ25.1 28) = 0 → τ25.2.1 25 (τ25.1 22) < (τ25.1 9) ∧ τ25.2.1 28 ((τ25.1 9) - 1) = 0 := q23_4
              have NSP : n_sp2 (τ25.2.1 25 (τ25.1 22)) (τ25.1 9) (τ25.1 22) (τ25.2.1 27) (τ25.2.1 28) := q23_8
              have Y12c : ¬ (τ25.1 28) = 0 → 0 ≤ τ25.2.1 27 ((τ25.1 9) - 1) := q23_10
              have PK : ∀ k : Int, 0 ≤ k → k < (τ25.1 25) → τ25.2.1 39 k < (τ25.1 22) := by rw [show (∀ k : Int, 0 ≤ k → k < (τ25.1 25) → τ25.2.1 39 k < (τ25.1 22)) = (∀ k : Int, 0 ≤ k → k < (τ_68.1 25) → τ_68.2.1 39 k < (τ_68.1 22)) from by rw [w22_τ25, w25_τ25, g39_τ25]]; exact PK
              have Y10b : (τ25.1 29) + ca (τ25.2.1 28) (τ25.2.1 25 (τ25.1 22)) ≤ ca (τ25.2.1 28) (τ25.1 9) := q23_9
              have HYN : ∀ k : Int, 0 ≤ k → k < τ25.2.1 19 (τ25.1 22) → τ25.2.1 20 (τ25.2.1 18 (τ25.1 22) + k) < (τ25.1 22) := by rw [show (∀ k : Int, 0 ≤ k → k < τ25.2.1 19 (τ25.1 22) → τ25.2.1 20 (τ25.2.1 18 (τ25.1 22) + k) < (τ25.1 22)) = (∀ k : Int, 0 ≤ k → k < τ_68.2.1 19 (τ_68.1 22) → τ_68.2.1 20 (τ_68.2.1 18 (τ_68.1 22) + k) < (τ_68.1 22)) from by rw [w22_τ25, g18_τ25, g19_τ25, g20_τ25]]; exact HYN
              have A6 : ∀ j, (-1) ≤ τ25.2.1 6 j ∧ τ25.2.1 6 j ≤ 999 := fun j => hT.2 6 j
              have A7 : ∀ j, (-1) ≤ τ25.2.1 7 j ∧ τ25.2.1 7 j ≤ 1499 := fun j => hT.2 7 j
              have A18 : ∀ j, 0 ≤ τ25.2.1 18 j ∧ τ25.2.1 18 j ≤ 90000 := fun j => hT.2 18 j
              have A19 : ∀ j, 0 ≤ τ25.2.1 19 j ∧ τ25.2.1 19 j ≤ 60 := fun j => hT.2 19 j
              have A20 : ∀ j, 0 ≤ τ25.2.1 20 j ∧ τ25.2.1 20 j ≤ 1499 := fun j => hT.2 20 j
              have A25 : ∀ j, 0 ≤ τ25.2.1 25 j ∧ τ25.2.1 25 j ≤ 20000 := fun j => hT.2 25 j
              have A26 : ∀ j, 0 ≤ τ25.2.1 26 j ∧ τ25.2.1 26 j ≤ 20000 := fun j => hT.2 26 j
              have A27 : ∀ j, (-300) ≤ τ25.2.1 27 j ∧ τ25.2.1 27 j ≤ 1499 := fun j => hT.2 27 j
              have A28 : ∀ j, 0 ≤ τ25.2.1 28 j ∧ τ25.2.1 28 j ≤ 1 := fun j => hT.2 28 j
              have A39 : ∀ j, 0 ≤ τ25.2.1 39 j ∧ τ25.2.1 39 j ≤ 1499 := fun j => hT.2 39 j
              have v0 : 0 ≤ τ25.1 0 ∧ τ25.1 0 ≤ 60000 := hT.1 0
              have v3 : 0 ≤ τ25.1 3 ∧ τ25.1 3 ≤ 1000 := hT.1 3
              have v5 : 0 ≤ τ25.1 5 ∧ τ25.1 5 ≤ 1500 := hT.1 5
              have v6 : 0 ≤ τ25.1 6 ∧ τ25.1 6 ≤ 30000 := hT.1 6
              have v7 : 0 ≤ τ25.1 7 ∧ τ25.1 7 ≤ 90000 := hT.1 7
              have v8 : 0 ≤ τ25.1 8 ∧ τ25.1 8 ≤ 20000 := hT.1 8
              have v9 : 0 ≤ τ25.1 9 ∧ τ25.1 9 ≤ 20000 := hT.1 9
              have v16 : 0 ≤ τ25.1 16 ∧ τ25.1 16 ≤ 60000 := hT.1 16
              have v17 : 0 ≤ τ25.1 17 ∧ τ25.1 17 ≤ 60000 := hT.1 17
              have v18 : 0 ≤ τ25.1 18 ∧ τ25.1 18 ≤ 60000 := hT.1 18
              have v19 : (-1) ≤ τ25.1 19 ∧ τ25.1 19 ≤ 125 := hT.1 19
              have v20 : 0 ≤ τ25.1 20 ∧ τ25.1 20 ≤ 19 := hT.1 20
              have v22 : 0 ≤ τ25.1 22 ∧ τ25.1 22 ≤ 1499 := hT.1 22
              have v25 : 0 ≤ τ25.1 25 ∧ τ25.1 25 ≤ 300 := hT.1 25
              have v26 : 0 ≤ τ25.1 26 ∧ τ25.1 26 ≤ 5000010 := hT.1 26
              have v27 : 0 ≤ τ25.1 27 ∧ τ25.1 27 ≤ 1 := hT.1 27
              have v28 : 0 ≤ τ25.1 28 ∧ τ25.1 28 ≤ 1 := hT.1 28
              have v29 : 0 ≤ τ25.1 29 ∧ τ25.1 29 ≤ 300 := hT.1 29
              have a18_22 : 0 ≤ τ25.2.1 18 (τ25.1 22) ∧ τ25.2.1 18 (τ25.1 22) ≤ 90000 := hT.2 18 _
              have a19_22 : 0 ≤ τ25.2.1 19 (τ25.1 22) ∧ τ25.2.1 19 (τ25.1 22) ≤ 60 := hT.2 19 _
              have a25_22 : 0 ≤ τ25.2.1 25 (τ25.1 22) ∧ τ25.2.1 25 (τ25.1 22) ≤ 20000 := hT.2 25 _
              have a26_22 : 0 ≤ τ25.2.1 26 (τ25.1 22) ∧ τ25.2.1 26 (τ25.1 22) ≤ 20000 := hT.2 26 _
              have av9 : σ.1 9 ≤ τ25.1 9 := ag.1 9 (by decide)
              have Y13 := j_eqt Y13 (by have := q23_5; rw [y25_22_τ_68] at this; exact this)
              refine ⟨(⟨by (first | omega | (simp only [st_s] <;> omega) | assumption | omega | fail), by (first | omega | (simp only [st_s] <;> omega) | assumption | omega | fail)⟩ : rg (u1_68 + 1)), ?_⟩
              exact ih_68 _ _ (show ((τ25.1 18) - (u1_68 + 1) + 1 : Int) < ((m_68 : Nat) : Int) from by ((first | omega | (simp only [st_s] <;> omega) | assumption | omega | fail))) hT ag (show τ25.1 0 = σ.1 0 from by first | exact W0 | omega) (show τ25.1 3 = σ.1 3 from by first | exact W3 | omega) (show τ25.1 5 = σ.1 5 from by first | exact W5 | omega) (show τ25.1 6 = σ.1 6 from by first | exact W6 | omega) (show τ25.1 7 = σ.1 7 from by first | exact W7 | omega) (show τ25.1 8 = σ.1 8 from by first | exact W8 | omega) (show τ25.1 22 = σ.1 22 from by first | exact W22 | omega) G6 G7 G18 G19 G20 G25 (show (τ25.1 16) ≤ (τ25.1 0) from by (first | omega | (simp only [st_s] <;> omega) | assumption | omega | fail)) (show (τ25.1 17) + (τ25.1 18) ≤ (τ25.1 0) from by (first | omega | (simp only [st_s] <;> omega) | assumption | omega | fail)) (show oc (τ25.2.1 6) < 4096 from by (first | omega | (simp only [st_s] <;> omega) | assumption | omega | fail)) (show oc (τ25.2.1 7) < 4096 from by (first | omega | (simp only [st_s] <;> omega) | assumption | omega | fail)) (show ¬ (σ.1 20) = 0 → (τ25.1 20) = (σ.1 20) from by (first | omega | (simp only [st_s] <;> omega) | assumption | omega | fail)) (show τ25.2.1 25 (τ25.1 22) + τ25.2.1 26 (τ25.1 22) = (τ25.1 9) from Z4) (show ca (τ25.2.1 28) ((τ25.1 9)) ≤ ca (τ25.2.1 28) (τ25.2.1 25 (τ25.1 22)) + (τ25.1 29) from Y10) (show ¬ (τ25.1 28) = 0 → τ25.2.1 25 (τ25.1 22) < (τ25.1 9) ∧ τ25.2.1 28 ((τ25.1 9) - 1) = 0 from Y12) (show j_eq (σ.2.1 25 (σ.1 22)) (σ.2.1 28) (τ25.2.1 28) from Y13) (show (τ25.1 20) = 0 → (τ25.1 26) ≤ 1000000 from by (first | omega | (simp only [st_s] <;> omega) | assumption | omega | fail)) (show 0 ≤ (u1_68 + 1) from by (first | omega | (simp only [st_s] <;> omega) | assumption | omega | fail)) (show (u1_68 + 1) ≤ (τ25.1 18) from by (first | omega | (simp only [st_s] <;> omega) | assumption | omega | fail)) (show 3 * ((τ25.1 0) - (τ25.1 16)) + 2 ≤ (m_36 : Int) from by (first | omega | (simp only [st_s] <;> omega) | assumption | omega | fail)) (show (σ.1 16) ≤ (τ25.1 16) from by (first | omega | (simp only [st_s] <;> omega) | assumption | omega | fail)) (show n_sp2 (τ25.2.1 25 (τ25.1 22)) (τ25.1 9) (τ25.1 22) (τ25.2.1 27) (τ25.2.1 28) from NSP) (show (τ25.1 29) + ca (τ25.2.1 28) (τ25.2.1 25 (τ25.1 22)) ≤ ca (τ25.2.1 28) (τ25.1 9) from Y10b) (show ∀ k : Int, 0 ≤ k → k < (τ25.1 25) → τ25.2.1 39 k < (τ25.1 22) from PK) (show ∀ k : Int, 0 ≤ k → k < τ25.2.1 19 (τ25.1 22) → τ25.2.1 20 (τ25.2.1 18 (τ25.1 22) + k) < (τ25.1 22) from HYN) (show ¬ (τ25.1 28) = 0 → 0 ≤ τ25.2.1 27 ((τ25.1 9) - 1) from Y12c)
      refine h36 τ_36 ?_
      refine ⟨fun c8 => ?_, fun c8 => ?_⟩
      ·
        refine h124 _ ?_
        refine ⟨fun c14 => ?_, fun c14 => ?_⟩
        ·
          exact ⟨hT, (show (τ_36.1 16) ≤ (τ_36.1 0) from by (first | omega | (simp only [st_s] <;> omega) | assumption | omega | fail)), (show (τ_36.1 17) + (τ_36.1 18) ≤ (τ_36.1 0) from by (first | omega | (simp only [st_s] <;> omega) | assumption | omega | fail)), (show ¬ (σ.1 20) = 0 → (τ_36.1 20) = (σ.1 20) from by (first | omega | (simp only [st_s] <;> omega) | assumption | omega | fail)), (show τ_36.2.1 25 (τ_36.1 22) + τ_36.2.1 26 (τ_36.1 22) = (τ_36.1 9) from Z4), (show ca (τ_36.2.1 28) ((τ_36.1 9)) ≤ ca (τ_36.2.1 28) (τ_36.2.1 25 (τ_36.1 22)) + 300 from by omega), (show j_eq (σ.2.1 25 (σ.1 22)) (σ.2.1 28) (τ_36.2.1 28) from Y13), (show oc (τ_36.2.1 6) < 4096 from by (first | omega | (simp only [st_s] <;> omega) | assumption | omega | fail)), (show oc (τ_36.2.1 7) < 4096 from by (first | omega | (simp only [st_s] <;> omega) | assumption | omega | fail)), (show (σ.1 16) ≤ (τ_36.1 16) from by (first | omega | (simp only [st_s] <;> omega) | assumption | omega | fail)), ag, (show n_sp2 (τ_36.2.1 25 (τ_36.1 22)) (τ_36.1 9) (τ_36.1 22) (τ_36.2.1 27) (τ_36.2.1 28) from NSP)⟩
        ·
          refine ⟨fun c15 => ?_, fun c15 => ?_⟩
          ·
            exact ⟨hT, (show (τ_36.1 16) ≤ (τ_36.1 0) from by (first | omega | (simp only [st_s] <;> omega) | assumption | omega | fail)), (show (τ_36.1 17) + (τ_36.1 18) ≤ (τ_36.1 0) from by (first | omega | (simp only [st_s] <;> omega) | assumption | omega | fail)), (show ¬ (σ.1 20) = 0 → (τ_36.1 20) = (σ.1 20) from by (first | omega | (simp only [st_s] <;> omega) | assumption | omega | fail)), (show τ_36.2.1 25 (τ_36.1 22) + τ_36.2.1 26 (τ_36.1 22) = (τ_36.1 9) from Z4), (show ca (τ_36.2.1 28) ((τ_36.1 9)) ≤ ca (τ_36.2.1 28) (τ_36.2.1 25 (τ_36.1 22)) + 300 from by omega), (show j_eq (σ.2.1 25 (σ.1 22)) (σ.2.1 28) (τ_36.2.1 28) from Y13), (show oc (τ_36.2.1 6) < 4096 from by (first | omega | (simp only [st_s] <;> omega) | assumption | omega | fail)), (show oc (τ_36.2.1 7) < 4096 from by (first | omega | (simp only [st_s] <;> omega) | assumption | omega | fail)), (show (σ.1 16) ≤ (τ_36.1 16) from by (first | omega | (simp only [st_s] <;> omega) | assumption | omega | fail)), ag, (show n_sp2 (τ_36.2.1 25 (τ_36.1 22)) (τ_36.1 9) (τ_36.1 22) (τ_36.2.1 27) (τ_36.2.1 28) from NSP)⟩
          ·
            refine ⟨_, K_X13_failHere hT (show 0 ≤ (14 : Int) from by (first | omega | (simp only [st_s] <;> omega) | assumption | omega | fail)) (show (14 : Int) ≤ 19 from by (first | omega | (simp only [st_s] <;> omega) | assumption | omega | fail)), ?_⟩
            intro τ18 hn_τ18 hf_τ18 hq
            obtain ⟨hT, q16_1, q16_2⟩ := hq
            replace q16_1 : ¬ (τ_36.1 20) = 0 → (τ18.1 20) = (τ_36.1 20) := q16_1
            replace q16_2 : (τ_36.1 20) = 0 → (τ18.1 20) = (14 : Int) := q16_2
            replace ag : m_ag σ τ18 := ag_r ag hf_τ18 rfl rfl
            have w0_τ18 : τ18.1 0 = τ_36.1 0 := hf_τ18.1 0 (by decide)
            have w3_τ18 : τ18.1 3 = τ_36.1 3 := hf_τ18.1 3 (by decide)
            have w5_τ18 : τ18.1 5 = τ_36.1 5 := hf_τ18.1 5 (by decide)
            have w6_τ18 : τ18.1 6 = τ_36.1 6 := hf_τ18.1 6 (by decide)
            have w7_τ18 : τ18.1 7 = τ_36.1 7 := hf_τ18.1 7 (by decide)
            have w8_τ18 : τ18.1 8 = τ_36.1 8 := hf_τ18.1 8 (by decide)
            have w9_τ18 : τ18.1 9 = τ_36.1 9 := hf_τ18.1 9 (by decide)
            have w16_τ18 : τ18.1 16 = τ_36.1 16 := hf_τ18.1 16 (by decide)
            have w17_τ18 : τ18.1 17 = τ_36.1 17 := hf_τ18.1 17 (by decide)
            have w18_τ18 : τ18.1 18 = τ_36.1 18 := hf_τ18.1 18 (by decide)
            have w19_τ18 : τ18.1 19 = τ_36.1 19 := hf_τ18.1 19 (by decide)
            have w22_τ18 : τ18.1 22 = τ_36.1 22 := hf_τ18.1 22 (by decide)
            have w25_τ18 : τ18.1 25 = τ_36.1 25 := hf_τ18.1 25 (by decide)
            have w26_τ18 : τ18.1 26 = τ_36.1 26 := hf_τ18.1 26 (by decide)
            have w27_τ18 : τ18.1 27 = τ_36.1 27 := hf_τ18.1 27 (by decide)
            have w28_τ18 : τ18.1 28 = τ_36.1 28 := hf_τ18.1 28 (by decide)
            have w29_τ18 : τ18.1 29 = τ_36.1 29 := hf_τ18.1 29 (by decide)
            have g6_τ18 : τ18.2.1 6 = τ_36.2.1 6 := hf_τ18.2.1 6 (by decide)
            have g7_τ18 : τ18.2.1 7 = τ_36.2.1 7 := hf_τ18.2.1 7 (by decide)
            have g18_τ18 : τ18.2.1 18 = τ_36.2.1 18 := hf_τ18.2.1 18 (by decide)
            have g19_τ18 : τ18.2.1 19 = τ_36.2.1 19 := hf_τ18.2.1 19 (by decide)
            have g20_τ18 : τ18.2.1 20 = τ_36.2.1 20 := hf_τ18.2.1 20 (by decide)
            have g25_τ18 : τ18.2.1 25 = τ_36.2.1 25 := hf_τ18.2.1 25 (by decide)
            have g26_τ18 : τ18.2.1 26 = τ_36.2.1 26 := hf_τ18.2.1 26 (by decide)
            have g27_τ18 : τ18.2.1 27 = τ_36.2.1 27 := hf_τ18.2.1 27 (by decide)
            have g28_τ18 : τ18.2.1 28 = τ_36.2.1 28 := hf_τ18.2.1 28 (by decide)
            have g39_τ18 : τ18.2.1 39 = τ_36.2.1 39 := hf_τ18.2.1 39 (by decide)
            first | (have o6_τ18 := congrArg oc g6_τ18) | skip
            first | (have o7_τ18 := congrArg oc g7_τ18) | skip
            have W0 : τ18.1 0 = σ.1 0 := by first | exact w0_τ18.trans W0 | omega
            have W3 : τ18.1 3 = σ.1 3 := by first | exact w3_τ18.trans W3 | omega
            have W5 : τ18.1 5 = σ.1 5 := by first | exact w5_τ18.trans W5 | omega
            have W6 : τ18.1 6 = σ.1 6 := by first | exact w6_τ18.trans W6 | omega
            have W7 : τ18.1 7 = σ.1 7 := by first | exact w7_τ18.trans W7 | omega
            have W8 : τ18.1 8 = σ.1 8 := by first | exact w8_τ18.trans W8 | omega
            have W22 : τ18.1 22 = σ.1 22 := by first | exact w22_τ18.trans W22 | omega
            have G6 : τ18.2.1 6 = σ.2.1 6 := (g6_τ18).trans G6
            have G7 : τ18.2.1 7 = σ.2.1 7 := (g7_τ18).trans G7
            have G18 : τ18.2.1 18 = σ.2.1 18 := (g18_τ18).trans G18
            have G19 : τ18.2.1 19 = σ.2.1 19 := (g19_τ18).trans G19
            have G20 : τ18.2.1 20 = σ.2.1 20 := (g20_τ18).trans G20
            have G25 : τ18.2.1 25 = σ.2.1 25 := (g25_τ18).trans G25
            have y18_22_τ18 : τ18.2.1 18 (τ18.1 22) = (τ_36.2.1 18) (τ_36.1 22) := by rw [g18_τ18, w22_τ18]
            have y19_22_τ18 : τ18.2.1 19 (τ18.1 22) = (τ_36.2.1 19) (τ_36.1 22) := by rw [g19_τ18, w22_τ18]
            have y25_22_τ18 : τ18.2.1 25 (τ18.1 22) = (τ_36.2.1 25) (τ_36.1 22) := by rw [g25_τ18, w22_τ18]
            have y26_22_τ18 : τ18.2.1 26 (τ18.1 22) = (τ_36.2.1 26) (τ_36.1 22) := by rw [g26_τ18, w22_τ18]
            have Z4 : τ18.2.1 25 (τ18.1 22) + τ18.2.1 26 (τ18.1 22) = (τ18.1 9) := by rw [show (τ18.2.1 25 (τ18.1 22) + τ18.2.1 26 (τ18.1 22) = (τ18.1 9)) = (τ_36.2.1 25 (τ_36.1 22) + τ_36.2.1 26 (τ_36.1 22) = (τ_36.1 9)) from by rw [w9_τ18, w22_τ18, g25_τ18, g26_τ18]]; exact Z4
            have Y10 : ca (τ18.2.1 28) ((τ18.1 9)) ≤ ca (τ18.2.1 28) (τ18.2.1 25 (τ18.1 22)) + (τ18.1 29) := by rw [show (ca (τ18.2.1 28) ((τ18.1 9)) ≤ ca (τ18.2.1 28) (τ18.2.1 25 (τ18.1 22)) + (τ18.1 29)) = (ca (τ_36.2.1 28) ((τ_36.1 9)) ≤ ca (τ_36.2.1 28) (τ_36.2.1 25 (τ_36.1 22)) + (τ_36.1 29)) from by rw [w9_τ18, w22_τ18, w29_τ18, g25_τ18, g28_τ18]]; exact Y10
            have Y12 : ¬ (τ18.1 28) = 0 → τ18.2.1 25 (τ18.1 22) < (τ18.1 9) ∧ τ18.2.1 28 ((τ18.1 9) - 1) = 0 := by rw [show (¬ (τ18.1 28) = 0 → τ18.2.1 25 (τ18.1 22) < (τ18.1 9) ∧ τ18.2.1 28 ((τ18.1 9) - 1) = 0) = (¬ (τ_36.1 28) = 0 → τ_36.2.1 25 (τ_36.1 22) < (τ_36.1 9) ∧ τ_36.2.1 28 ((τ_36.1 9) - 1) = 0) from by rw [w9_τ18, w22_τ18, w28_τ18, g25_τ18, g28_τ18]]; exact Y12
            have Y13 : j_eq (σ.2.1 25 (σ.1 22)) (σ.2.1 28) (τ18.2.1 28) := by rw [show (j_eq (σ.2.1 25 (σ.1 22)) (σ.2.1 28) (τ18.2.1 28)) = (j_eq (σ.2.1 25 (σ.1 22)) (σ.2.1 28) (τ_36.2.1 28)) from by rw [g28_τ18]]; exact Y13
            have NSP : n_sp2 (τ18.2.1 25 (τ18.1 22)) (τ18.1 9) (τ18.1 22) (τ18.2.1 27) (τ18.2.1 28) := by rw [show (n_sp2 (τ18.2.1 25 (τ18.1 22)) (τ18.1 9) (τ18.1 22) (τ18.2.1 27) (τ18.2.1 28)) = (n_sp2 (τ_36.2.1 25 (τ_36.1 22)) (τ_36.1 9) (τ_36.1 22) (τ_36.2.1 27) (τ_36.2.1 28)) from by rw [w9_τ18, w22_τ18, g25_τ18, g27_τ18, g28_τ18]]; exact NSP
            have Y12c : ¬ (τ18.1 28) = 0 → 0 ≤ τ18.2.1 27 ((τ18.1 9) - 1) := by rw [show (¬ (τ18.1 28) = 0 → 0 ≤ τ18.2.1 27 ((τ18.1 9) - 1)) = (¬ (τ_36.1 28) = 0 → 0 ≤ τ_36.2.1 27 ((τ_36.1 9) - 1)) from by rw [w9_τ18, w28_τ18, g27_τ18]]; exact Y12c
            have PK : ∀ k : Int, 0 ≤ k → k < (τ18.1 25) → τ18.2.1 39 k < (τ18.1 22) := by rw [show (∀ k : Int, 0 ≤ k → k < (τ18.1 25) → τ18.2.1 39 k < (τ18.1 22)) = (∀ k : Int, 0 ≤ k → k < (τ_36.1 25) → τ_36.2.1 39 k < (τ_36.1 22)) from by rw [w22_τ18, w25_τ18, g39_τ18]]; exact PK
            have Y10b : (τ18.1 29) + ca (τ18.2.1 28) (τ18.2.1 25 (τ18.1 22)) ≤ ca (τ18.2.1 28) (τ18.1 9) := by rw [show ((τ18.1 29) + ca (τ18.2.1 28) (τ18.2.1 25 (τ18.1 22)) ≤ ca (τ18.2.1 28) (τ18.1 9)) = ((τ_36.1 29) + ca (τ_36.2.1 28) (τ_36.2.1 25 (τ_36.1 22)) ≤ ca (τ_36.2.1 28) (τ_36.1 9)) from by rw [w9_τ18, w22_τ18, w29_τ18, g25_τ18, g28_τ18]]; exact Y10b
            have HYN : ∀ k : Int, 0 ≤ k → k < τ18.2.1 19 (τ18.1 22) → τ18.2.1 20 (τ18.2.1 18 (τ18.1 22) + k) < (τ18.1 22) := by rw [show (∀ k : Int, 0 ≤ k → k < τ18.2.1 19 (τ18.1 22) → τ18.2.1 20 (τ18.2.1 18 (τ18.1 22) + k) < (τ18.1 22)) = (∀ k : Int, 0 ≤ k → k < τ_36.2.1 19 (τ_36.1 22) → τ_36.2.1 20 (τ_36.2.1 18 (τ_36.1 22) + k) < (τ_36.1 22)) from by rw [w22_τ18, g18_τ18, g19_τ18, g20_τ18]]; exact HYN
            have A6 : ∀ j, (-1) ≤ τ18.2.1 6 j ∧ τ18.2.1 6 j ≤ 999 := fun j => hT.2 6 j
            have A7 : ∀ j, (-1) ≤ τ18.2.1 7 j ∧ τ18.2.1 7 j ≤ 1499 := fun j => hT.2 7 j
            have A18 : ∀ j, 0 ≤ τ18.2.1 18 j ∧ τ18.2.1 18 j ≤ 90000 := fun j => hT.2 18 j
            have A19 : ∀ j, 0 ≤ τ18.2.1 19 j ∧ τ18.2.1 19 j ≤ 60 := fun j => hT.2 19 j
            have A20 : ∀ j, 0 ≤ τ18.2.1 20 j ∧ τ18.2.1 20 j ≤ 1499 := fun j => hT.2 20 j
            have A25 : ∀ j, 0 ≤ τ18.2.1 25 j ∧ τ18.2.1 25 j ≤ 20000 := fun j => hT.2 25 j
            have A26 : ∀ j, 0 ≤ τ18.2.1 26 j ∧ τ18.2.1 26 j ≤ 20000 := fun j => hT.2 26 j
            have A27 : ∀ j, (-300) ≤ τ18.2.1 27 j ∧ τ18.2.1 27 j ≤ 1499 := fun j => hT.2 27 j
            have A28 : ∀ j, 0 ≤ τ18.2.1 28 j ∧ τ18.2.1 28 j ≤ 1 := fun j => hT.2 28 j
            have A39 : ∀ j, 0 ≤ τ18.2.1 39 j ∧ τ18.2.1 39 j ≤ 1499 := fun j => hT.2 39 j
            have v0 : 0 ≤ τ18.1 0 ∧ τ18.1 0 ≤ 60000 := hT.1 0
            have v3 : 0 ≤ τ18.1 3 ∧ τ18.1 3 ≤ 1000 := hT.1 3
            have v5 : 0 ≤ τ18.1 5 ∧ τ18.1 5 ≤ 1500 := hT.1 5
            have v6 : 0 ≤ τ18.1 6 ∧ τ18.1 6 ≤ 30000 := hT.1 6
            have v7 : 0 ≤ τ18.1 7 ∧ τ18.1 7 ≤ 90000 := hT.1 7
            have v8 : 0 ≤ τ18.1 8 ∧ τ18.1 8 ≤ 20000 := hT.1 8
            have v9 : 0 ≤ τ18.1 9 ∧ τ18.1 9 ≤ 20000 := hT.1 9
            have v16 : 0 ≤ τ18.1 16 ∧ τ18.1 16 ≤ 60000 := hT.1 16
            have v17 : 0 ≤ τ18.1 17 ∧ τ18.1 17 ≤ 60000 := hT.1 17
            have v18 : 0 ≤ τ18.1 18 ∧ τ18.1 18 ≤ 60000 := hT.1 18
            have v19 : (-1) ≤ τ18.1 19 ∧ τ18.1 19 ≤ 125 := hT.1 19
            have v20 : 0 ≤ τ18.1 20 ∧ τ18.1 20 ≤ 19 := hT.1 20
            have v22 : 0 ≤ τ18.1 22 ∧ τ18.1 22 ≤ 1499 := hT.1 22
            have v25 : 0 ≤ τ18.1 25 ∧ τ18.1 25 ≤ 300 := hT.1 25
            have v26 : 0 ≤ τ18.1 26 ∧ τ18.1 26 ≤ 5000010 := hT.1 26
            have v27 : 0 ≤ τ18.1 27 ∧ τ18.1 27 ≤ 1 := hT.1 27
            have v28 : 0 ≤ τ18.1 28 ∧ τ18.1 28 ≤ 1 := hT.1 28
            have v29 : 0 ≤ τ18.1 29 ∧ τ18.1 29 ≤ 300 := hT.1 29
            have a18_22 : 0 ≤ τ18.2.1 18 (τ18.1 22) ∧ τ18.2.1 18 (τ18.1 22) ≤ 90000 := hT.2 18 _
            have a19_22 : 0 ≤ τ18.2.1 19 (τ18.1 22) ∧ τ18.2.1 19 (τ18.1 22) ≤ 60 := hT.2 19 _
            have a25_22 : 0 ≤ τ18.2.1 25 (τ18.1 22) ∧ τ18.2.1 25 (τ18.1 22) ≤ 20000 := hT.2 25 _
            have a26_22 : 0 ≤ τ18.2.1 26 (τ18.1 22) ∧ τ18.2.1 26 (τ18.1 22) ≤ 20000 := hT.2 26 _
            have av9 : σ.1 9 ≤ τ18.1 9 := ag.1 9 (by decide)
            exact ⟨hT, (show (τ18.1 16) ≤ (τ18.1 0) from by (first | omega | (simp only [st_s] <;> omega) | assumption | omega | fail)), (show (τ18.1 17) + (τ18.1 18) ≤ (τ18.1 0) from by (first | omega | (simp only [st_s] <;> omega) | assumption | omega | fail)), (show ¬ (σ.1 20) = 0 → (τ18.1 20) = (σ.1 20) from by (first | omega | (simp only [st_s] <;> omega) | assumption | omega | fail)), (show τ18.2.1 25 (τ18.1 22) + τ18.2.1 26 (τ18.1 22) = (τ18.1 9) from Z4), (show ca (τ18.2.1 28) ((τ18.1 9)) ≤ ca (τ18.2.1 28) (τ18.2.1 25 (τ18.1 22)) + 300 from by omega), (show j_eq (σ.2.1 25 (σ.1 22)) (σ.2.1 28) (τ18.2.1 28) from Y13), (show oc (τ18.2.1 6) < 4096 from by (first | omega | (simp only [st_s] <;> omega) | assumption | omega | fail)), (show oc (τ18.2.1 7) < 4096 from by (first | omega | (simp only [st_s] <;> omega) | assumption | omega | fail)), (show (σ.1 16) ≤ (τ18.1 16) from by (first | omega | (simp only [st_s] <;> omega) | assumption | omega | fail)), ag, (show n_sp2 (τ18.2.1 25 (τ18.1 22)) (τ18.1 9) (τ18.1 22) (τ18.2.1 27) (τ18.2.1 28) from NSP)⟩
      ·
        refine ⟨fun c9 => ?_, fun c9 => ?_⟩
        ·
          refine h124 _ ?_
          refine ⟨fun c14 => ?_, fun c14 => ?_⟩
          ·
            exact ⟨hT, (show (τ_36.1 16) ≤ (τ_36.1 0) from by (first | omega | (simp only [st_s] <;> omega) | assumption | omega | fail)), (show (τ_36.1 17) + (τ_36.1 18) ≤ (τ_36.1 0) from by (first | omega | (simp only [st_s] <;> omega) | assumption | omega | fail)), (show ¬ (σ.1 20) = 0 → (τ_36.1 20) = (σ.1 20) from by (first | omega | (simp only [st_s] <;> omega) | assumption | omega | fail)), (show τ_36.2.1 25 (τ_36.1 22) + τ_36.2.1 26 (τ_36.1 22) = (τ_36.1 9) from Z4), (show ca (τ_36.2.1 28) ((τ_36.1 9)) ≤ ca (τ_36.2.1 28) (τ_36.2.1 25 (τ_36.1 22)) + 300 from by omega), (show j_eq (σ.2.1 25 (σ.1 22)) (σ.2.1 28) (τ_36.2.1 28) from Y13), (show oc (τ_36.2.1 6) < 4096 from by (first | omega | (simp only [st_s] <;> omega) | assumption | omega | fail)), (show oc (τ_36.2.1 7) < 4096 from by (first | omega | (simp only [st_s] <;> omega) | assumption | omega | fail)), (show (σ.1 16) ≤ (τ_36.1 16) from by (first | omega | (simp only [st_s] <;> omega) | assumption | omega | fail)), ag, (show n_sp2 (τ_36.2.1 25 (τ_36.1 22)) (τ_36.1 9) (τ_36.1 22) (τ_36.2.1 27) (τ_36.2.1 28) from NSP)⟩
          ·
            refine ⟨fun c15 => ?_, fun c15 => ?_⟩
            ·
              exact ⟨hT, (show (τ_36.1 16) ≤ (τ_36.1 0) from by (first | omega | (simp only [st_s] <;> omega) | assumption | omega | fail)), (show (τ_36.1 17) + (τ_36.1 18) ≤ (τ_36.1 0) from by (first | omega | (simp only [st_s] <;> omega) | assumption | omega | fail)), (show ¬ (σ.1 20) = 0 → (τ_36.1 20) = (σ.1 20) from by (first | omega | (simp only [st_s] <;> omega) | assumption | omega | fail)), (show τ_36.2.1 25 (τ_36.1 22) + τ_36.2.1 26 (τ_36.1 22) = (τ_36.1 9) from Z4), (show ca (τ_36.2.1 28) ((τ_36.1 9)) ≤ ca (τ_36.2.1 28) (τ_36.2.1 25 (τ_36.1 22)) + 300 from by omega), (show j_eq (σ.2.1 25 (σ.1 22)) (σ.2.1 28) (τ_36.2.1 28) from Y13), (show oc (τ_36.2.1 6) < 4096 from by (first | omega | (simp only [st_s] <;> omega) | assumption | omega | fail)), (show oc (τ_36.2.1 7) < 4096 from by (first | omega | (simp only [st_s] <;> omega) | assumption | omega | fail)), (show (σ.1 16) ≤ (τ_36.1 16) from by (first | omega | (simp only [st_s] <;> omega) | assumption | omega | fail)), ag, (show n_sp2 (τ_36.2.1 25 (τ_36.1 22)) (τ_36.1 9) (τ_36.1 22) (τ_36.2.1 27) (τ_36.2.1 28) from NSP)⟩
            ·
              refine ⟨_, K_X13_failHere hT (show 0 ≤ (14 : Int) from by (first | omega | (simp only [st_s] <;> omega) | assumption | omega | fail)) (show (14 : Int) ≤ 19 from by (first | omega | (simp only [st_s] <;> omega) | assumption | omega | fail)), ?_⟩
              intro τ18 hn_τ18 hf_τ18 hq
              obtain ⟨hT, q16_1, q16_2⟩ := hq
              replace q16_1 : ¬ (τ_36.1 20) = 0 → (τ18.1 20) = (τ_36.1 20) := q16_1
              replace q16_2 : (τ_36.1 20) = 0 → (τ18.1 20) = (14 : Int) := q16_2
              replace ag : m_ag σ τ18 := ag_r ag hf_τ18 rfl rfl
              have w0_τ18 : τ18.1 0 = τ_36.1 0 := hf_τ18.1 0 (by decide)
              have w3_τ18 : τ18.1 3 = τ_36.1 3 := hf_τ18.1 3 (by decide)
              have w5_τ18 : τ18.1 5 = τ_36.1 5 := hf_τ18.1 5 (by decide)
              have w6_τ18 : τ18.1 6 = τ_36.1 6 := hf_τ18.1 6 (by decide)
              have w7_τ18 : τ18.1 7 = τ_36.1 7 := hf_τ18.1 7 (by decide)
              have w8_τ18 : τ18.1 8 = τ_36.1 8 := hf_τ18.1 8 (by decide)
              have w9_τ18 : τ18.1 9 = τ_36.1 9 := hf_τ18.1 9 (by decide)
              have w16_τ18 : τ18.1 16 = τ_36.1 16 := hf_τ18.1 16 (by decide)
              have w17_τ18 : τ18.1 17 = τ_36.1 17 := hf_τ18.1 17 (by decide)
              have w18_τ18 : τ18.1 18 = τ_36.1 18 := hf_τ18.1 18 (by decide)
              have w19_τ18 : τ18.1 19 = τ_36.1 19 := hf_τ18.1 19 (by decide)
              have w22_τ18 : τ18.1 22 = τ_36.1 22 := hf_τ18.1 22 (by decide)
              have w25_τ18 : τ18.1 25 = τ_36.1 25 := hf_τ18.1 25 (by decide)
              have w26_τ18 : τ18.1 26 = τ_36.1 26 := hf_τ18.1 26 (by decide)
              have w27_τ18 : τ18.1 27 = τ_36.1 27 := hf_τ18.1 27 (by decide)
              have w28_τ18 : τ18.1 28 = τ_36.1 28 := hf_τ18.1 28 (by decide)
              have w29_τ18 : τ18.1 29 = τ_36.1 29 := hf_τ18.1 29 (by decide)
              have g6_τ18 : τ18.2.1 6 = τ_36.2.1 6 := hf_τ18.2.1 6 (by decide)
              have g7_τ18 : τ18.2.1 7 = τ_36.2.1 7 := hf_τ18.2.1 7 (by decide)
              have g18_τ18 : τ18.2.1 18 = τ_36.2.1 18 := hf_τ18.2.1 18 (by decide)
              have g19_τ18 : τ18.2.1 19 = τ_36.2.1 19 := hf_τ18.2.1 19 (by decide)
              have g20_τ18 : τ18.2.1 20 = τ_36.2.1 20 := hf_τ18.2.1 20 (by decide)
              have g25_τ18 : τ18.2.1 25 = τ_36.2.1 25 := hf_τ18.2.1 25 (by decide)
              have g26_τ18 : τ18.2.1 26 = τ_36.2.1 26 := hf_τ18.2.1 26 (by decide)
              have g27_τ18 : τ18.2.1 27 = τ_36.2.1 27 := hf_τ18.2.1 27 (by decide)
              have g28_τ18 : τ18.2.1 28 = τ_36.2.1 28 := hf_τ18.2.1 28 (by decide)
              have g39_τ18 : τ18.2.1 39 = τ_36.2.1 39 := hf_τ18.2.1 39 (by decide)
              first | (have o6_τ18 := congrArg oc g6_τ18) | skip
              first | (have o7_τ18 := congrArg oc g7_τ18) | skip
              have W0 : τ18.1 0 = σ.1 0 := by first | exact w0_τ18.trans W0 | omega
              have W3 : τ18.1 3 = σ.1 3 := by first | exact w3_τ18.trans W3 | omega
              have W5 : τ18.1 5 = σ.1 5 := by first | exact w5_τ18.trans W5 | omega
              have W6 : τ18.1 6 = σ.1 6 := by first | exact w6_τ18.trans W6 | omega
              have W7 : τ18.1 7 = σ.1 7 := by first | exact w7_τ18.trans W7 | omega
              have W8 : τ18.1 8 = σ.1 8 := by first | exact w8_τ18.trans W8 | omega
              have W22 : τ18.1 22 = σ.1 22 := by first | exact w22_τ18.trans W22 | omega
              have G6 : τ18.2.1 6 = σ.2.1 6 := (g6_τ18).trans G6
              have G7 : τ18.2.1 7 = σ.2.1 7 := (g7_τ18).trans G7
              have G18 : τ18.2.1 18 = σ.2.1 18 := (g18_τ18).trans G18
              have G19 : τ18.2.1 19 = σ.2.1 19 := (g19_τ18).trans G19
              have G20 : τ18.2.1 20 = σ.2.1 20 := (g20_τ18).trans G20
              have G25 : τ18.2.1 25 = σ.2.1 25 := (g25_τ18).trans G25
              have y18_22_τ18 : τ18.2.1 18 (τ18.1 22) = (τ_36.2.1 18) (τ_36.1 22) := by rw [g18_τ18, w22_τ18]
              have y19_22_τ18 : τ18.2.1 19 (τ18.1 22) = (τ_36.2.1 19) (τ_36.1 22) := by rw [g19_τ18, w22_τ18]
              have y25_22_τ18 : τ18.2.1 25 (τ18.1 22) = (τ_36.2.1 25) (τ_36.1 22) := by rw [g25_τ18, w22_τ18]
              have y26_22_τ18 : τ18.2.1 26 (τ18.1 22) = (τ_36.2.1 26) (τ_36.1 22) := by rw [g26_τ18, w22_τ18]
              have Z4 : τ18.2.1 25 (τ18.1 22) + τ18.2.1 26 (τ18.1 22) = (τ18.1 9) := by rw [show (τ18.2.1 25 (τ18.1 22) + τ18.2.1 26 (τ18.1 22) = (τ18.1 9)) = (τ_36.2.1 25 (τ_36.1 22) + τ_36.2.1 26 (τ_36.1 22) = (τ_36.1 9)) from by rw [w9_τ18, w22_τ18, g25_τ18, g26_τ18]]; exact Z4
              have Y10 : ca (τ18.2.1 28) ((τ18.1 9)) ≤ ca (τ18.2.1 28) (τ18.2.1 25 (τ18.1 22)) + (τ18.1 29) := by rw [show (ca (τ18.2.1 28) ((τ18.1 9)) ≤ ca (τ18.2.1 28) (τ18.2.1 25 (τ18.1 22)) + (τ18.1 29)) = (ca (τ_36.2.1 28) ((τ_36.1 9)) ≤ ca (τ_36.2.1 28) (τ_36.2.1 25 (τ_36.1 22)) + (τ_36.1 29)) from by rw [w9_τ18, w22_τ18, w29_τ18, g25_τ18, g28_τ18]]; exact Y10
              have Y12 : ¬ (τ18.1 28) = 0 → τ18.2.1 25 (τ18.1 22) < (τ18.1 9) ∧ τ18.2.1 28 ((τ18.1 9) - 1) = 0 := by rw [show (¬ (τ18.1 28) = 0 → τ18.2.1 25 (τ18.1 22) < (τ18.1 9) ∧ τ18.2.1 28 ((τ18.1 9) - 1) = 0) = (¬ (τ_36.1 28) = 0 → τ_36.2.1 25 (τ_36.1 22) < (τ_36.1 9) ∧ τ_36.2.1 28 ((τ_36.1 9) - 1) = 0) from by rw [w9_τ18, w22_τ18, w28_τ18, g25_τ18, g28_τ18]]; exact Y12
              have Y13 : j_eq (σ.2.1 25 (σ.1 22)) (σ.2.1 28) (τ18.2.1 28) := by rw [show (j_eq (σ.2.1 25 (σ.1 22)) (σ.2.1 28) (τ18.2.1 28)) = (j_eq (σ.2.1 25 (σ.1 22)) (σ.2.1 28) (τ_36.2.1 28)) from by rw [g28_τ18]]; exact Y13
              have NSP : n_sp2 (τ18.2.1 25 (τ18.1 22)) (τ18.1 9) (τ18.1 22) (τ18.2.1 27) (τ18.2.1 28) := by rw [show (n_sp2 (τ18.2.1 25 (τ18.1 22)) (τ18.1 9) (τ18.1 22) (τ18.2.1 27) (τ18.2.1 28)) = (n_sp2 (τ_36.2.1 25 (τ_36.1 22)) (τ_36.1 9) (τ_36.1 22) (τ_36.2.1 27) (τ_36.2.1 28)) from by rw [w9_τ18, w22_τ18, g25_τ18, g27_τ18, g28_τ18]]; exact NSP
              have Y12c : ¬ (τ18.1 28) = 0 → 0 ≤ τ18.2.1 27 ((τ18.1 9) - 1) := by rw [show (¬ (τ18.1 28) = 0 → 0 ≤ τ18.2.1 27 ((τ18.1 9) - 1)) = (¬ (τ_36.1 28) = 0 → 0 ≤ τ_36.2.1 27 ((τ_36.1 9) - 1)) from by rw [w9_τ18, w28_τ18, g27_τ18]]; exact Y12c
              have PK : ∀ k : Int, 0 ≤ k → k < (τ18.1 25) → τ18.2.1 39 k < (τ18.1 22) := by rw [show (∀ k : Int, 0 ≤ k → k < (τ18.1 25) → τ18.2.1 39 k < (τ18.1 22)) = (∀ k : Int, 0 ≤ k → k < (τ_36.1 25) → τ_36.2.1 39 k < (τ_36.1 22)) from by rw [w22_τ18, w25_τ18, g39_τ18]]; exact PK
              have Y10b : (τ18.1 29) + ca (τ18.2.1 28) (τ18.2.1 25 (τ18.1 22)) ≤ ca (τ18.2.1 28) (τ18.1 9) := by rw [show ((τ18.1 29) + ca (τ18.2.1 28) (τ18.2.1 25 (τ18.1 22)) ≤ ca (τ18.2.1 28) (τ18.1 9)) = ((τ_36.1 29) + ca (τ_36.2.1 28) (τ_36.2.1 25 (τ_36.1 22)) ≤ ca (τ_36.2.1 28) (τ_36.1 9)) from by rw [w9_τ18, w22_τ18, w29_τ18, g25_τ18, g28_τ18]]; exact Y10b
              have HYN : ∀ k : Int, 0 ≤ k → k < τ18.2.1 19 (τ18.1 22) → τ18.2.1 20 (τ18.2.1 18 (τ18.1 22) + k) < (τ18.1 22) := by rw [show (∀ k : Int, 0 ≤ k → k < τ18.2.1 19 (τ18.1 22) → τ18.2.1 20 (τ18.2.1 18 (τ18.1 22) + k) < (τ18.1 22)) = (∀ k : Int, 0 ≤ k → k < τ_36.2.1 19 (τ_36.1 22) → τ_36.2.1 20 (τ_36.2.1 18 (τ_36.1 22) + k) < (τ_36.1 22)) from by rw [w22_τ18, g18_τ18, g19_τ18, g20_τ18]]; exact HYN
              have A6 : ∀ j, (-1) ≤ τ18.2.1 6 j ∧ τ18.2.1 6 j ≤ 999 := fun j => hT.2 6 j
              have A7 : ∀ j, (-1) ≤ τ18.2.1 7 j ∧ τ18.2.1 7 j ≤ 1499 := fun j => hT.2 7 j
              have A18 : ∀ j, 0 ≤ τ18.2.1 18 j ∧ τ18.2.1 18 j ≤ 90000 := fun j => hT.2 18 j
              have A19 : ∀ j, 0 ≤ τ18.2.1 19 j ∧ τ18.2.1 19 j ≤ 60 := fun j => hT.2 19 j
              have A20 : ∀ j, 0 ≤ τ18.2.1 20 j ∧ τ18.2.1 20 j ≤ 1499 := fun j => hT.2 20 j
              have A25 : ∀ j, 0 ≤ τ18.2.1 25 j ∧ τ18.2.1 25 j ≤ 20000 := fun j => hT.2 25 j
              have A26 : ∀ j, 0 ≤ τ18.2.1 26 j ∧ τ18.2.1 26 j ≤ 20000 := fun j => hT.2 26 j
              have A27 : ∀ j, (-300) ≤ τ18.2.1 27 j ∧ τ18.2.1 27 j ≤ 1499 := fun j => hT.2 27 j
              have A28 : ∀ j, 0 ≤ τ18.2.1 28 j ∧ τ18.2.1 28 j ≤ 1 := fun j => hT.2 28 j
              have A39 : ∀ j, 0 ≤ τ18.2.1 39 j ∧ τ18.2.1 39 j ≤ 1499 := fun j => hT.2 39 j
              have v0 : 0 ≤ τ18.1 0 ∧ τ18.1 0 ≤ 60000 := hT.1 0
              have v3 : 0 ≤ τ18.1 3 ∧ τ18.1 3 ≤ 1000 := hT.1 3
              have v5 : 0 ≤ τ18.1 5 ∧ τ18.1 5 ≤ 1500 := hT.1 5
              have v6 : 0 ≤ τ18.1 6 ∧ τ18.1 6 ≤ 30000 := hT.1 6
              have v7 : 0 ≤ τ18.1 7 ∧ τ18.1 7 ≤ 90000 := hT.1 7
              have v8 : 0 ≤ τ18.1 8 ∧ τ18.1 8 ≤ 20000 := hT.1 8
              have v9 : 0 ≤ τ18.1 9 ∧ τ18.1 9 ≤ 20000 := hT.1 9
              have v16 : 0 ≤ τ18.1 16 ∧ τ18.1 16 ≤ 60000 := hT.1 16
              have v17 : 0 ≤ τ18.1 17 ∧ τ18.1 17 ≤ 60000 := hT.1 17
              have v18 : 0 ≤ τ18.1 18 ∧ τ18.1 18 ≤ 60000 := hT.1 18
              have v19 : (-1) ≤ τ18.1 19 ∧ τ18.1 19 ≤ 125 := hT.1 19
              have v20 : 0 ≤ τ18.1 20 ∧ τ18.1 20 ≤ 19 := hT.1 20
              have v22 : 0 ≤ τ18.1 22 ∧ τ18.1 22 ≤ 1499 := hT.1 22
              have v25 : 0 ≤ τ18.1 25 ∧ τ18.1 25 ≤ 300 := hT.1 25
              have v26 : 0 ≤ τ18.1 26 ∧ τ18.1 26 ≤ 5000010 := hT.1 26
              have v27 : 0 ≤ τ18.1 27 ∧ τ18.1 27 ≤ 1 := hT.1 27
              have v28 : 0 ≤ τ18.1 28 ∧ τ18.1 28 ≤ 1 := hT.1 28
              have v29 : 0 ≤ τ18.1 29 ∧ τ18.1 29 ≤ 300 := hT.1 29
              have a18_22 : 0 ≤ τ18.2.1 18 (τ18.1 22) ∧ τ18.2.1 18 (τ18.1 22) ≤ 90000 := hT.2 18 _
              have a19_22 : 0 ≤ τ18.2.1 19 (τ18.1 22) ∧ τ18.2.1 19 (τ18.1 22) ≤ 60 := hT.2 19 _
              have a25_22 : 0 ≤ τ18.2.1 25 (τ18.1 22) ∧ τ18.2.1 25 (τ18.1 22) ≤ 20000 := hT.2 25 _
              have a26_22 : 0 ≤ τ18.2.1 26 (τ18.1 22) ∧ τ18.2.1 26 (τ18.1 22) ≤ 20000 := hT.2 26 _
              have av9 : σ.1 9 ≤ τ18.1 9 := ag.1 9 (by decide)
              exact ⟨hT, (show (τ18.1 16) ≤ (τ18.1 0) from by (first | omega | (simp only [st_s] <;> omega) | assumption | omega | fail)), (show (τ18.1 17) + (τ18.1 18) ≤ (τ18.1 0) from by (first | omega | (simp only [st_s] <;> omega) | assumption | omega | fail)), (show ¬ (σ.1 20) = 0 → (τ18.1 20) = (σ.1 20) from by (first | omega | (simp only [st_s] <;> omega) | assumption | omega | fail)), (show τ18.2.1 25 (τ18.1 22) + τ18.2.1 26 (τ18.1 22) = (τ18.1 9) from Z4), (show ca (τ18.2.1 28) ((τ18.1 9)) ≤ ca (τ18.2.1 28) (τ18.2.1 25 (τ18.1 22)) + 300 from by omega), (show j_eq (σ.2.1 25 (σ.1 22)) (σ.2.1 28) (τ18.2.1 28) from Y13), (show oc (τ18.2.1 6) < 4096 from by (first | omega | (simp only [st_s] <;> omega) | assumption | omega | fail)), (show oc (τ18.2.1 7) < 4096 from by (first | omega | (simp only [st_s] <;> omega) | assumption | omega | fail)), (show (σ.1 16) ≤ (τ18.1 16) from by (first | omega | (simp only [st_s] <;> omega) | assumption | omega | fail)), ag, (show n_sp2 (τ18.2.1 25 (τ18.1 22)) (τ18.1 9) (τ18.1 22) (τ18.2.1 27) (τ18.2.1 28) from NSP)⟩
        ·
          refine ⟨fun c10 => ?_, fun c10 => ?_⟩
          ·
            exact l_68 (((τ_36.1 18) - 0 + 1 : Int).toNat + 1) _ _ (show ((τ_36.1 18) - 0 + 1 : Int) < ((((τ_36.1 18) - 0 + 1 : Int).toNat + 1 : Nat) : Int) from by ((first | omega | (simp only [st_s] <;> omega) | assumption | omega | fail))) hT ag (show τ_36.1 0 = σ.1 0 from by first | exact W0 | omega) (show τ_36.1 3 = σ.1 3 from by first | exact W3 | omega) (show τ_36.1 5 = σ.1 5 from by first | exact W5 | omega) (show τ_36.1 6 = σ.1 6 from by first | exact W6 | omega) (show τ_36.1 7 = σ.1 7 from by first | exact W7 | omega) (show τ_36.1 8 = σ.1 8 from by first | exact W8 | omega) (show τ_36.1 22 = σ.1 22 from by first | exact W22 | omega) G6 G7 G18 G19 G20 G25 (show (τ_36.1 16) ≤ (τ_36.1 0) from by (first | omega | (simp only [st_s] <;> omega) | assumption | omega | fail)) (show (τ_36.1 17) + (τ_36.1 18) ≤ (τ_36.1 0) from by (first | omega | (simp only [st_s] <;> omega) | assumption | omega | fail)) (show oc (τ_36.2.1 6) < 4096 from by (first | omega | (simp only [st_s] <;> omega) | assumption | omega | fail)) (show oc (τ_36.2.1 7) < 4096 from by (first | omega | (simp only [st_s] <;> omega) | assumption | omega | fail)) (show ¬ (σ.1 20) = 0 → (τ_36.1 20) = (σ.1 20) from by (first | omega | (simp only [st_s] <;> omega) | assumption | omega | fail)) (show τ_36.2.1 25 (τ_36.1 22) + τ_36.2.1 26 (τ_36.1 22) = (τ_36.1 9) from Z4) (show ca (τ_36.2.1 28) ((τ_36.1 9)) ≤ ca (τ_36.2.1 28) (τ_36.2.1 25 (τ_36.1 22)) + (τ_36.1 29) from Y10) (show ¬ (τ_36.1 28) = 0 → τ_36.2.1 25 (τ_36.1 22) < (τ_36.1 9) ∧ τ_36.2.1 28 ((τ_36.1 9) - 1) = 0 from Y12) (show j_eq (σ.2.1 25 (σ.1 22)) (σ.2.1 28) (τ_36.2.1 28) from Y13) (show (τ_36.1 20) = 0 → (τ_36.1 26) ≤ 1000000 from by (first | omega | (simp only [st_s] <;> omega) | assumption | omega | fail)) (show 0 ≤ 0 from by (first | omega | (simp only [st_s] <;> omega) | assumption | omega | fail)) (show 0 ≤ (τ_36.1 18) from by (first | omega | (simp only [st_s] <;> omega) | assumption | omega | fail)) (show 3 * ((τ_36.1 0) - (τ_36.1 16)) + 2 ≤ (m_36 : Int) from by (first | omega | (simp only [st_s] <;> omega) | assumption | omega | fail)) (show (σ.1 16) ≤ (τ_36.1 16) from by (first | omega | (simp only [st_s] <;> omega) | assumption | omega | fail)) (show n_sp2 (τ_36.2.1 25 (τ_36.1 22)) (τ_36.1 9) (τ_36.1 22) (τ_36.2.1 27) (τ_36.2.1 28) from NSP) (show (τ_36.1 29) + ca (τ_36.2.1 28) (τ_36.2.1 25 (τ_36.1 22)) ≤ ca (τ_36.2.1 28) (τ_36.1 9) from Y10b) (show ∀ k : Int, 0 ≤ k → k < (τ_36.1 25) → τ_36.2.1 39 k < (τ_36.1 22) from PK) (show ∀ k : Int, 0 ≤ k → k < τ_36.2.1 19 (τ_36.1 22) → τ_36.2.1 20 (τ_36.2.1 18 (τ_36.1 22) + k) < (τ_36.1 22) from HYN) (show ¬ (τ_36.1 28) = 0 → 0 ≤ τ_36.2.1 27 ((τ_36.1 9) - 1) from Y12c)
          ·
            refine ⟨_, K_X13_failHere hT (show 0 ≤ (4 : Int) from by (first | omega | (simp only [st_s] <;> omega) | assumption | omega | fail)) (show (4 : Int) ≤ 19 from by (first | omega | (simp only [st_s] <;> omega) | assumption | omega | fail)), ?_⟩
            intro τ13 hn_τ13 hf_τ13 hq
            obtain ⟨hT, q11_1, q11_2⟩ := hq
            replace q11_1 : ¬ (τ_36.1 20) = 0 → (τ13.1 20) = (τ_36.1 20) := q11_1
            replace q11_2 : (τ_36.1 20) = 0 → (τ13.1 20) = (4 : Int) := q11_2
            replace ag : m_ag σ τ13 := ag_r ag hf_τ13 rfl rfl
            have w0_τ13 : τ13.1 0 = τ_36.1 0 := hf_τ13.1 0 (by decide)
            have w3_τ13 : τ13.1 3 = τ_36.1 3 := hf_τ13.1 3 (by decide)
            have w5_τ13 : τ13.1 5 = τ_36.1 5 := hf_τ13.1 5 (by decide)
            have w6_τ13 : τ13.1 6 = τ_36.1 6 := hf_τ13.1 6 (by decide)
            have w7_τ13 : τ13.1 7 = τ_36.1 7 := hf_τ13.1 7 (by decide)
            have w8_τ13 : τ13.1 8 = τ_36.1 8 := hf_τ13.1 8 (by decide)
            have w9_τ13 : τ13.1 9 = τ_36.1 9 := hf_τ13.1 9 (by decide)
            have w16_τ13 : τ13.1 16 = τ_36.1 16 := hf_τ13.1 16 (by decide)
            have w17_τ13 : τ13.1 17 = τ_36.1 17 := hf_τ13.1 17 (by decide)
            have w18_τ13 : τ13.1 18 = τ_36.1 18 := hf_τ13.1 18 (by decide)
            have w19_τ13 : τ13.1 19 = τ_36.1 19 := hf_τ13.1 19 (by decide)
            have w22_τ13 : τ13.1 22 = τ_36.1 22 := hf_τ13.1 22 (by decide)
            have w25_τ13 : τ13.1 25 = τ_36.1 25 := hf_τ13.1 25 (by decide)
            have w26_τ13 : τ13.1 26 = τ_36.1 26 := hf_τ13.1 26 (by decide)
            have w27_τ13 : τ13.1 27 = τ_36.1 27 := hf_τ13.1 27 (by decide)
            have w28_τ13 : τ13.1 28 = τ_36.1 28 := hf_τ13.1 28 (by decide)
            have w29_τ13 : τ13.1 29 = τ_36.1 29 := hf_τ13.1 29 (by decide)
            have g6_τ13 : τ13.2.1 6 = τ_36.2.1 6 := hf_τ13.2.1 6 (by decide)
            have g7_τ13 : τ13.2.1 7 = τ_36.2.1 7 := hf_τ13.2.1 7 (by decide)
            have g18_τ13 : τ13.2.1 18 = τ_36.2.1 18 := hf_τ13.2.1 18 (by decide)
            have g19_τ13 : τ13.2.1 19 = τ_36.2.1 19 := hf_τ13.2.1 19 (by decide)
            have g20_τ13 : τ13.2.1 20 = τ_36.2.1 20 := hf_τ13.2.1 20 (by decide)
            have g25_τ13 : τ13.2.1 25 = τ_36.2.1 25 := hf_τ13.2.1 25 (by decide)
            have g26_τ13 : τ13.2.1 26 = τ_36.2.1 26 := hf_τ13.2.1 26 (by decide)
            have g27_τ13 : τ13.2.1 27 = τ_36.2.1 27 := hf_τ13.2.1 27 (by decide)
            have g28_τ13 : τ13.2.1 28 = τ_36.2.1 28 := hf_τ13.2.1 28 (by decide)
            have g39_τ13 : τ13.2.1 39 = τ_36.2.1 39 := hf_τ13.2.1 39 (by decide)
            first | (have o6_τ13 := congrArg oc g6_τ13) | skip
            first | (have o7_τ13 := congrArg oc g7_τ13) | skip
            have W0 : τ13.1 0 = σ.1 0 := by first | exact w0_τ13.trans W0 | omega
            have W3 : τ13.1 3 = σ.1 3 := by first | exact w3_τ13.trans W3 | omega
            have W5 : τ13.1 5 = σ.1 5 := by first | exact w5_τ13.trans W5 | omega
            have W6 : τ13.1 6 = σ.1 6 := by first | exact w6_τ13.trans W6 | omega
            have W7 : τ13.1 7 = σ.1 7 := by first | exact w7_τ13.trans W7 | omega
            have W8 : τ13.1 8 = σ.1 8 := by first | exact w8_τ13.trans W8 | omega
            have W22 : τ13.1 22 = σ.1 22 := by first | exact w22_τ13.trans W22 | omega
            have G6 : τ13.2.1 6 = σ.2.1 6 := (g6_τ13).trans G6
            have G7 : τ13.2.1 7 = σ.2.1 7 := (g7_τ13).trans G7
            have G18 : τ13.2.1 18 = σ.2.1 18 := (g18_τ13).trans G18
            have G19 : τ13.2.1 19 = σ.2.1 19 := (g19_τ13).trans G19
            have G20 : τ13.2.1 20 = σ.2.1 20 := (g20_τ13).trans G20
            have G25 : τ13.2.1 25 = σ.2.1 25 := (g25_τ13).trans G25
            have y18_22_τ13 : τ13.2.1 18 (τ13.1 22) = (τ_36.2.1 18) (τ_36.1 22) := by rw [g18_τ13, w22_τ13]
            have y19_22_τ13 : τ13.2.1 19 (τ13.1 22) = (τ_36.2.1 19) (τ_36.1 22) := by rw [g19_τ13, w22_τ13]
            have y25_22_τ13 : τ13.2.1 25 (τ13.1 22) = (τ_36.2.1 25) (τ_36.1 22) := by rw [g25_τ13, w22_τ13]
            have y26_22_τ13 : τ13.2.1 26 (τ13.1 22) = (τ_36.2.1 26) (τ_36.1 22) := by rw [g26_τ13, w22_τ13]
            have Z4 : τ13.2.1 25 (τ13.1 22) + τ13.2.1 26 (τ13.1 22) = (τ13.1 9) := by rw [show (τ13.2.1 25 (τ13.1 22) + τ13.2.1 26 (τ13.1 22) = (τ13.1 9)) = (τ_36.2.1 25 (τ_36.1 22) + τ_36.2.1 26 (τ_36.1 22) = (τ_36.1 9)) from by rw [w9_τ13, w22_τ13, g25_τ13, g26_τ13]]; exact Z4
            have Y10 : ca (τ13.2.1 28) ((τ13.1 9)) ≤ ca (τ13.2.1 28) (τ13.2.1 25 (τ13.1 22)) + (τ13.1 29) := by rw [show (ca (τ13.2.1 28) ((τ13.1 9)) ≤ ca (τ13.2.1 28) (τ13.2.1 25 (τ13.1 22)) + (τ13.1 29)) = (ca (τ_36.2.1 28) ((τ_36.1 9)) ≤ ca (τ_36.2.1 28) (τ_36.2.1 25 (τ_36.1 22)) + (τ_36.1 29)) from by rw [w9_τ13, w22_τ13, w29_τ13, g25_τ13, g28_τ13]]; exact Y10
            have Y12 : ¬ (τ13.1 28) = 0 → τ13.2.1 25 (τ13.1 22) < (τ13.1 9) ∧ τ13.2.1 28 ((τ13.1 9) - 1) = 0 := by rw [show (¬ (τ13.1 28) = 0 → τ13.2.1 25 (τ13.1 22) < (τ13.1 9) ∧ τ13.2.1 28 ((τ13.1 9) - 1) = 0) = (¬ (τ_36.1 28) = 0 → τ_36.2.1 25 (τ_36.1 22) < (τ_36.1 9) ∧ τ_36.2.1 28 ((τ_36.1 9) - 1) = 0) from by rw [w9_τ13, w22_τ13, w28_τ13, g25_τ13, g28_τ13]]; exact Y12
            have Y13 : j_eq (σ.2.1 25 (σ.1 22)) (σ.2.1 28) (τ13.2.1 28) := by rw [show (j_eq (σ.2.1 25 (σ.1 22)) (σ.2.1 28) (τ13.2.1 28)) = (j_eq (σ.2.1 25 (σ.1 22)) (σ.2.1 28) (τ_36.2.1 28)) from by rw [g28_τ13]]; exact Y13
            have NSP : n_sp2 (τ13.2.1 25 (τ13.1 22)) (τ13.1 9) (τ13.1 22) (τ13.2.1 27) (τ13.2.1 28) := by rw [show (n_sp2 (τ13.2.1 25 (τ13.1 22)) (τ13.1 9) (τ13.1 22) (τ13.2.1 27) (τ13.2.1 28)) = (n_sp2 (τ_36.2.1 25 (τ_36.1 22)) (τ_36.1 9) (τ_36.1 22) (τ_36.2.1 27) (τ_36.2.1 28)) from by rw [w9_τ13, w22_τ13, g25_τ13, g27_τ13, g28_τ13]]; exact NSP
            have Y12c : ¬ (τ13.1 28) = 0 → 0 ≤ τ13.2.1 27 ((τ13.1 9) - 1) := by rw [show (¬ (τ13.1 28) = 0 → 0 ≤ τ13.2.1 27 ((τ13.1 9) - 1)) = (¬ (τ_36.1 28) = 0 → 0 ≤ τ_36.2.1 27 ((τ_36.1 9) - 1)) from by rw [w9_τ13, w28_τ13, g27_τ13]]; exact Y12c
            have PK : ∀ k : Int, 0 ≤ k → k < (τ13.1 25) → τ13.2.1 39 k < (τ13.1 22) := by rw [show (∀ k : Int, 0 ≤ k → k < (τ13.1 25) → τ13.2.1 39 k < (τ13.1 22)) = (∀ k : Int, 0 ≤ k → k < (τ_36.1 25) → τ_36.2.1 39 k < (τ_36.1 22)) from by rw [w22_τ13, w25_τ13, g39_τ13]]; exact PK
            have Y10b : (τ13.1 29) + ca (τ13.2.1 28) (τ13.2.1 25 (τ13.1 22)) ≤ ca (τ13.2.1 28) (τ13.1 9) := by rw [show ((τ13.1 29) + ca (τ13.2.1 28) (τ13.2.1 25 (τ13.1 22)) ≤ ca (τ13.2.1 28) (τ13.1 9)) = ((τ_36.1 29) + ca (τ_36.2.1 28) (τ_36.2.1 25 (τ_36.1 22)) ≤ ca (τ_36.2.1 28) (τ_36.1 9)) from by rw [w9_τ13, w22_τ13, w29_τ13, g25_τ13, g28_τ13]]; exact Y10b
            have HYN : ∀ k : Int, 0 ≤ k → k < τ13.2.1 19 (τ13.1 22) → τ13.2.1 20 (τ13.2.1 18 (τ13.1 22) + k) < (τ13.1 22) := by rw [show (∀ k : Int, 0 ≤ k → k < τ13.2.1 19 (τ13.1 22) → τ13.2.1 20 (τ13.2.1 18 (τ13.1 22) + k) < (τ13.1 22)) = (∀ k : Int, 0 ≤ k → k < τ_36.2.1 19 (τ_36.1 22) → τ_36.2.1 20 (τ_36.2.1 18 (τ_36.1 22) + k) < (τ_36.1 22)) from by rw [w22_τ13, g18_τ13, g19_τ13, g20_τ13]]; exact HYN
            have A6 : ∀ j, (-1) ≤ τ13.2.1 6 j ∧ τ13.2.1 6 j ≤ 999 := fun j => hT.2 6 j
            have A7 : ∀ j, (-1) ≤ τ13.2.1 7 j ∧ τ13.2.1 7 j ≤ 1499 := fun j => hT.2 7 j
            have A18 : ∀ j, 0 ≤ τ13.2.1 18 j ∧ τ13.2.1 18 j ≤ 90000 := fun j => hT.2 18 j
            have A19 : ∀ j, 0 ≤ τ13.2.1 19 j ∧ τ13.2.1 19 j ≤ 60 := fun j => hT.2 19 j
            have A20 : ∀ j, 0 ≤ τ13.2.1 20 j ∧ τ13.2.1 20 j ≤ 1499 := fun j => hT.2 20 j
            have A25 : ∀ j, 0 ≤ τ13.2.1 25 j ∧ τ13.2.1 25 j ≤ 20000 := fun j => hT.2 25 j
            have A26 : ∀ j, 0 ≤ τ13.2.1 26 j ∧ τ13.2.1 26 j ≤ 20000 := fun j => hT.2 26 j
            have A27 : ∀ j, (-300) ≤ τ13.2.1 27 j ∧ τ13.2.1 27 j ≤ 1499 := fun j => hT.2 27 j
            have A28 : ∀ j, 0 ≤ τ13.2.1 28 j ∧ τ13.2.1 28 j ≤ 1 := fun j => hT.2 28 j
            have A39 : ∀ j, 0 ≤ τ13.2.1 39 j ∧ τ13.2.1 39 j ≤ 1499 := fun j => hT.2 39 j
            have v0 : 0 ≤ τ13.1 0 ∧ τ13.1 0 ≤ 60000 := hT.1 0
            have v3 : 0 ≤ τ13.1 3 ∧ τ13.1 3 ≤ 1000 := hT.1 3
            have v5 : 0 ≤ τ13.1 5 ∧ τ13.1 5 ≤ 1500 := hT.1 5
            have v6 : 0 ≤ τ13.1 6 ∧ τ13.1 6 ≤ 30000 := hT.1 6
            have v7 : 0 ≤ τ13.1 7 ∧ τ13.1 7 ≤ 90000 := hT.1 7
            have v8 : 0 ≤ τ13.1 8 ∧ τ13.1 8 ≤ 20000 := hT.1 8
            have v9 : 0 ≤ τ13.1 9 ∧ τ13.1 9 ≤ 20000 := hT.1 9
            have v16 : 0 ≤ τ13.1 16 ∧ τ13.1 16 ≤ 60000 := hT.1 16
            have v17 : 0 ≤ τ13.1 17 ∧ τ13.1 17 ≤ 60000 := hT.1 17
            have v18 : 0 ≤ τ13.1 18 ∧ τ13.1 18 ≤ 60000 := hT.1 18
            have v19 : (-1) ≤ τ13.1 19 ∧ τ13.1 19 ≤ 125 := hT.1 19
            have v20 : 0 ≤ τ13.1 20 ∧ τ13.1 20 ≤ 19 := hT.1 20
            have v22 : 0 ≤ τ13.1 22 ∧ τ13.1 22 ≤ 1499 := hT.1 22
            have v25 : 0 ≤ τ13.1 25 ∧ τ13.1 25 ≤ 300 := hT.1 25
            have v26 : 0 ≤ τ13.1 26 ∧ τ13.1 26 ≤ 5000010 := hT.1 26
            have v27 : 0 ≤ τ13.1 27 ∧ τ13.1 27 ≤ 1 := hT.1 27
            have v28 : 0 ≤ τ13.1 28 ∧ τ13.1 28 ≤ 1 := hT.1 28
            have v29 : 0 ≤ τ13.1 29 ∧ τ13.1 29 ≤ 300 := hT.1 29
            have a18_22 : 0 ≤ τ13.2.1 18 (τ13.1 22) ∧ τ13.2.1 18 (τ13.1 22) ≤ 90000 := hT.2 18 _
            have a19_22 : 0 ≤ τ13.2.1 19 (τ13.1 22) ∧ τ13.2.1 19 (τ13.1 22) ≤ 60 := hT.2 19 _
            have a25_22 : 0 ≤ τ13.2.1 25 (τ13.1 22) ∧ τ13.2.1 25 (τ13.1 22) ≤ 20000 := hT.2 25 _
            have a26_22 : 0 ≤ τ13.2.1 26 (τ13.1 22) ∧ τ13.2.1 26 (τ13.1 22) ≤ 20000 := hT.2 26 _
            have av9 : σ.1 9 ≤ τ13.1 9 := ag.1 9 (by decide)
            exact ⟨hT, (show (τ13.1 16) ≤ (τ13.1 0) from by (first | omega | (simp only [st_s] <;> omega) | assumption | omega | fail)), (show (τ13.1 17) + (τ13.1 18) ≤ (τ13.1 0) from by (first | omega | (simp only [st_s] <;> omega) | assumption | omega | fail)), (show ¬ (σ.1 20) = 0 → (τ13.1 20) = (σ.1 20) from by (first | omega | (simp only [st_s] <;> omega) | assumption | omega | fail)), (show τ13.2.1 25 (τ13.1 22) + τ13.2.1 26 (τ13.1 22) = (τ13.1 9) from Z4), (show ca (τ13.2.1 28) ((τ13.1 9)) ≤ ca (τ13.2.1 28) (τ13.2.1 25 (τ13.1 22)) + 300 from by omega), (show j_eq (σ.2.1 25 (σ.1 22)) (σ.2.1 28) (τ13.2.1 28) from Y13), (show oc (τ13.2.1 6) < 4096 from by (first | omega | (simp only [st_s] <;> omega) | assumption | omega | fail)), (show oc (τ13.2.1 7) < 4096 from by (first | omega | (simp only [st_s] <;> omega) | assumption | omega | fail)), (show (σ.1 16) ≤ (τ13.1 16) from by (first | omega | (simp only [st_s] <;> omega) | assumption | omega | fail)), ag, (show n_sp2 (τ13.2.1 25 (τ13.1 22)) (τ13.1 9) (τ13.1 22) (τ13.2.1 27) (τ13.2.1 28) from NSP)⟩
  refine ⟨_, K3_X13_readPackedLabels hT (show (σ.1 16) ≤ (σ.1 0) from by (first | omega | (simp only [st_s] <;> omega) | assumption | omega | fail)) (show (σ.1 17) + (σ.1 18) ≤ (σ.1 0) from by (first | omega | (simp only [st_s] <;> omega) | assumption | omega | fail)) (show oc (σ.2.1 6) < 4096 from by (first | omega | (simp only [st_s] <;> omega) | assumption | omega | fail)) (show oc (σ.2.1 7) < 4096 from by (first | omega | (simp only [st_s] <;> omega) | assumption | omega | fail)) (show σ.2.1 18 (σ.1 22) + σ.2.1 19 (σ.1 22) ≤ 90100 from by (first | omega | (simp only [st_s] <;> omega) | assumption | omega | fail)), ?_⟩
  intro τ3 hn_τ3 hf_τ3 hq
  obtain ⟨hT, q1_1, q1_2, q1_3, q1_4, q1_5, q1_6, q1_7⟩ := hq
  replace q1_1 : (τ3.1 16) ≤ (τ3.1 0) := q1_1
  replace q1_2 : (τ3.1 17) + (τ3.1 18) ≤ (τ3.1 0) := q1_2
  replace q1_3 : ¬ (σ.1 20) = 0 → (τ3.1 20) = (σ.1 20) := q1_3
  replace q1_4 : oc (τ3.2.1 6) < 4096 := q1_4
  replace q1_5 : oc (τ3.2.1 7) < 4096 := q1_5
  replace q1_6 : (σ.1 16) ≤ (τ3.1 16) := q1_6
  replace q1_7 : ∀ k : Int, 0 ≤ k → k < (τ3.1 25) → τ3.2.1 39 k < (τ3.1 22) := q1_7
  replace ag : m_ag σ τ3 := ag_r ag hf_τ3 rfl rfl
  have w0_τ3 : τ3.1 0 = σ.1 0 := hf_τ3.1 0 (by decide)
  have w3_τ3 : τ3.1 3 = σ.1 3 := hf_τ3.1 3 (by decide)
  have w5_τ3 : τ3.1 5 = σ.1 5 := hf_τ3.1 5 (by decide)
  have w6_τ3 : τ3.1 6 = σ.1 6 := hf_τ3.1 6 (by decide)
  have w7_τ3 : τ3.1 7 = σ.1 7 := hf_τ3.1 7 (by decide)
  have w8_τ3 : τ3.1 8 = σ.1 8 := hf_τ3.1 8 (by decide)
  have w9_τ3 : τ3.1 9 = σ.1 9 := hf_τ3.1 9 (by decide)
  have w22_τ3 : τ3.1 22 = σ.1 22 := hf_τ3.1 22 (by decide)
  have w26_τ3 : τ3.1 26 = σ.1 26 := hf_τ3.1 26 (by decide)
  have w27_τ3 : τ3.1 27 = σ.1 27 := hf_τ3.1 27 (by decide)
  have w28_τ3 : τ3.1 28 = σ.1 28 := hf_τ3.1 28 (by decide)
  have w29_τ3 : τ3.1 29 = σ.1 29 := hf_τ3.1 29 (by decide)
  have g6_τ3 : τ3.2.1 6 = σ.2.1 6 := hf_τ3.2.1 6 (by decide)
  have g7_τ3 : τ3.2.1 7 = σ.2.1 7 := hf_τ3.2.1 7 (by decide)
  have g18_τ3 : τ3.2.1 18 = σ.2.1 18 := hf_τ3.2.1 18 (by decide)
  have g19_τ3 : τ3.2.1 19 = σ.2.1 19 := hf_τ3.2.1 19 (by decide)
  have g20_τ3 : τ3.2.1 20 = σ.2.1 20 := hf_τ3.2.1 20 (by decide)
  have g25_τ3 : τ3.2.1 25 = σ.2.1 25 := hf_τ3.2.1 25 (by decide)
  have g26_τ3 : τ3.2.1 26 = σ.2.1 26 := hf_τ3.2.1 26 (by decide)
  have g27_τ3 : τ3.2.1 27 = σ.2.1 27 := hf_τ3.2.1 27 (by decide)
  have g28_τ3 : τ3.2.1 28 = σ.2.1 28 := hf_τ3.2.1 28 (by decide)
  first | (have o6_τ3 := congrArg oc g6_τ3) | skip
  first | (have o7_τ3 := congrArg oc g7_τ3) | skip
  have W0 : τ3.1 0 = σ.1 0 := by first | exact w0_τ3.trans W0 | omega
  have W3 : τ3.1 3 = σ.1 3 := by first | exact w3_τ3.trans W3 | omega
  have W5 : τ3.1 5 = σ.1 5 := by first | exact w5_τ3.trans W5 | omega
  have W6 : τ3.1 6 = σ.1 6 := by first | exact w6_τ3.trans W6 | omega
  have W7 : τ3.1 7 = σ.1 7 := by first | exact w7_τ3.trans W7 | omega
  have W8 : τ3.1 8 = σ.1 8 := by first | exact w8_τ3.trans W8 | omega
  have W22 : τ3.1 22 = σ.1 22 := by first | exact w22_τ3.trans W22 | omega
  have G6 : τ3.2.1 6 = σ.2.1 6 := (g6_τ3).trans G6
  have G7 : τ3.2.1 7 = σ.2.1 7 := (g7_τ3).trans G7
  have G18 : τ3.2.1 18 = σ.2.1 18 := (g18_τ3).trans G18
  have G19 : τ3.2.1 19 = σ.2.1 19 := (g19_τ3).trans G19
  have G20 : τ3.2.1 20 = σ.2.1 20 := (g20_τ3).trans G20
  have G25 : τ3.2.1 25 = σ.2.1 25 := (g25_τ3).trans G25
  have y18_22_τ3 : τ3.2.1 18 (τ3.1 22) = (σ.2.1 18) (σ.1 22) := by rw [g18_τ3, w22_τ3]
  have y19_22_τ3 : τ3.2.1 19 (τ3.1 22) = (σ.2.1 19) (σ.1 22) := by rw [g19_τ3, w22_τ3]
  have y25_22_τ3 : τ3.2.1 25 (τ3.1 22) = (σ.2.1 25) (σ.1 22) := by rw [g25_τ3, w22_τ3]
  have y26_22_τ3 : τ3.2.1 26 (τ3.1 22) = (σ.2.1 26) (σ.1 22) := by rw [g26_τ3, w22_τ3]
  have Z4 : τ3.2.1 25 (τ3.1 22) + τ3.2.1 26 (τ3.1 22) = (τ3.1 9) := by rw [show (τ3.2.1 25 (τ3.1 22) + τ3.2.1 26 (τ3.1 22) = (τ3.1 9)) = (σ.2.1 25 (σ.1 22) + σ.2.1 26 (σ.1 22) = (σ.1 9)) from by rw [w9_τ3, w22_τ3, g25_τ3, g26_τ3]]; exact Z4
  have Y13 : j_eq (σ.2.1 25 (σ.1 22)) (σ.2.1 28) (τ3.2.1 28) := by rw [show (j_eq (σ.2.1 25 (σ.1 22)) (σ.2.1 28) (τ3.2.1 28)) = (j_eq (σ.2.1 25 (σ.1 22)) (σ.2.1 28) (σ.2.1 28)) from by rw [g28_τ3]]; exact Y13
  have Y14 : ca (τ3.2.1 28) ((τ3.1 9)) ≤ ca (τ3.2.1 28) (τ3.2.1 25 (τ3.1 22)) + 300 := by rw [show (ca (τ3.2.1 28) ((τ3.1 9)) ≤ ca (τ3.2.1 28) (τ3.2.1 25 (τ3.1 22)) + 300) = (ca (σ.2.1 28) ((σ.1 9)) ≤ ca (σ.2.1 28) (σ.2.1 25 (σ.1 22)) + 300) from by rw [w9_τ3, w22_τ3, g25_τ3, g28_τ3]]; exact Y14
  have NSP : n_sp2 (τ3.2.1 25 (τ3.1 22)) (τ3.1 9) (τ3.1 22) (τ3.2.1 27) (τ3.2.1 28) := by rw [show (n_sp2 (τ3.2.1 25 (τ3.1 22)) (τ3.1 9) (τ3.1 22) (τ3.2.1 27) (τ3.2.1 28)) = (n_sp2 (σ.2.1 25 (σ.1 22)) (σ.1 9) (σ.1 22) (σ.2.1 27) (σ.2.1 28)) from by rw [w9_τ3, w22_τ3, g25_τ3, g27_τ3, g28_τ3]]; exact NSP
  have PK : ∀ k : Int, 0 ≤ k → k < (τ3.1 25) → τ3.2.1 39 k < (τ3.1 22) := q1_7
  have HYN : ∀ k : Int, 0 ≤ k → k < τ3.2.1 19 (τ3.1 22) → τ3.2.1 20 (τ3.2.1 18 (τ3.1 22) + k) < (τ3.1 22) := by rw [show (∀ k : Int, 0 ≤ k → k < τ3.2.1 19 (τ3.1 22) → τ3.2.1 20 (τ3.2.1 18 (τ3.1 22) + k) < (τ3.1 22)) = (∀ k : Int, 0 ≤ k → k < σ.2.1 19 (σ.1 22) → σ.2.1 20 (σ.2.1 18 (σ.1 22) + k) < (σ.1 22)) from by rw [w22_τ3, g18_τ3, g19_τ3, g20_τ3]]; exact HYN
  have A6 : ∀ j, (-1) ≤ τ3.2.1 6 j ∧ τ3.2.1 6 j ≤ 999 := fun j => hT.2 6 j
  have A7 : ∀ j, (-1) ≤ τ3.2.1 7 j ∧ τ3.2.1 7 j ≤ 1499 := fun j => hT.2 7 j
  have A18 : ∀ j, 0 ≤ τ3.2.1 18 j ∧ τ3.2.1 18 j ≤ 90000 := fun j => hT.2 18 j
  have A19 : ∀ j, 0 ≤ τ3.2.1 19 j ∧ τ3.2.1 19 j ≤ 60 := fun j => hT.2 19 j
  have A20 : ∀ j, 0 ≤ τ3.2.1 20 j ∧ τ3.2.1 20 j ≤ 1499 := fun j => hT.2 20 j
  have A25 : ∀ j, 0 ≤ τ3.2.1 25 j ∧ τ3.2.1 25 j ≤ 20000 := fun j => hT.2 25 j
  have A26 : ∀ j, 0 ≤ τ3.2.1 26 j ∧ τ3.2.1 26 j ≤ 20000 := fun j => hT.2 26 j
  have A27 : ∀ j, (-300) ≤ τ3.2.1 27 j ∧ τ3.2.1 27 j ≤ 1499 := fun j => hT.2 27 j
  have A28 : ∀ j, 0 ≤ τ3.2.1 28 j ∧ τ3.2.1 28 j ≤ 1 := fun j => hT.2 28 j
  have A39 : ∀ j, 0 ≤ τ3.2.1 39 j ∧ τ3.2.1 39 j ≤ 1499 := fun j => hT.2 39 j
  have v0 : 0 ≤ τ3.1 0 ∧ τ3.1 0 ≤ 60000 := hT.1 0
  have v3 : 0 ≤ τ3.1 3 ∧ τ3.1 3 ≤ 1000 := hT.1 3
  have v5 : 0 ≤ τ3.1 5 ∧ τ3.1 5 ≤ 1500 := hT.1 5
  have v6 : 0 ≤ τ3.1 6 ∧ τ3.1 6 ≤ 30000 := hT.1 6
  have v7 : 0 ≤ τ3.1 7 ∧ τ3.1 7 ≤ 90000 := hT.1 7
  have v8 : 0 ≤ τ3.1 8 ∧ τ3.1 8 ≤ 20000 := hT.1 8
  have v9 : 0 ≤ τ3.1 9 ∧ τ3.1 9 ≤ 20000 := hT.1 9
  have v16 : 0 ≤ τ3.1 16 ∧ τ3.1 16 ≤ 60000 := hT.1 16
  have v17 : 0 ≤ τ3.1 17 ∧ τ3.1 17 ≤ 60000 := hT.1 17
  have v18 : 0 ≤ τ3.1 18 ∧ τ3.1 18 ≤ 60000 := hT.1 18
  have v19 : (-1) ≤ τ3.1 19 ∧ τ3.1 19 ≤ 125 := hT.1 19
  have v20 : 0 ≤ τ3.1 20 ∧ τ3.1 20 ≤ 19 := hT.1 20
  have v22 : 0 ≤ τ3.1 22 ∧ τ3.1 22 ≤ 1499 := hT.1 22
  have v25 : 0 ≤ τ3.1 25 ∧ τ3.1 25 ≤ 300 := hT.1 25
  have v26 : 0 ≤ τ3.1 26 ∧ τ3.1 26 ≤ 5000010 := hT.1 26
  have v27 : 0 ≤ τ3.1 27 ∧ τ3.1 27 ≤ 1 := hT.1 27
  have v28 : 0 ≤ τ3.1 28 ∧ τ3.1 28 ≤ 1 := hT.1 28
  have v29 : 0 ≤ τ3.1 29 ∧ τ3.1 29 ≤ 300 := hT.1 29
  have a18_22 : 0 ≤ τ3.2.1 18 (τ3.1 22) ∧ τ3.2.1 18 (τ3.1 22) ≤ 90000 := hT.2 18 _
  have a19_22 : 0 ≤ τ3.2.1 19 (τ3.1 22) ∧ τ3.2.1 19 (τ3.1 22) ≤ 60 := hT.2 19 _
  have a25_22 : 0 ≤ τ3.2.1 25 (τ3.1 22) ∧ τ3.2.1 25 (τ3.1 22) ≤ 20000 := hT.2 25 _
  have a26_22 : 0 ≤ τ3.2.1 26 (τ3.1 22) ∧ τ3.2.1 26 (τ3.1 22) ≤ 20000 := hT.2 26 _
  have av9 : σ.1 9 ≤ τ3.1 9 := ag.1 9 (by decide)
  refine ⟨fun c4 => ?_, fun c4 => ?_⟩
  ·
    replace ag := ag_v (i := 26) (x := 0) ag (Or.inl rfl)
    replace hT := mT_v (i := 26) hT (show (0 : Int) ≤ 0 ∧ 0 ≤ 5000010 from by (first | omega | (simp only [st_s] <;> omega) | assumption | omega | fail))
    replace ag := ag_v (i := 27) (x := 0) ag (Or.inl rfl)
    replace hT := mT_v (i := 27) hT (show (0 : Int) ≤ 0 ∧ 0 ≤ 1 from by (first | omega | (simp only [st_s] <;> omega) | assumption | omega | fail))
    replace ag := ag_v (i := 28) (x := 0) ag (Or.inl rfl)
    replace hT := mT_v (i := 28) hT (show (0 : Int) ≤ 0 ∧ 0 ≤ 1 from by (first | omega | (simp only [st_s] <;> omega) | assumption | omega | fail))
    replace ag := ag_v (i := 29) (x := 0) ag (Or.inl rfl)
    replace hT := mT_v (i := 29) hT (show (0 : Int) ≤ 0 ∧ 0 ≤ 300 from by (first | omega | (simp only [st_s] <;> omega) | assumption | omega | fail))
    refine ⟨_, K_X13_next hT (show (τ3.1 16) ≤ (τ3.1 0) from by (first | omega | (simp only [st_s] <;> omega) | assumption | omega | fail)), ?_⟩
    intro τ7 hn_τ7 hf_τ7 hq
    obtain ⟨hT, q5_1, q5_2, q5_3, q5_4, q5_5⟩ := hq
    replace q5_1 : (τ7.1 16) ≤ (τ7.1 0) := q5_1
    replace q5_2 : (τ7.1 17) + (τ7.1 18) ≤ (τ7.1 0) := q5_2
    replace q5_3 : (τ3.1 16) ≤ (τ7.1 16) := q5_3
    replace q5_4 : ¬ (τ3.1 20) = 0 → (τ7.1 20) = (τ3.1 20) := q5_4
    replace q5_5 : (τ7.1 20) = 0 → ¬ (τ7.1 19) = 0 → (τ3.1 16) < (τ7.1 16) ∧ 0 < (τ7.1 18) := q5_5
    replace ag : m_ag σ τ7 := ag_r ag hf_τ7 rfl rfl
    have w0_τ7 : τ7.1 0 = τ3.1 0 := hf_τ7.1 0 (by decide)
    have w3_τ7 : τ7.1 3 = τ3.1 3 := hf_τ7.1 3 (by decide)
    have w5_τ7 : τ7.1 5 = τ3.1 5 := hf_τ7.1 5 (by decide)
    have w6_τ7 : τ7.1 6 = τ3.1 6 := hf_τ7.1 6 (by decide)
    have w7_τ7 : τ7.1 7 = τ3.1 7 := hf_τ7.1 7 (by decide)
    have w8_τ7 : τ7.1 8 = τ3.1 8 := hf_τ7.1 8 (by decide)
    have w9_τ7 : τ7.1 9 = τ3.1 9 := hf_τ7.1 9 (by decide)
    have w22_τ7 : τ7.1 22 = τ3.1 22 := hf_τ7.1 22 (by decide)
    have w25_τ7 : τ7.1 25 = τ3.1 25 := hf_τ7.1 25 (by decide)
    have w26_τ7 : τ7.1 26 = 0 := hf_τ7.1 26 (by decide)
    have w27_τ7 : τ7.1 27 = 0 := hf_τ7.1 27 (by decide)
    have w28_τ7 : τ7.1 28 = 0 := hf_τ7.1 28 (by decide)
    have w29_τ7 : τ7.1 29 = 0 := hf_τ7.1 29 (by decide)
    have g6_τ7 : τ7.2.1 6 = τ3.2.1 6 := hf_τ7.2.1 6 (by decide)
    have g7_τ7 : τ7.2.1 7 = τ3.2.1 7 := hf_τ7.2.1 7 (by decide)
    have g18_τ7 : τ7.2.1 18 = τ3.2.1 18 := hf_τ7.2.1 18 (by decide)
    have g19_τ7 : τ7.2.1 19 = τ3.2.1 19 := hf_τ7.2.1 19 (by decide)
    have g20_τ7 : τ7.2.1 20 = τ3.2.1 20 := hf_τ7.2.1 20 (by decide)
    have g25_τ7 : τ7.2.1 25 = τ3.2.1 25 := hf_τ7.2.1 25 (by decide)
    have g26_τ7 : τ7.2.1 26 = τ3.2.1 26 := hf_τ7.2.1 26 (by decide)
    have g27_τ7 : τ7.2.1 27 = τ3.2.1 27 := hf_τ7.2.1 27 (by decide)
    have g28_τ7 : τ7.2.1 28 = τ3.2.1 28 := hf_τ7.2.1 28 (by decide)
    have g39_τ7 : τ7.2.1 39 = τ3.2.1 39 := hf_τ7.2.1 39 (by decide)
    first | (have o6_τ7 := congrArg oc g6_τ7) | skip
    first | (have o7_τ7 := congrArg oc g7_τ7) | skip
    have W0 : τ7.1 0 = σ.1 0 := by first | exact w0_τ7.trans W0 | omega
    have W3 : τ7.1 3 = σ.1 3 := by first | exact w3_τ7.trans W3 | omega
    have W5 : τ7.1 5 = σ.1 5 := by first | exact w5_τ7.trans W5 | omega
    have W6 : τ7.1 6 = σ.1 6 := by first | exact w6_τ7.trans W6 | omega
    have W7 : τ7.1 7 = σ.1 7 := by first | exact w7_τ7.trans W7 | omega
    have W8 : τ7.1 8 = σ.1 8 := by first | exact w8_τ7.trans W8 | omega
    have W22 : τ7.1 22 = σ.1 22 := by first | exact w22_τ7.trans W22 | omega
    have G6 : τ7.2.1 6 = σ.2.1 6 := (g6_τ7).trans G6
    have G7 : τ7.2.1 7 = σ.2.1 7 := (g7_τ7).trans G7
    have G18 : τ7.2.1 18 = σ.2.1 18 := (g18_τ7).trans G18
    have G19 : τ7.2.1 19 = σ.2.1 19 := (g19_τ7).trans G19
    have G20 : τ7.2.1 20 = σ.2.1 20 := (g20_τ7).trans G20
    have G25 : τ7.2.1 25 = σ.2.1 25 := (g25_τ7).trans G25
    have y18_22_τ7 : τ7.2.1 18 (τ7.1 22) = (τ3.2.1 18) (τ3.1 22) := by rw [g18_τ7, w22_τ7]
    have y19_22_τ7 : τ7.2.1 19 (τ7.1 22) = (τ3.2.1 19) (τ3.1 22) := by rw [g19_τ7, w22_τ7]
    have y25_22_τ7 : τ7.2.1 25 (τ7.1 22) = (τ3.2.1 25) (τ3.1 22) := by rw [g25_τ7, w22_τ7]
    have y26_22_τ7 : τ7.2.1 26 (τ7.1 22) = (τ3.2.1 26) (τ3.1 22) := by rw [g26_τ7, w22_τ7]
    have Z4 : τ7.2.1 25 (τ7.1 22) + τ7.2.1 26 (τ7.1 22) = (τ7.1 9) := by rw [show (τ7.2.1 25 (τ7.1 22) + τ7.2.1 26 (τ7.1 22) = (τ7.1 9)) = (τ3.2.1 25 (τ3.1 22) + τ3.2.1 26 (τ3.1 22) = (τ3.1 9)) from by rw [w9_τ7, w22_τ7, g25_τ7, g26_τ7]]; exact Z4
    have Y13 : j_eq (σ.2.1 25 (σ.1 22)) (σ.2.1 28) (τ7.2.1 28) := by rw [show (j_eq (σ.2.1 25 (σ.1 22)) (σ.2.1 28) (τ7.2.1 28)) = (j_eq (σ.2.1 25 (σ.1 22)) (σ.2.1 28) (τ3.2.1 28)) from by rw [g28_τ7]]; exact Y13
    have Y14 : ca (τ7.2.1 28) ((τ7.1 9)) ≤ ca (τ7.2.1 28) (τ7.2.1 25 (τ7.1 22)) + 300 := by rw [show (ca (τ7.2.1 28) ((τ7.1 9)) ≤ ca (τ7.2.1 28) (τ7.2.1 25 (τ7.1 22)) + 300) = (ca (τ3.2.1 28) ((τ3.1 9)) ≤ ca (τ3.2.1 28) (τ3.2.1 25 (τ3.1 22)) + 300) from by rw [w9_τ7, w22_τ7, g25_τ7, g28_τ7]]; exact Y14
    have NSP : n_sp2 (τ7.2.1 25 (τ7.1 22)) (τ7.1 9) (τ7.1 22) (τ7.2.1 27) (τ7.2.1 28) := by rw [show (n_sp2 (τ7.2.1 25 (τ7.1 22)) (τ7.1 9) (τ7.1 22) (τ7.2.1 27) (τ7.2.1 28)) = (n_sp2 (τ3.2.1 25 (τ3.1 22)) (τ3.1 9) (τ3.1 22) (τ3.2.1 27) (τ3.2.1 28)) from by rw [w9_τ7, w22_τ7, g25_τ7, g27_τ7, g28_τ7]]; exact NSP
    have PK : ∀ k : Int, 0 ≤ k → k < (τ7.1 25) → τ7.2.1 39 k < (τ7.1 22) := by rw [show (∀ k : Int, 0 ≤ k → k < (τ7.1 25) → τ7.2.1 39 k < (τ7.1 22)) = (∀ k : Int, 0 ≤ k → k < (τ3.1 25) → τ3.2.1 39 k < (τ3.1 22)) from by rw [w22_τ7, w25_τ7, g39_τ7]]; exact PK
    have HYN : ∀ k : Int, 0 ≤ k → k < τ7.2.1 19 (τ7.1 22) → τ7.2.1 20 (τ7.2.1 18 (τ7.1 22) + k) < (τ7.1 22) := by rw [show (∀ k : Int, 0 ≤ k → k < τ7.2.1 19 (τ7.1 22) → τ7.2.1 20 (τ7.2.1 18 (τ7.1 22) + k) < (τ7.1 22)) = (∀ k : Int, 0 ≤ k → k < τ3.2.1 19 (τ3.1 22) → τ3.2.1 20 (τ3.2.1 18 (τ3.1 22) + k) < (τ3.1 22)) from by rw [w22_τ7, g18_τ7, g19_τ7, g20_τ7]]; exact HYN
    have A6 : ∀ j, (-1) ≤ τ7.2.1 6 j ∧ τ7.2.1 6 j ≤ 999 := fun j => hT.2 6 j
    have A7 : ∀ j, (-1) ≤ τ7.2.1 7 j ∧ τ7.2.1 7 j ≤ 1499 := fun j => hT.2 7 j
    have A18 : ∀ j, 0 ≤ τ7.2.1 18 j ∧ τ7.2.1 18 j ≤ 90000 := fun j => hT.2 18 j
    have A19 : ∀ j, 0 ≤ τ7.2.1 19 j ∧ τ7.2.1 19 j ≤ 60 := fun j => hT.2 19 j
    have A20 : ∀ j, 0 ≤ τ7.2.1 20 j ∧ τ7.2.1 20 j ≤ 1499 := fun j => hT.2 20 j
    have A25 : ∀ j, 0 ≤ τ7.2.1 25 j ∧ τ7.2.1 25 j ≤ 20000 := fun j => hT.2 25 j
    have A26 : ∀ j, 0 ≤ τ7.2.1 26 j ∧ τ7.2.1 26 j ≤ 20000 := fun j => hT.2 26 j
    have A27 : ∀ j, (-300) ≤ τ7.2.1 27 j ∧ τ7.2.1 27 j ≤ 1499 := fun j => hT.2 27 j
    have A28 : ∀ j, 0 ≤ τ7.2.1 28 j ∧ τ7.2.1 28 j ≤ 1 := fun j => hT.2 28 j
    have A39 : ∀ j, 0 ≤ τ7.2.1 39 j ∧ τ7.2.1 39 j ≤ 1499 := fun j => hT.2 39 j
    have v0 : 0 ≤ τ7.1 0 ∧ τ7.1 0 ≤ 60000 := hT.1 0
    have v3 : 0 ≤ τ7.1 3 ∧ τ7.1 3 ≤ 1000 := hT.1 3
    have v5 : 0 ≤ τ7.1 5 ∧ τ7.1 5 ≤ 1500 := hT.1 5
    have v6 : 0 ≤ τ7.1 6 ∧ τ7.1 6 ≤ 30000 := hT.1 6
    have v7 : 0 ≤ τ7.1 7 ∧ τ7.1 7 ≤ 90000 := hT.1 7
    have v8 : 0 ≤ τ7.1 8 ∧ τ7.1 8 ≤ 20000 := hT.1 8
    have v9 : 0 ≤ τ7.1 9 ∧ τ7.1 9 ≤ 20000 := hT.1 9
    have v16 : 0 ≤ τ7.1 16 ∧ τ7.1 16 ≤ 60000 := hT.1 16
    have v17 : 0 ≤ τ7.1 17 ∧ τ7.1 17 ≤ 60000 := hT.1 17
    have v18 : 0 ≤ τ7.1 18 ∧ τ7.1 18 ≤ 60000 := hT.1 18
    have v19 : (-1) ≤ τ7.1 19 ∧ τ7.1 19 ≤ 125 := hT.1 19
    have v20 : 0 ≤ τ7.1 20 ∧ τ7.1 20 ≤ 19 := hT.1 20
    have v22 : 0 ≤ τ7.1 22 ∧ τ7.1 22 ≤ 1499 := hT.1 22
    have v25 : 0 ≤ τ7.1 25 ∧ τ7.1 25 ≤ 300 := hT.1 25
    have v26 : 0 ≤ τ7.1 26 ∧ τ7.1 26 ≤ 5000010 := hT.1 26
    have v27 : 0 ≤ τ7.1 27 ∧ τ7.1 27 ≤ 1 := hT.1 27
    have v28 : 0 ≤ τ7.1 28 ∧ τ7.1 28 ≤ 1 := hT.1 28
    have v29 : 0 ≤ τ7.1 29 ∧ τ7.1 29 ≤ 300 := hT.1 29
    have a18_22 : 0 ≤ τ7.2.1 18 (τ7.1 22) ∧ τ7.2.1 18 (τ7.1 22) ≤ 90000 := hT.2 18 _
    have a19_22 : 0 ≤ τ7.2.1 19 (τ7.1 22) ∧ τ7.2.1 19 (τ7.1 22) ≤ 60 := hT.2 19 _
    have a25_22 : 0 ≤ τ7.2.1 25 (τ7.1 22) ∧ τ7.2.1 25 (τ7.1 22) ≤ 20000 := hT.2 25 _
    have a26_22 : 0 ≤ τ7.2.1 26 (τ7.1 22) ∧ τ7.2.1 26 (τ7.1 22) ≤ 20000 := hT.2 26 _
    have av9 : σ.1 9 ≤ τ7.1 9 := ag.1 9 (by decide)
    have Y10 : ca (τ7.2.1 28) (τ7.1 9) ≤ ca (τ7.2.1 28) (τ7.2.1 25 (τ7.1 22)) + τ7.1 29 := by rw [show τ7.2.1 25 (τ7.1 22) = τ7.1 9 from by omega]; omega
    have Y12 : ¬ τ7.1 28 = 0 → τ7.2.1 25 (τ7.1 22) < τ7.1 9 ∧ τ7.2.1 28 (τ7.1 9 - 1) = 0 := fun z => by omega
    have Y10b : τ7.1 29 + ca (τ7.2.1 28) (τ7.2.1 25 (τ7.1 22)) ≤ ca (τ7.2.1 28) (τ7.1 9) := by (rw [show τ7.2.1 25 (τ7.1 22) = τ7.1 9 from by omega]; omega)
    have Y12c : ¬ τ7.1 28 = 0 → 0 ≤ τ7.2.1 27 (τ7.1 9 - 1) := fun z => by omega
    exact l_36 ((3 * ((τ7.1 0) - (τ7.1 16)) + z_0 ((τ7.1 20)) + 1 - z_0 ((τ7.1 19)) : Int).toNat + 1) _ (show (3 * ((τ7.1 0) - (τ7.1 16)) + z_0 ((τ7.1 20)) + 1 - z_0 ((τ7.1 19)) : Int) < (((3 * ((τ7.1 0) - (τ7.1 16)) + z_0 ((τ7.1 20)) + 1 - z_0 ((τ7.1 19)) : Int).toNat + 1 : Nat) : Int) from by (have zz0 := z_e ((τ7.1 20)); have zz1 := z_e ((τ7.1 19)); (first | omega | (simp only [st_s] <;> omega) | assumption | omega | fail))) hT ag (show τ7.1 0 = σ.1 0 from by first | exact W0 | omega) (show τ7.1 3 = σ.1 3 from by first | exact W3 | omega) (show τ7.1 5 = σ.1 5 from by first | exact W5 | omega) (show τ7.1 6 = σ.1 6 from by first | exact W6 | omega) (show τ7.1 7 = σ.1 7 from by first | exact W7 | omega) (show τ7.1 8 = σ.1 8 from by first | exact W8 | omega) (show τ7.1 22 = σ.1 22 from by first | exact W22 | omega) G6 G7 G18 G19 G20 G25 (show (τ7.1 16) ≤ (τ7.1 0) from by (first | omega | (simp only [st_s] <;> omega) | assumption | omega | fail)) (show (τ7.1 17) + (τ7.1 18) ≤ (τ7.1 0) from by (first | omega | (simp only [st_s] <;> omega) | assumption | omega | fail)) (show oc (τ7.2.1 6) < 4096 from by (first | omega | (simp only [st_s] <;> omega) | assumption | omega | fail)) (show oc (τ7.2.1 7) < 4096 from by (first | omega | (simp only [st_s] <;> omega) | assumption | omega | fail)) (show ¬ (σ.1 20) = 0 → (τ7.1 20) = (σ.1 20) from by (first | omega | (simp only [st_s] <;> omega) | assumption | omega | fail)) (show τ7.2.1 25 (τ7.1 22) + τ7.2.1 26 (τ7.1 22) = (τ7.1 9) from Z4) (show ca (τ7.2.1 28) ((τ7.1 9)) ≤ ca (τ7.2.1 28) (τ7.2.1 25 (τ7.1 22)) + (τ7.1 29) from Y10) (show ¬ (τ7.1 28) = 0 → τ7.2.1 25 (τ7.1 22) < (τ7.1 9) ∧ τ7.2.1 28 ((τ7.1 9) - 1) = 0 from Y12) (show j_eq (σ.2.1 25 (σ.1 22)) (σ.2.1 28) (τ7.2.1 28) from Y13) (show (τ7.1 20) = 0 → (τ7.1 26) ≤ 1000000 from by (first | omega | (simp only [st_s] <;> omega) | assumption | omega | fail)) (show (σ.1 16) ≤ (τ7.1 16) from by (first | omega | (simp only [st_s] <;> omega) | assumption | omega | fail)) (show n_sp2 (τ7.2.1 25 (τ7.1 22)) (τ7.1 9) (τ7.1 22) (τ7.2.1 27) (τ7.2.1 28) from NSP) (show (τ7.1 29) + ca (τ7.2.1 28) (τ7.2.1 25 (τ7.1 22)) ≤ ca (τ7.2.1 28) (τ7.1 9) from Y10b) (show ∀ k : Int, 0 ≤ k → k < (τ7.1 25) → τ7.2.1 39 k < (τ7.1 22) from PK) (show ∀ k : Int, 0 ≤ k → k < τ7.2.1 19 (τ7.1 22) → τ7.2.1 20 (τ7.2.1 18 (τ7.1 22) + k) < (τ7.1 22) from HYN) (show ¬ (τ7.1 28) = 0 → 0 ≤ τ7.2.1 27 ((τ7.1 9) - 1) from Y12c)
  ·
    exact ⟨hT, (show (τ3.1 16) ≤ (τ3.1 0) from by (first | omega | (simp only [st_s] <;> omega) | assumption | omega | fail)), (show (τ3.1 17) + (τ3.1 18) ≤ (τ3.1 0) from by (first | omega | (simp only [st_s] <;> omega) | assumption | omega | fail)), (show ¬ (σ.1 20) = 0 → (τ3.1 20) = (σ.1 20) from by (first | omega | (simp only [st_s] <;> omega) | assumption | omega | fail)), (show τ3.2.1 25 (τ3.1 22) + τ3.2.1 26 (τ3.1 22) = (τ3.1 9) from Z4), (show ca (τ3.2.1 28) ((τ3.1 9)) ≤ ca (τ3.2.1 28) (τ3.2.1 25 (τ3.1 22)) + 300 from Y14), (show j_eq (σ.2.1 25 (σ.1 22)) (σ.2.1 28) (τ3.2.1 28) from Y13), (show oc (τ3.2.1 6) < 4096 from by (first | omega | (simp only [st_s] <;> omega) | assumption | omega | fail)), (show oc (τ3.2.1 7) < 4096 from by (first | omega | (simp only [st_s] <;> omega) | assumption | omega | fail)), (show (σ.1 16) ≤ (τ3.1 16) from by (first | omega | (simp only [st_s] <;> omega) | assumption | omega | fail)), ag, (show n_sp2 (τ3.2.1 25 (τ3.1 22)) (τ3.1 9) (τ3.1 22) (τ3.2.1 27) (τ3.2.1 28) from NSP)⟩
